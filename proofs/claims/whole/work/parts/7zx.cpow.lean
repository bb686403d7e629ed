/-! raise, power of the class -/
theorem zor_0 {f : Int} (h : -2147483648 ≤ f ∧ f < 2147483648) : zor f 0 = f := by
  unfold zor
  rw [show Int32.ofInt 0 = 0 from rfl, Int32.or_zero, oI h.1 h.2]
section
variable {least greatest gradual sg mode f ex : Int} {p z L A : Nat} {n : Int}
theorem sPow_v {S : Nat → Nat → Int} {V : Nat → Nat} {r a : Nat} {n mode : Int} : sPow (vS S) (vV V) r a n mode =
  (if n = 0 then oR (S (30 + 3 * r) 0) (S 78 0) (S 78 1) (S 78 2) 0 mode 0 1 0 (S 78 3)
  else if S (30 + 3 * a) 1 = 0 then oS 0 0 (S 78 3)
  else if S (30 + 3 * a) 1 ≠ 3 then oS (if 0 < n then S (30 + 3 * a) 1 else if S (30 + 3 * a) 1 = 2 then 1 else 2) (if S (30 + 3 * a) 2 ≠ 0 ∧ n % 2 ≠ 0 then 1 else 0) (if n < 0 ∧ S (30 + 3 * a) 1 = 2 then zor (S 78 3) 16 else S 78 3)
  else if 0 < n then oR (S (30 + 3 * r) 0) (S 78 0) (S 78 1) (S 78 2) (if S (30 + 3 * a) 2 ≠ 0 ∧ n % 2 ≠ 0 then 1 else 0) mode 0 (V (30 + 3 * a + 1) ^ n.natAbs) ((S (30 + 3 * a) 3 - S (30 + 3 * a) 0) * n.natAbs) (S 78 3)
  else oR (S (30 + 3 * r) 0) (S 78 0) (S 78 1) (S 78 2) (if S (30 + 3 * a) 2 ≠ 0 ∧ n % 2 ≠ 0 then 1 else 0) mode (if ratX (S (30 + 3 * r) 0) 1 (V (30 + 3 * a + 1) ^ n.natAbs) % V (30 + 3 * a + 1) ^ n.natAbs = 0 then 0 else 1) (ratX (S (30 + 3 * r) 0) 1 (V (30 + 3 * a + 1) ^ n.natAbs) / V (30 + 3 * a + 1) ^ n.natAbs) (0 - moreOf (S (30 + 3 * r) 0) 1 (V (30 + 3 * a + 1) ^ n.natAbs) - (S (30 + 3 * a) 3 - S (30 + 3 * a) 0) * n.natAbs) (S 78 3)) := by
  unfold sPow sRat
  rw [vV_r]
  rfl
theorem pw_pos (hL : 0 < L) (hA : A = 2 ^ z * L) (hn : 0 < n) : pwO p least greatest gradual sg mode n L (n * (ex + (z : Int))) f = oR (p : Int) least greatest gradual sg mode 0 (A ^ n.natAbs) (ex * (n.natAbs : Int)) f := by
  unfold pwO
  rw [if_pos hn, hA, Nat.mul_pow, ← Nat.pow_mul, Nat.mul_comm (2 ^ (z * n.natAbs))]
  have h1 := oR_sc (p := (p : Int)) (least := least) (greatest := greatest) (gradual := gradual) (sg := sg) (mode := mode) (e := n * (ex + (z : Int))) (f := f) (m := L ^ n.natAbs) (k := z * n.natAbs) (Nat.ne_of_gt (Nat.pow_pos hL))
  rw [← h1]
  congr 1
  rw [Int.natCast_mul, show (n.natAbs : Int) = n by omega, Int.mul_add, Int.mul_comm n ex, Int.mul_comm n (z : Int)]
  omega
theorem pw_neg (hL : 0 < L) (hA : A = 2 ^ z * L) (hn : n < 0) : pwO p least greatest gradual sg mode n L (n * (ex + (z : Int))) f = oR (p : Int) least greatest gradual sg mode (if ratX (p : Int) 1 (A ^ n.natAbs) % A ^ n.natAbs = 0 then 0 else 1) (ratX (p : Int) 1 (A ^ n.natAbs) / A ^ n.natAbs) (0 - moreOf (p : Int) 1 (A ^ n.natAbs) - ex * (n.natAbs : Int)) f := by
  unfold pwO
  rw [if_neg (by omega)]
  obtain ⟨T, eT⟩ : ∃ T, T = L ^ n.natAbs := ⟨_, rfl⟩
  have T0 : 0 < T := by rw [eT]; exact Nat.pow_pos hL
  have eA : A ^ n.natAbs = T * 2 ^ (z * n.natAbs) := by rw [hA, Nat.mul_pow, ← Nat.pow_mul, Nat.mul_comm, eT]
  have hx : xbl (A ^ n.natAbs) = xbl T + z * n.natAbs := by rw [eA]; exact xbl_pow _ _ (by omega)
  rw [← eT]
  obtain ⟨zm, ezm⟩ : ∃ zm, zm = z * n.natAbs := ⟨_, rfl⟩
  rw [← ezm] at eA hx
  have hmo : moreOf (p : Int) 1 (A ^ n.natAbs) = ((p + 2 + xbl T + zm : Nat) : Int) := by
    unfold moreOf
    rw [hx, xbl_one]
    omega
  unfold ratX
  rw [hmo, eA, show (((p + 2 + xbl T + zm : Nat) : Int)).toNat = (p + 2 + xbl T) + zm from rfl]
  have e1 : 1 * 2 ^ (p + 2 + xbl T + zm) = 1 * 2 ^ (p + 2 + xbl T) * 2 ^ zm := by rw [Nat.pow_add _ (p + 2 + xbl T) zm, ← Nat.mul_assoc]
  have e2 : 1 * 2 ^ (p + 2 + xbl T) * 2 ^ zm / (T * 2 ^ zm) = 1 * 2 ^ (p + 2 + xbl T) / T := Nat.mul_div_mul_right _ _ (Nat.two_pow_pos _)
  have e3 : (1 * 2 ^ (p + 2 + xbl T) * 2 ^ zm % (T * 2 ^ zm) = 0) = (1 * 2 ^ (p + 2 + xbl T) % T = 0) := by
    rw [Nat.mul_mod_mul_right]
    refine propext ⟨fun h => ?_, fun h => by rw [h, Nat.zero_mul]⟩
    rcases Nat.mul_eq_zero.mp h with g | g
    · exact g
    · exact absurd g (Nat.ne_of_gt (Nat.two_pow_pos _))
  rw [e1, e2]
  simp only [e3]
  have r1 := oR_rc (least := least) (greatest := greatest) (gradual := gradual) (sg := sg) (mode := mode) (e := n * (ex + (z : Int))) (f := f) (p := p) T0 (a := xbl T + p + 3) (a0 := p + 2 + xbl T) (by have := xbl_ge (rc_ge T0 (xbl T + p + 3) (p + 3) (by omega)); omega) (by have := xbl_ge (rc_ge T0 (p + 2 + xbl T) (p + 2) (by omega)); omega)
  rw [r1]
  congr 1
  have h3 : (zm : Int) = (z : Int) * (n.natAbs : Int) := by rw [ezm, Int.natCast_mul]
  rw [show n = -(n.natAbs : Int) by omega, Int.neg_mul, Int.mul_add, Int.mul_comm _ ex, Int.mul_comm _ (z : Int), ← h3]
  simp only [Int.natAbs_neg, Int.natAbs_natCast]
  generalize ex * (n.natAbs : Int) = q
  omega
end
section
variable {w0 w : xW} {L Z : Nat} {S : Nat → Nat → Int} {V : Nat → Nat} {d h t r : Nat}
theorem pw_sbP {scl n q : Int} (h : scl = n * q) (hn : 0 < n ∧ n ≤ 32) (hq : -24575 ≤ q) (hq2 : q ≤ 20479) : -786400 ≤ scl ∧ scl ≤ 655328 := by
  have a1 := Int.mul_le_mul_of_nonneg_left hq (show 0 ≤ n by omega)
  have a2 := Int.mul_le_mul_of_nonneg_left hq2 (show 0 ≤ n by omega)
  omega
theorem pw_sbN {scl n q : Int} (h : scl = n * q) (hn : -32 ≤ n ∧ n < 0) (hq : -24575 ≤ q) (hq2 : q ≤ 20479) : -655328 ≤ scl ∧ scl ≤ 786400 := by
  have a1 := Int.mul_le_mul_of_nonpos_left (show n ≤ 0 by omega) hq
  have a2 := Int.mul_le_mul_of_nonpos_left (show n ≤ 0 by omega) hq2
  omega
set_option maxHeartbeats 8000000 in
theorem x_rpP {r a n mode : Int} (hR : cX w0 L Z S V w) (hI : cI S V) (hr : 0 ≤ r ∧ r ≤ 15) (ha : 0 ≤ a ∧ a ≤ 15) (hn : -32 ≤ n ∧ n ≤ 32) (hmo : 0 ≤ mode ∧ mode ≤ 4) (hfl : -2147483648 ≤ S 78 3 ∧ S 78 3 < 2147483648) (hsn : 0 < n) : ∃ w', xRun (d + 11) 102 [Value.ref 93, Value.ref (30 + 3 * r.toNat), Value.ref (30 + 3 * a.toNat), Value.int (Int32.ofInt n), Value.int (Int32.ofInt mode)] w (.inl (some (.int (Int32.ofInt (sPow (vS S) (vV V) r.toNat a.toNat n mode).2.2.2.2.1)))) w' ∧ ∃ S' V', cX w0 L Z S' V' w' ∧ cOut S S' V V' (30 + 3 * r.toNat) (sPow (vS S) (vV V) r.toNat a.toNat n mode) := by
  have key : ∀ lv, xld lv 0 = some (Value.ref 93) → xld lv 1 = some (Value.ref (30 + 3 * r.toNat)) → xld lv 2 = some (Value.ref (30 + 3 * a.toNat)) → xld lv 3 = some (Value.int (Int32.ofInt n)) → xld lv 4 = some (Value.int (Int32.ofInt mode)) → xEv (d + 11) 102 0 lv [] w (fun o w' => o = .inl (some (.int (Int32.ofInt (sPow (vS S) (vV V) r.toNat a.toNat n mode).2.2.2.2.1))) ∧ ∃ S' V', cX w0 L Z S' V' w' ∧ cOut S S' V V' (30 + 3 * r.toNat) (sPow (vS S) (vV V) r.toNat a.toNat n mode)) := by
    intro lv l0 l1 l2 l3 l4
    obtain ⟨hp_r, hk_r, hn_r, ht_r, hx_r, hz_r⟩ := hI.1 r.toNat (by omega)
    obtain ⟨hp_a, hk_a, hn_a, ht_a, hx_a, hz_a⟩ := hI.1 a.toNat (by omega)
    have hi_l := hI.2.1
    have hi_g := hI.2.2.1
    have hm_a : S (30 + 3 * a.toNat) 1 = 3 → V (30 + 3 * a.toNat + 1) ≠ 0 := fun e => hI.nz (by omega) e
    have htm := tm2 n
    have hpw : pwP S := hI.2.2.2.1
    have tail : ∀ sg lv, sg = (if S (30 + 3 * a.toNat) 2 ≠ 0 ∧ n % 2 ≠ 0 then 1 else 0) → (sg = 0 ∨ sg = 1) → xld lv 0 = some (Value.ref 93) → xld lv 1 = some (Value.ref (30 + 3 * r.toNat)) → xld lv 2 = some (Value.ref (30 + 3 * a.toNat)) → xld lv 3 = some (Value.int (Int32.ofInt n)) → xld lv 4 = some (Value.int (Int32.ofInt mode)) → xEv (d + 11) 102 18 lv [.int (Int32.ofInt sg)] w (fun o w' => o = .inl (some (.int (Int32.ofInt (sPow (vS S) (vV V) r.toNat a.toNat n mode).2.2.2.2.1))) ∧ ∃ S' V', cX w0 L Z S' V' w' ∧ cOut S S' V V' (30 + 3 * r.toNat) (sPow (vS S) (vV V) r.toNat a.toNat n mode)) := by
      intro sg lv hsg hsg1 l0 l1 l2 l3 l4
      refine i_102_18 rfl ?_
      refine lgen1 (i := 5) (v := Value.int (Int32.ofInt sg)) (fun lv lg ls => ?_)
      replace l0 := lg 0 _ rfl rfl l0
      replace l1 := lg 1 _ rfl rfl l1
      replace l2 := lg 2 _ rfl rfl l2
      replace l3 := lg 3 _ rfl rfl l3
      replace l4 := lg 4 _ rfl rfl l4
      have l5 := ls
      refine i_102_20 (x := Int32.ofInt n) l3 ?_
      refine i_102_21 (z_ne (a := n) ⟨by omega, by omega⟩ fun c20 => ?_) (z_eq (a := n) ⟨by omega, by omega⟩ fun c20 => absurd c20 (by omega))
      refine i_102_49 (x := 30 + 3 * a.toNat) l2 ?_
      refine i_102_50 (v := Value.int (Int32.ofInt (S (30 + 3 * a.toNat) 1))) (hR.k2 (kd_reg (r := a.toNat) (by omega))) rfl ?_
      refine i_102_53 (z_ne (a := S (30 + 3 * a.toNat) 1) ⟨by omega, by omega⟩ fun c21 => ?_) (z_eq (a := S (30 + 3 * a.toNat) 1) ⟨by omega, by omega⟩ fun c21 => ?_)
      · refine i_102_61 (x := 30 + 3 * a.toNat) l2 ?_
        refine i_102_62 (v := Value.int (Int32.ofInt (S (30 + 3 * a.toNat) 1))) (hR.k2 (kd_reg (r := a.toNat) (by omega))) rfl ?_
        refine i_102_65 ?_
        refine i_102_66 (b_eq (a := S (30 + 3 * a.toNat) 1) (b := 3) ⟨by omega, by omega⟩ ⟨by decide, by decide⟩ fun c22 => ?_) (b_ne (a := S (30 + 3 * a.toNat) 1) (b := 3) ⟨by omega, by omega⟩ ⟨by decide, by decide⟩ fun c22 => ?_)
        · try replace ht_a := ht_a.resolve_left (by omega)
          try replace hx_a := hx_a.resolve_left (by omega)
          refine i_102_148 (x := 30 + 3 * a.toNat) l2 ?_
          refine i_102_149 (v := Value.ref ((30 + 3 * a.toNat) + 1)) (hR.k2 (kd_reg (r := a.toNat) (by omega))) rfl ?_
          obtain ⟨fs, hobj⟩ := hR.nat (kd_rem (r := a.toNat) (by omega))
          obtain ⟨z, K, hrun, hzz⟩ := X_zeros (d := d + 9) (h := (30 + 3 * a.toNat) + 1) (u := V ((30 + 3 * a.toNat) + 1)) hR (kd_rem (r := a.toNat) (by omega)) (rfl)
          have ec : V ((30 + 3 * a.toNat) + 1) = 2 ^ z * (2 * K + 1) := hzz.resolve_left (fun e => hm_a (by omega) e.1)
          have hzb : z < xbl (V ((30 + 3 * a.toNat) + 1)) := xbl_ge (show 2 ^ z ≤ V ((30 + 3 * a.toNat) + 1) by rw [ec]; exact Nat.le_mul_of_pos_right _ (by omega))
          have eL : shf (V ((30 + 3 * a.toNat) + 1)) (-(z : Int)) = 2 * K + 1 := by rw [ec, Nat.mul_comm]; exact shf_back
          obtain ⟨Lo, eLo⟩ : ∃ Lo, Lo = 2 * K + 1 := ⟨_, rfl⟩
          rw [← eLo] at ec eL
          have hLb : xbl Lo ≤ 4096 := by rw [← eL]; have := shf_ble (V ((30 + 3 * a.toNat) + 1)) (-(z : Int)); omega
          refine i_102_152 hobj (Nat.le_of_ble_eq_true rfl) hrun ?_
          refine i_102_155 rfl ?_
          refine lgen1 (i := 6) (v := Value.int (Int32.ofInt (z : Int))) (fun lv lg ls => ?_)
          replace l5 := lg 5 _ rfl rfl l5
          replace l0 := lg 0 _ rfl rfl l0
          replace l1 := lg 1 _ rfl rfl l1
          replace l2 := lg 2 _ rfl rfl l2
          replace l3 := lg 3 _ rfl rfl l3
          replace l4 := lg 4 _ rfl rfl l4
          have l6 := ls
          refine i_102_157 (x := 93) l0 ?_
          refine i_102_158 (v := Value.ref 99) (hR.k8 kq_93) rfl ?_
          refine i_102_161 (x := 30 + 3 * a.toNat) l2 ?_
          refine i_102_162 (v := Value.ref ((30 + 3 * a.toNat) + 1)) (hR.k2 (kd_reg (r := a.toNat) (by omega))) rfl ?_
          refine i_102_165 (x := Int32.ofInt (z : Int)) l6 ?_
          refine i_102_167 (c := Int32.ofInt (-(z : Int))) (o_neg (z : Int)) ?_
          obtain ⟨fs, hobj⟩ := hR.nat kq_99
          obtain ⟨w, hrun, hR⟩ := X_shift (d := d + 7) (h := 99) (h2 := (30 + 3 * a.toNat) + 1) (u := V ((30 + 3 * a.toNat) + 1)) (k := -(z : Int)) hR kq_99 (kd_rem (r := a.toNat) (by omega)) rfl (by omega) (by omega)
          rw [show shf (V ((30 + 3 * a.toNat) + 1)) (-(z : Int)) = Lo from eL] at hR
          refine i_102_168 hobj (Nat.le_of_ble_eq_true rfl) hrun ?_
          refine i_102_171 (x := Int32.ofInt n) l3 ?_
          refine i_102_172 (x := 30 + 3 * a.toNat) l2 ?_
          refine i_102_173 (v := Value.int (Int32.ofInt (S (30 + 3 * a.toNat) 3))) (hR.k2 (kd_reg (r := a.toNat) (by omega))) rfl ?_
          refine i_102_176 (x := 30 + 3 * a.toNat) l2 ?_
          refine i_102_177 (v := Value.int (Int32.ofInt (S (30 + 3 * a.toNat) 0))) (hR.k2 (kd_reg (r := a.toNat) (by omega))) rfl ?_
          refine i_102_180 (c := Int32.ofInt ((S (30 + 3 * a.toNat) 3) - (S (30 + 3 * a.toNat) 0))) (o_sub (S (30 + 3 * a.toNat) 3) (S (30 + 3 * a.toNat) 0)) ?_
          refine i_102_181 (x := Int32.ofInt (z : Int)) l6 ?_
          refine i_102_183 (c := Int32.ofInt (((S (30 + 3 * a.toNat) 3) - (S (30 + 3 * a.toNat) 0)) + (z : Int))) (o_add ((S (30 + 3 * a.toNat) 3) - (S (30 + 3 * a.toNat) 0)) (z : Int)) ?_
          refine i_102_184 (c := Int32.ofInt (n * (((S (30 + 3 * a.toNat) 3) - (S (30 + 3 * a.toNat) 0)) + (z : Int)))) (o_mul n (((S (30 + 3 * a.toNat) 3) - (S (30 + 3 * a.toNat) 0)) + (z : Int))) ?_
          obtain ⟨scl, hscl⟩ : ∃ scl : Int, scl = n * (((S (30 + 3 * a.toNat) 3) - (S (30 + 3 * a.toNat) 0)) + (z : Int)) := ⟨_, rfl⟩
          rw [← hscl]
          have hsb := pw_sbP hscl (by omega) (by omega) (by omega)
          have hL0 : 0 < Lo := by omega
          refine i_102_185 rfl ?_
          refine lgen1 (i := 7) (v := Value.int (Int32.ofInt (scl))) (fun lv lg ls => ?_)
          replace l6 := lg 6 _ rfl rfl l6
          replace l5 := lg 5 _ rfl rfl l5
          replace l0 := lg 0 _ rfl rfl l0
          replace l1 := lg 1 _ rfl rfl l1
          replace l2 := lg 2 _ rfl rfl l2
          replace l3 := lg 3 _ rfl rfl l3
          replace l4 := lg 4 _ rfl rfl l4
          have l7 := ls
          refine i_102_187 (x := 30 + 3 * r.toNat) l1 ?_
          refine i_102_188 (v := Value.int (Int32.ofInt (S (30 + 3 * r.toNat) 0))) (hR.k2 (kd_reg (r := r.toNat) (by omega))) rfl ?_
          refine i_102_191 rfl ?_
          refine lgen1 (i := 8) (v := Value.int (Int32.ofInt (S (30 + 3 * r.toNat) 0))) (fun lv lg ls => ?_)
          replace l7 := lg 7 _ rfl rfl l7
          replace l6 := lg 6 _ rfl rfl l6
          replace l5 := lg 5 _ rfl rfl l5
          replace l0 := lg 0 _ rfl rfl l0
          replace l1 := lg 1 _ rfl rfl l1
          replace l2 := lg 2 _ rfl rfl l2
          replace l3 := lg 3 _ rfl rfl l3
          replace l4 := lg 4 _ rfl rfl l4
          have l8 := ls
          refine i_102_193 (x := 93) l0 ?_
          refine i_102_194 (x := Int32.ofInt n) l3 ?_
          refine i_102_195 (x := Int32.ofInt (S (30 + 3 * r.toNat) 0)) l8 ?_
          refine i_102_197 (x := Int32.ofInt (S (30 + 3 * r.toNat) 0)) l8 ?_
          refine i_102_199 ?_
          refine i_102_201 (c := Int32.ofInt (Int.tdiv (S (30 + 3 * r.toNat) 0) 32)) (o_nz (b := 32) ⟨by decide, by decide⟩) (o_tdiv (a := S (30 + 3 * r.toNat) 0) (b := 32) ⟨by omega, by omega⟩ ⟨by decide, by decide⟩) ?_
          refine i_102_202 ?_
          refine i_102_203 (c := Int32.ofInt ((Int.tdiv (S (30 + 3 * r.toNat) 0) 32) + 4)) (o_add (Int.tdiv (S (30 + 3 * r.toNat) 0) 32) 4) ?_
          obtain ⟨p, epn⟩ : ∃ p : Nat, S (30 + 3 * r.toNat) 0 = (p : Int) := ⟨(S (30 + 3 * r.toNat) 0).toNat, by omega⟩
          have tail2 : ∀ S5 V5 w lv, cX w0 L Z S5 V5 w → nC S S5 → nW V V5 → fpOk p n Lo (S5 94 2) (S5 94 3) (V5 95) → xld lv 0 = some (Value.ref 93) → xld lv 1 = some (Value.ref (30 + 3 * r.toNat)) → xld lv 2 = some (Value.ref (30 + 3 * a.toNat)) → xld lv 3 = some (Value.int (Int32.ofInt n)) → xld lv 4 = some (Value.int (Int32.ofInt mode)) → xld lv 5 = some (Value.int (Int32.ofInt sg)) → xld lv 7 = some (Value.int (Int32.ofInt scl)) → xEv (d + 11) 102 243 lv [] w (fun o w' => o = .inl (some (.int (Int32.ofInt (sPow (vS S) (vV V) r.toNat a.toNat n mode).2.2.2.2.1))) ∧ ∃ S' V', cX w0 L Z S' V' w' ∧ cOut S S' V V' (30 + 3 * r.toNat) (sPow (vS S) (vV V) r.toNat a.toNat n mode)) := by
            intro S5 V5 w lv hR n5 v5 hO l0 l1 l2 l3 l4 l5 l7
            have z0 : S5 (30 + 3 * r.toNat) 0 = (p : Int) := (n5.1 (30 + 3 * r.toNat) 0 (by unfold cKeep; omega)).trans epn
            have z1 : S5 78 0 = S 78 0 := n5.1 78 0 (by unfold cKeep; omega)
            have z2 : S5 78 1 = S 78 1 := n5.1 78 1 (by unfold cKeep; omega)
            have z3 : S5 78 2 = S 78 2 := n5.1 78 2 (by unfold cKeep; omega)
            have z4 : S5 78 3 = S 78 3 := n5.1 78 3 (by unfold cKeep; omega)
            refine i_102_243 (x := 93) l0 ?_
            refine i_102_244 (v := Value.ref 94) (hR.k8 kq_93) rfl ?_
            refine i_102_247 (x := Int32.ofInt sg) l5 ?_
            refine i_102_249 (fs2 := f4 94 (u1 (S5 94) 0 sg)) (hR.k4 kq_94) (o_bool (by omega)) (Nat.le_of_ble_eq_true rfl) rfl (h7k kq_94 (by decide)) ?_
            refine xgen (P := cX w0 L Z (u2 S5 94 0 sg) V5) (hR.p4 kq_94) (fun w hR => ?_)
            refine i_102_252 (x := 93) l0 ?_
            refine i_102_253 (v := Value.ref 94) (hR.k8 kq_93) rfl ?_
            refine i_102_256 rfl ?_
            refine i_102_257 (v := Value.int (Int32.ofInt ((u2 S5 94 0 sg) 94 2))) (hR.k4 kq_94) rfl ?_
            rw [show Int32.ofInt ((u2 S5 94 0 sg) 94 2) = Int32.ofInt (S5 94 2) by rw [u2_eq, if_neg (fun e => absurd e.2 (by decide))]]
            refine i_102_260 (x := Int32.ofInt scl) l7 ?_
            refine i_102_262 (c := Int32.ofInt ((S5 94 2) + scl)) (o_add (S5 94 2) scl) ?_
            refine i_102_263 (fs2 := f4 94 (u1 ((u2 S5 94 0 sg) 94) 2 ((S5 94 2) + scl))) (hR.k4 kq_94) (Nat.le_of_ble_eq_true rfl) rfl (h7k kq_94 (by decide)) ?_
            refine xgen (P := cX w0 L Z (u2 (u2 S5 94 0 sg) 94 2 ((S5 94 2) + scl)) V5) (hR.p4 kq_94) (fun w hR => ?_)
            refine i_102_266 (x := 93) l0 ?_
            refine i_102_267 (v := Value.ref 78) (hR.k8 kq_93) rfl ?_
            refine i_102_270 (x := 30 + 3 * r.toNat) l1 ?_
            refine i_102_271 (x := 93) l0 ?_
            refine i_102_272 (v := Value.ref 94) (hR.k8 kq_93) rfl ?_
            refine i_102_275 (x := Int32.ofInt mode) l4 ?_
            have hobj := hR.k1 kq_78
            have ep : (u2 (u2 S5 94 0 sg) 94 2 ((S5 94 2) + scl)) (30 + 3 * r.toNat) 0 = S5 (30 + 3 * r.toNat) 0 := by rw [u2_eq, if_neg (fun e => absurd e.2 (by decide)), u2_eq, if_neg (fun e => absurd e.1 (by omega))]
            have el : (u2 (u2 S5 94 0 sg) 94 2 ((S5 94 2) + scl)) 78 0 = S5 78 0 := by rw [u2_eq, if_neg (fun e => absurd e.2 (by decide)), u2_eq, if_neg (fun e => absurd e.1 (by decide))]
            have eg : (u2 (u2 S5 94 0 sg) 94 2 ((S5 94 2) + scl)) 78 1 = S5 78 1 := by rw [u2_eq, if_neg (fun e => absurd e.2 (by decide)), u2_eq, if_neg (fun e => absurd e.2 (by decide))]
            have ed : (u2 (u2 S5 94 0 sg) 94 2 ((S5 94 2) + scl)) 78 2 = S5 78 2 := by rw [u2_eq, if_neg (fun e => absurd e.1 (by decide)), u2_eq, if_neg (fun e => absurd e.2 (by decide))]
            have ef : (u2 (u2 S5 94 0 sg) 94 2 ((S5 94 2) + scl)) 78 3 = S5 78 3 := by rw [u2_eq, if_neg (fun e => absurd e.2 (by decide)), u2_eq, if_neg (fun e => absurd e.2 (by decide))]
            have es : (u2 (u2 S5 94 0 sg) 94 2 ((S5 94 2) + scl)) 94 0 = sg := by rw [u2_eq, if_neg (fun e => absurd e.2 (by decide)), u2_eq, if_pos ⟨rfl, rfl⟩]
            have ec2 : (u2 (u2 S5 94 0 sg) 94 2 ((S5 94 2) + scl)) 94 2 = (S5 94 2) + scl := by rw [u2_eq, if_pos ⟨rfl, rfl⟩]
            have em : (u2 (u2 S5 94 0 sg) 94 2 ((S5 94 2) + scl)) 94 3 = S5 94 3 := by rw [u2_eq, if_neg (fun e => absurd e.2 (by decide)), u2_eq, if_neg (fun e => absurd e.2 (by decide))]
            rw [z0] at ep
            rw [z1] at el
            rw [z2] at eg
            rw [z3] at ed
            rw [z4] at ef
            obtain ⟨w, hrun, S6, V6, hR, hP⟩ := x_settleW (d := d + 1) (g := 78) (t := 30 + 3 * r.toNat) (h := 94) (mode := mode) hR kq_78 (kd_reg (r := r.toNat) (by omega)) kq_94 (by rw [ep]; omega) (by rw [es]; omega) (by rw [em]; exact hO.2.2.1) (by omega) hO.1 (show xbl (V5 95) ≤ 600000 by have := hO.2.1; omega) (by rw [ec2]; have := hO.2.2.2.2.1; omega) (show -950000 ≤ (xbl (V5 95) : Int) + (u2 (u2 S5 94 0 sg) 94 2 ((S5 94 2) + scl)) 94 2 ∧ (xbl (V5 95) : Int) + (u2 (u2 S5 94 0 sg) 94 2 ((S5 94 2) + scl)) 94 2 ≤ 950000 by rw [ec2]; have h1 := hO.2.2.2.2.1; have h2 := hO.2.1; omega) (by rw [el, eg]; omega) (by rw [ed]; omega) (by rw [ep, el, ed, ec2, em]; intro u hu; rcases hO.2.2.2.1 with h | h; exact Or.inl h; right; have h2 := rU_ge (p := (p : Int)) (least := S 78 0) (gradual := S 78 2) (free := 0) (x := (xbl (V5 95) : Int) + ((S5 94 2) + scl)); rw [← hu] at h2; omega)
            rw [ep, el, eg, ed, ef, es, ec2, em] at hrun hP
            refine i_102_277 hobj (Nat.le_of_ble_eq_true rfl) hrun ?_
            refine i_102_280 ?_
            have eo : sPow (vS S) (vV V) r.toNat a.toNat n mode = oR (p : Int) (S 78 0) (S 78 1) (S 78 2) sg mode (S5 94 3) (V5 95) ((S5 94 2) + scl) (S 78 3) := by
              rw [hO.2.2.2.2.2 _ _ _ _ _ _ _, hscl]
              rw [sPow_v, if_neg (show ¬ n = 0 by omega), if_neg (by omega), if_neg (by omega), if_pos (by omega), ← hsg, epn]
              exact (pw_pos hL0 ec (by omega)).symm
            rw [eo]
            exact ⟨rfl, _, _, hR, cP_round hP (by omega) ((n5.up (by unfold cKeep; omega) (by omega)).up (by unfold cKeep; omega) (by omega)) v5 (by omega)⟩
          have hobj := hR.k8 kq_93
          obtain ⟨w, b1, hrun, T1, U1, hR, q1, q2, q3, q4, q5⟩ := x_formP (d := d + 4) (p := p) (Lo := Lo) (n := n) (most := (Int.tdiv (S (30 + 3 * r.toNat) 0) 32) + 4) hR hpw (uv_s) (by omega) hLb (by omega) (by omega) (by omega) (by omega) (Or.inl (by rw [Int.tdiv_eq_ediv_of_nonneg (by omega)]; omega))
          rw [← epn] at hrun
          have n1 : nC S T1 := ⟨fun b j hb => by unfold cKeep at hb; exact q1 b j (by omega) (by omega), q1 113 3 (by omega) (by omega), fun _ => q2⟩
          have v1 : nW V U1 := fun i i1 i2 => (q3 i (by omega) (by omega) (by omega) (by omega) (by omega) (by omega) (by omega) (by omega)).trans (uv_n (by omega))
          have x1 : U1 99 = Lo := (q3 99 (by decide) (by decide) (by decide) (by decide) (by decide) (by decide) (by decide) (by decide)).trans uv_s
          have y1 := q2
          have o1 := q4
          have t1 := q5
          refine i_102_204 hobj (Nat.le_of_ble_eq_true rfl) hrun ?_
          refine i_102_207 (zb_t fun c23 => ?_) (zb_f fun c23 => ?_)
          · exact tail2 T1 U1 w lv hR n1 v1 (o1 (by simpa using ‹_›)) l0 l1 l2 l3 l4 l5 l7
          · refine i_102_210 (x := 93) l0 ?_
            refine i_102_211 (x := Int32.ofInt n) l3 ?_
            refine i_102_212 (x := Int32.ofInt (S (30 + 3 * r.toNat) 0)) l8 ?_
            refine i_102_214 (x := Int32.ofInt (S (30 + 3 * r.toNat) 0)) l8 ?_
            refine i_102_216 (x := 30 + 3 * a.toNat) l2 ?_
            refine i_102_217 (v := Value.int (Int32.ofInt (T1 (30 + 3 * a.toNat) 0))) (hR.k2 (kd_reg (r := a.toNat) (by omega))) rfl ?_
            rw [(n1.1 (30 + 3 * a.toNat) 0 (by unfold cKeep; omega))]
            refine i_102_220 (c := Int32.ofInt ((S (30 + 3 * r.toNat) 0) + (S (30 + 3 * a.toNat) 0))) (o_add (S (30 + 3 * r.toNat) 0) (S (30 + 3 * a.toNat) 0)) ?_
            refine i_102_221 ?_
            refine i_102_223 (c := Int32.ofInt (Int.tdiv ((S (30 + 3 * r.toNat) 0) + (S (30 + 3 * a.toNat) 0)) 32)) (o_nz (b := 32) ⟨by decide, by decide⟩) (o_tdiv (a := (S (30 + 3 * r.toNat) 0) + (S (30 + 3 * a.toNat) 0)) (b := 32) ⟨by omega, by omega⟩ ⟨by decide, by decide⟩) ?_
            refine i_102_224 ?_
            refine i_102_226 (c := Int32.ofInt ((Int.tdiv ((S (30 + 3 * r.toNat) 0) + (S (30 + 3 * a.toNat) 0)) 32) + 6)) (o_add (Int.tdiv ((S (30 + 3 * r.toNat) 0) + (S (30 + 3 * a.toNat) 0)) 32) 6) ?_
            have hobj := hR.k8 kq_93
            obtain ⟨w, b2, hrun, T2, U2, hR, q1, q2, q3, q4, q5⟩ := x_formP (d := d + 4) (p := p) (Lo := Lo) (n := n) (most := (Int.tdiv ((S (30 + 3 * r.toNat) 0) + (S (30 + 3 * a.toNat) 0)) 32) + 6) hR y1 x1 (by omega) hLb (by omega) (by omega) (by omega) (by omega) (Or.inl (by rw [Int.tdiv_eq_ediv_of_nonneg (by omega)]; omega))
            rw [← epn] at hrun
            have n2 : nC S T2 := n1.trans ⟨fun b j hb => by unfold cKeep at hb; exact q1 b j (by omega) (by omega), q1 113 3 (by omega) (by omega), fun _ => q2⟩
            have v2 : nW V U2 := v1.trans (fun i i1 i2 => q3 i (by omega) (by omega) (by omega) (by omega) (by omega) (by omega) (by omega) (by omega))
            have x2 : U2 99 = Lo := (q3 99 (by decide) (by decide) (by decide) (by decide) (by decide) (by decide) (by decide) (by decide)).trans x1
            have y2 := q2
            have o2 := q4
            have t2 := q5
            refine i_102_227 hobj (Nat.le_of_ble_eq_true rfl) hrun ?_
            refine i_102_230 (zb_t fun c24 => ?_) (zb_f fun c24 => ?_)
            · exact tail2 T2 U2 w lv hR n2 v2 (o2 (by simpa using ‹_›)) l0 l1 l2 l3 l4 l5 l7
            · refine i_102_233 (x := 93) l0 ?_
              refine i_102_234 (x := Int32.ofInt n) l3 ?_
              refine i_102_235 (x := Int32.ofInt (S (30 + 3 * r.toNat) 0)) l8 ?_
              refine i_102_237 ?_
              have hobj := hR.k8 kq_93
              obtain ⟨w, b3, hrun, T3, U3, hR, q1, q2, q3, q4, q5⟩ := x_formP (d := d + 4) (p := p) (Lo := Lo) (n := n) (most := 16777216) hR y2 x2 (by omega) hLb (by omega) (by omega) (by omega) (by omega) (Or.inr rfl)
              rw [← epn] at hrun
              rw [show Int32.ofInt (16777216 : Int) = 16777216 from rfl] at hrun
              have n3 : nC S T3 := n2.trans ⟨fun b j hb => by unfold cKeep at hb; exact q1 b j (by omega) (by omega), q1 113 3 (by omega) (by omega), fun _ => q2⟩
              have v3 : nW V U3 := v2.trans (fun i i1 i2 => q3 i (by omega) (by omega) (by omega) (by omega) (by omega) (by omega) (by omega) (by omega))
              have x3 : U3 99 = Lo := (q3 99 (by decide) (by decide) (by decide) (by decide) (by decide) (by decide) (by decide) (by decide)).trans x2
              have y3 := q2
              have o3 := q4
              have t3 := q5
              refine i_102_239 hobj (Nat.le_of_ble_eq_true rfl) hrun ?_
              refine i_102_242 rfl ?_
              exact tail2 T3 U3 w lv hR n3 v3 (o3 (t3 rfl)) l0 l1 l2 l3 l4 l5 l7
        · refine i_102_69 (x := 30 + 3 * a.toNat) l2 ?_
          refine i_102_70 (v := Value.int (Int32.ofInt (S (30 + 3 * a.toNat) 1))) (hR.k2 (kd_reg (r := a.toNat) (by omega))) rfl ?_
          refine i_102_73 ?_
          refine i_102_74 (b_ne (a := S (30 + 3 * a.toNat) 1) (b := 1) ⟨by omega, by omega⟩ ⟨by decide, by decide⟩ fun c25 => ?_) (b_eq (a := S (30 + 3 * a.toNat) 1) (b := 1) ⟨by omega, by omega⟩ ⟨by decide, by decide⟩ fun c25 => ?_)
          · refine i_102_81 ?_
            refine i_102_82 (x := Int32.ofInt n) l3 ?_
            refine i_102_83 (z_le (a := n) ⟨by omega, by omega⟩ fun c26 => absurd c26 (by omega)) (z_gt (a := n) ⟨by omega, by omega⟩ fun c26 => ?_)
            refine i_102_86 ?_
            refine i_102_87 ?_
            refine i_102_91 (fun _ => ?_) (fun c => absurd c (by decide))
            refine i_102_98 ?_
            refine i_102_99 rfl ?_
            refine lgen1 (i := 6) (v := Value.int 0) (fun lv lg ls => ?_)
            replace l5 := lg 5 _ rfl rfl l5
            replace l0 := lg 0 _ rfl rfl l0
            replace l1 := lg 1 _ rfl rfl l1
            replace l2 := lg 2 _ rfl rfl l2
            replace l3 := lg 3 _ rfl rfl l3
            replace l4 := lg 4 _ rfl rfl l4
            have l6 := ls
            refine i_102_101 (x := 93) l0 ?_
            refine i_102_102 (v := Value.ref 78) (hR.k8 kq_93) rfl ?_
            refine i_102_105 rfl ?_
            refine i_102_106 (v := Value.int (Int32.ofInt (S 78 3))) (hR.k1 kq_78) rfl ?_
            refine i_102_109 (x := 30 + 3 * a.toNat) l2 ?_
            refine i_102_110 (v := Value.int (Int32.ofInt (S (30 + 3 * a.toNat) 1))) (hR.k2 (kd_reg (r := a.toNat) (by omega))) rfl ?_
            refine i_102_113 ?_
            refine i_102_114 (b_ne (a := S (30 + 3 * a.toNat) 1) (b := 2) ⟨by omega, by omega⟩ ⟨by decide, by decide⟩ fun c27 => ?_) (b_eq (a := S (30 + 3 * a.toNat) 1) (b := 2) ⟨by omega, by omega⟩ ⟨by decide, by decide⟩ fun c27 => ?_)
            · refine i_102_126 ?_
              refine i_102_127 (c := Int32.ofInt (zor (S 78 3) 0)) (o_or (S 78 3) 0) ?_
              refine i_102_128 (fs2 := f1 (u1 (S 78) 3 (zor (S 78 3) 0))) (hR.k1 kq_78) (Nat.le_of_ble_eq_true rfl) rfl (h7k kq_78 (by decide)) ?_
              refine xgen (P := cX w0 L Z (u2 S 78 3 (zor (S 78 3) 0)) V) (hR.p1 kq_78) (fun w hR => ?_)
              refine i_102_131 (x := 30 + 3 * r.toNat) l1 ?_
              refine i_102_132 (x := 0) l6 ?_
              refine i_102_134 (fun _ => ?_) (fun c => absurd c (by decide))
              refine i_102_141 ?_
              refine i_102_142 (x := Int32.ofInt sg) l5 ?_
              have hobj := hR.k2 (kd_reg (r := r.toNat) (by omega))
              obtain ⟨w, hrun, hR⟩ := x_spec (d := d + 10) (t := 30 + 3 * r.toNat) (which := 2) (sg := sg) hR (kd_reg (r := r.toNat) (by omega)) (by first | omega | exact bb_01 _)
              refine i_102_144 hobj (Nat.le_of_ble_eq_true rfl) hrun ?_
              refine i_102_147 ?_
              have eo : sPow (vS S) (vV V) r.toNat a.toNat n mode = oS 2 sg (zor (S 78 3) 0) := by
                clear hR
                rw [sPow_v, if_neg (show ¬ n = 0 by omega), if_neg (by omega), if_pos (by omega), ← hsg]
                congr 1
                · rw [if_pos (by omega)]; omega
                · rw [if_neg (by omega), zor_0 hfl]
              rw [eo]
              exact ⟨rfl, _, _, hR, cP_flag (by omega) (by decide) nC.refl nW.refl (by omega)⟩
            · refine i_102_117 (x := Int32.ofInt n) l3 ?_
              refine i_102_118 (z_ge (a := n) ⟨by omega, by omega⟩ fun c28 => ?_) (z_lt (a := n) ⟨by omega, by omega⟩ fun c28 => absurd c28 (by omega))
              refine i_102_126 ?_
              refine i_102_127 (c := Int32.ofInt (zor (S 78 3) 0)) (o_or (S 78 3) 0) ?_
              refine i_102_128 (fs2 := f1 (u1 (S 78) 3 (zor (S 78 3) 0))) (hR.k1 kq_78) (Nat.le_of_ble_eq_true rfl) rfl (h7k kq_78 (by decide)) ?_
              refine xgen (P := cX w0 L Z (u2 S 78 3 (zor (S 78 3) 0)) V) (hR.p1 kq_78) (fun w hR => ?_)
              refine i_102_131 (x := 30 + 3 * r.toNat) l1 ?_
              refine i_102_132 (x := 0) l6 ?_
              refine i_102_134 (fun _ => ?_) (fun c => absurd c (by decide))
              refine i_102_141 ?_
              refine i_102_142 (x := Int32.ofInt sg) l5 ?_
              have hobj := hR.k2 (kd_reg (r := r.toNat) (by omega))
              obtain ⟨w, hrun, hR⟩ := x_spec (d := d + 10) (t := 30 + 3 * r.toNat) (which := 2) (sg := sg) hR (kd_reg (r := r.toNat) (by omega)) (by first | omega | exact bb_01 _)
              refine i_102_144 hobj (Nat.le_of_ble_eq_true rfl) hrun ?_
              refine i_102_147 ?_
              have eo : sPow (vS S) (vV V) r.toNat a.toNat n mode = oS 2 sg (zor (S 78 3) 0) := by
                clear hR
                rw [sPow_v, if_neg (show ¬ n = 0 by omega), if_neg (by omega), if_pos (by omega), ← hsg]
                congr 1
                · rw [if_pos (by omega)]; omega
                · rw [if_neg (by omega), zor_0 hfl]
              rw [eo]
              exact ⟨rfl, _, _, hR, cP_flag (by omega) (by decide) nC.refl nW.refl (by omega)⟩
          · refine i_102_77 ?_
            refine i_102_78 ?_
            refine i_102_82 (x := Int32.ofInt n) l3 ?_
            refine i_102_83 (z_le (a := n) ⟨by omega, by omega⟩ fun c29 => absurd c29 (by omega)) (z_gt (a := n) ⟨by omega, by omega⟩ fun c29 => ?_)
            refine i_102_86 ?_
            refine i_102_87 ?_
            refine i_102_91 (fun c => absurd c (by decide)) (fun _ => ?_)
            refine i_102_94 ?_
            refine i_102_95 ?_
            refine i_102_99 rfl ?_
            refine lgen1 (i := 6) (v := Value.int 1) (fun lv lg ls => ?_)
            replace l5 := lg 5 _ rfl rfl l5
            replace l0 := lg 0 _ rfl rfl l0
            replace l1 := lg 1 _ rfl rfl l1
            replace l2 := lg 2 _ rfl rfl l2
            replace l3 := lg 3 _ rfl rfl l3
            replace l4 := lg 4 _ rfl rfl l4
            have l6 := ls
            refine i_102_101 (x := 93) l0 ?_
            refine i_102_102 (v := Value.ref 78) (hR.k8 kq_93) rfl ?_
            refine i_102_105 rfl ?_
            refine i_102_106 (v := Value.int (Int32.ofInt (S 78 3))) (hR.k1 kq_78) rfl ?_
            refine i_102_109 (x := 30 + 3 * a.toNat) l2 ?_
            refine i_102_110 (v := Value.int (Int32.ofInt (S (30 + 3 * a.toNat) 1))) (hR.k2 (kd_reg (r := a.toNat) (by omega))) rfl ?_
            refine i_102_113 ?_
            refine i_102_114 (b_ne (a := S (30 + 3 * a.toNat) 1) (b := 2) ⟨by omega, by omega⟩ ⟨by decide, by decide⟩ fun c30 => ?_) (b_eq (a := S (30 + 3 * a.toNat) 1) (b := 2) ⟨by omega, by omega⟩ ⟨by decide, by decide⟩ fun c30 => absurd c30 (by omega))
            refine i_102_126 ?_
            refine i_102_127 (c := Int32.ofInt (zor (S 78 3) 0)) (o_or (S 78 3) 0) ?_
            refine i_102_128 (fs2 := f1 (u1 (S 78) 3 (zor (S 78 3) 0))) (hR.k1 kq_78) (Nat.le_of_ble_eq_true rfl) rfl (h7k kq_78 (by decide)) ?_
            refine xgen (P := cX w0 L Z (u2 S 78 3 (zor (S 78 3) 0)) V) (hR.p1 kq_78) (fun w hR => ?_)
            refine i_102_131 (x := 30 + 3 * r.toNat) l1 ?_
            refine i_102_132 (x := 1) l6 ?_
            refine i_102_134 (fun c => absurd c (by decide)) (fun _ => ?_)
            refine i_102_137 ?_
            refine i_102_138 ?_
            refine i_102_142 (x := Int32.ofInt sg) l5 ?_
            have hobj := hR.k2 (kd_reg (r := r.toNat) (by omega))
            obtain ⟨w, hrun, hR⟩ := x_spec (d := d + 10) (t := 30 + 3 * r.toNat) (which := 1) (sg := sg) hR (kd_reg (r := r.toNat) (by omega)) (by first | omega | exact bb_01 _)
            refine i_102_144 hobj (Nat.le_of_ble_eq_true rfl) hrun ?_
            refine i_102_147 ?_
            have eo : sPow (vS S) (vV V) r.toNat a.toNat n mode = oS 1 sg (zor (S 78 3) 0) := by
              clear hR
              rw [sPow_v, if_neg (show ¬ n = 0 by omega), if_neg (by omega), if_pos (by omega), ← hsg]
              congr 1
              · rw [if_pos (by omega)]; omega
              · rw [if_neg (by omega), zor_0 hfl]
            rw [eo]
            exact ⟨rfl, _, _, hR, cP_flag (by omega) (by decide) nC.refl nW.refl (by omega)⟩
      · refine i_102_56 (x := 30 + 3 * r.toNat) l1 ?_
        have hobj := hR.k2 (kd_reg (r := r.toNat) (by omega))
        obtain ⟨w, hrun, hR⟩ := x_nan (d := d + 9) (t := 30 + 3 * r.toNat) hR (kd_reg (r := r.toNat) (by omega))
        refine i_102_57 hobj (Nat.le_of_ble_eq_true rfl) hrun ?_
        refine i_102_60 ?_
        have eo : sPow (vS S) (vV V) r.toNat a.toNat n mode = oS 0 0 (S 78 3) := by clear hR; simp only [sPow, vS_153, vS_154, vS_155, vS_156, vS_17, vS_18, vS_19, vS_20, vV_r]; grind
        rw [eo]
        exact ⟨rfl, _, _, hR, cP_special (by first | omega | exact bb_01 _) (by decide) nC.refl nW.refl rfl (by omega)⟩
    refine i_102_0 (x := 30 + 3 * a.toNat) l2 ?_
    refine i_102_1 (v := Value.int (Int32.ofInt (S (30 + 3 * a.toNat) 2))) (hR.k2 (kd_reg (r := a.toNat) (by omega))) rfl ?_
    refine i_102_4 (z_eq (a := S (30 + 3 * a.toNat) 2) ⟨by omega, by omega⟩ fun c0 => ?_) (z_ne (a := S (30 + 3 * a.toNat) 2) ⟨by omega, by omega⟩ fun c0 => ?_)
    · refine i_102_17 ?_
      exact tail 0 lv (by rw [if_neg (by omega)]) (by decide) l0 l1 l2 l3 l4
    · refine i_102_7 (x := Int32.ofInt n) l3 ?_
      refine i_102_8 ?_
      refine i_102_9 (c := Int32.ofInt (Int.tmod n 2)) (o_nz (b := 2) ⟨by decide, by decide⟩) (o_tmod (a := n) (b := 2) ⟨by omega, by omega⟩ ⟨by decide, by decide⟩) ?_
      refine i_102_10 (z_eq (a := Int.tmod n 2) ⟨by omega, by omega⟩ fun c1 => ?_) (z_ne (a := Int.tmod n 2) ⟨by omega, by omega⟩ fun c1 => ?_)
      · refine i_102_17 ?_
        exact tail 0 lv (by rw [if_neg (by omega)]) (by decide) l0 l1 l2 l3 l4
      · refine i_102_13 ?_
        refine i_102_14 ?_
        exact tail 1 lv (by rw [if_pos (by omega)]) (by decide) l0 l1 l2 l3 l4
  obtain ⟨o, w', h1, rfl, h2⟩ := (key (lv_args 0 [Value.ref 93, Value.ref (30 + 3 * r.toNat), Value.ref (30 + 3 * a.toNat), Value.int (Int32.ofInt n), Value.int (Int32.ofInt mode)]) rfl rfl rfl rfl rfl).run
  exact ⟨w', h1, h2⟩
set_option maxHeartbeats 8000000 in
theorem x_rpN {r a n mode : Int} (hR : cX w0 L Z S V w) (hI : cI S V) (hr : 0 ≤ r ∧ r ≤ 15) (ha : 0 ≤ a ∧ a ≤ 15) (hn : -32 ≤ n ∧ n ≤ 32) (hmo : 0 ≤ mode ∧ mode ≤ 4) (hfl : -2147483648 ≤ S 78 3 ∧ S 78 3 < 2147483648) (hsn : n < 0) : ∃ w', xRun (d + 11) 102 [Value.ref 93, Value.ref (30 + 3 * r.toNat), Value.ref (30 + 3 * a.toNat), Value.int (Int32.ofInt n), Value.int (Int32.ofInt mode)] w (.inl (some (.int (Int32.ofInt (sPow (vS S) (vV V) r.toNat a.toNat n mode).2.2.2.2.1)))) w' ∧ ∃ S' V', cX w0 L Z S' V' w' ∧ cOut S S' V V' (30 + 3 * r.toNat) (sPow (vS S) (vV V) r.toNat a.toNat n mode) := by
  have key : ∀ lv, xld lv 0 = some (Value.ref 93) → xld lv 1 = some (Value.ref (30 + 3 * r.toNat)) → xld lv 2 = some (Value.ref (30 + 3 * a.toNat)) → xld lv 3 = some (Value.int (Int32.ofInt n)) → xld lv 4 = some (Value.int (Int32.ofInt mode)) → xEv (d + 11) 102 0 lv [] w (fun o w' => o = .inl (some (.int (Int32.ofInt (sPow (vS S) (vV V) r.toNat a.toNat n mode).2.2.2.2.1))) ∧ ∃ S' V', cX w0 L Z S' V' w' ∧ cOut S S' V V' (30 + 3 * r.toNat) (sPow (vS S) (vV V) r.toNat a.toNat n mode)) := by
    intro lv l0 l1 l2 l3 l4
    obtain ⟨hp_r, hk_r, hn_r, ht_r, hx_r, hz_r⟩ := hI.1 r.toNat (by omega)
    obtain ⟨hp_a, hk_a, hn_a, ht_a, hx_a, hz_a⟩ := hI.1 a.toNat (by omega)
    have hi_l := hI.2.1
    have hi_g := hI.2.2.1
    have hm_a : S (30 + 3 * a.toNat) 1 = 3 → V (30 + 3 * a.toNat + 1) ≠ 0 := fun e => hI.nz (by omega) e
    have htm := tm2 n
    have hpw : pwP S := hI.2.2.2.1
    have tail : ∀ sg lv, sg = (if S (30 + 3 * a.toNat) 2 ≠ 0 ∧ n % 2 ≠ 0 then 1 else 0) → (sg = 0 ∨ sg = 1) → xld lv 0 = some (Value.ref 93) → xld lv 1 = some (Value.ref (30 + 3 * r.toNat)) → xld lv 2 = some (Value.ref (30 + 3 * a.toNat)) → xld lv 3 = some (Value.int (Int32.ofInt n)) → xld lv 4 = some (Value.int (Int32.ofInt mode)) → xEv (d + 11) 102 18 lv [.int (Int32.ofInt sg)] w (fun o w' => o = .inl (some (.int (Int32.ofInt (sPow (vS S) (vV V) r.toNat a.toNat n mode).2.2.2.2.1))) ∧ ∃ S' V', cX w0 L Z S' V' w' ∧ cOut S S' V V' (30 + 3 * r.toNat) (sPow (vS S) (vV V) r.toNat a.toNat n mode)) := by
      intro sg lv hsg hsg1 l0 l1 l2 l3 l4
      refine i_102_18 rfl ?_
      refine lgen1 (i := 5) (v := Value.int (Int32.ofInt sg)) (fun lv lg ls => ?_)
      replace l0 := lg 0 _ rfl rfl l0
      replace l1 := lg 1 _ rfl rfl l1
      replace l2 := lg 2 _ rfl rfl l2
      replace l3 := lg 3 _ rfl rfl l3
      replace l4 := lg 4 _ rfl rfl l4
      have l5 := ls
      refine i_102_20 (x := Int32.ofInt n) l3 ?_
      refine i_102_21 (z_ne (a := n) ⟨by omega, by omega⟩ fun c20 => ?_) (z_eq (a := n) ⟨by omega, by omega⟩ fun c20 => absurd c20 (by omega))
      refine i_102_49 (x := 30 + 3 * a.toNat) l2 ?_
      refine i_102_50 (v := Value.int (Int32.ofInt (S (30 + 3 * a.toNat) 1))) (hR.k2 (kd_reg (r := a.toNat) (by omega))) rfl ?_
      refine i_102_53 (z_ne (a := S (30 + 3 * a.toNat) 1) ⟨by omega, by omega⟩ fun c21 => ?_) (z_eq (a := S (30 + 3 * a.toNat) 1) ⟨by omega, by omega⟩ fun c21 => ?_)
      · refine i_102_61 (x := 30 + 3 * a.toNat) l2 ?_
        refine i_102_62 (v := Value.int (Int32.ofInt (S (30 + 3 * a.toNat) 1))) (hR.k2 (kd_reg (r := a.toNat) (by omega))) rfl ?_
        refine i_102_65 ?_
        refine i_102_66 (b_eq (a := S (30 + 3 * a.toNat) 1) (b := 3) ⟨by omega, by omega⟩ ⟨by decide, by decide⟩ fun c22 => ?_) (b_ne (a := S (30 + 3 * a.toNat) 1) (b := 3) ⟨by omega, by omega⟩ ⟨by decide, by decide⟩ fun c22 => ?_)
        · try replace ht_a := ht_a.resolve_left (by omega)
          try replace hx_a := hx_a.resolve_left (by omega)
          refine i_102_148 (x := 30 + 3 * a.toNat) l2 ?_
          refine i_102_149 (v := Value.ref ((30 + 3 * a.toNat) + 1)) (hR.k2 (kd_reg (r := a.toNat) (by omega))) rfl ?_
          obtain ⟨fs, hobj⟩ := hR.nat (kd_rem (r := a.toNat) (by omega))
          obtain ⟨z, K, hrun, hzz⟩ := X_zeros (d := d + 9) (h := (30 + 3 * a.toNat) + 1) (u := V ((30 + 3 * a.toNat) + 1)) hR (kd_rem (r := a.toNat) (by omega)) (rfl)
          have ec : V ((30 + 3 * a.toNat) + 1) = 2 ^ z * (2 * K + 1) := hzz.resolve_left (fun e => hm_a (by omega) e.1)
          have hzb : z < xbl (V ((30 + 3 * a.toNat) + 1)) := xbl_ge (show 2 ^ z ≤ V ((30 + 3 * a.toNat) + 1) by rw [ec]; exact Nat.le_mul_of_pos_right _ (by omega))
          have eL : shf (V ((30 + 3 * a.toNat) + 1)) (-(z : Int)) = 2 * K + 1 := by rw [ec, Nat.mul_comm]; exact shf_back
          obtain ⟨Lo, eLo⟩ : ∃ Lo, Lo = 2 * K + 1 := ⟨_, rfl⟩
          rw [← eLo] at ec eL
          have hLb : xbl Lo ≤ 4096 := by rw [← eL]; have := shf_ble (V ((30 + 3 * a.toNat) + 1)) (-(z : Int)); omega
          refine i_102_152 hobj (Nat.le_of_ble_eq_true rfl) hrun ?_
          refine i_102_155 rfl ?_
          refine lgen1 (i := 6) (v := Value.int (Int32.ofInt (z : Int))) (fun lv lg ls => ?_)
          replace l5 := lg 5 _ rfl rfl l5
          replace l0 := lg 0 _ rfl rfl l0
          replace l1 := lg 1 _ rfl rfl l1
          replace l2 := lg 2 _ rfl rfl l2
          replace l3 := lg 3 _ rfl rfl l3
          replace l4 := lg 4 _ rfl rfl l4
          have l6 := ls
          refine i_102_157 (x := 93) l0 ?_
          refine i_102_158 (v := Value.ref 99) (hR.k8 kq_93) rfl ?_
          refine i_102_161 (x := 30 + 3 * a.toNat) l2 ?_
          refine i_102_162 (v := Value.ref ((30 + 3 * a.toNat) + 1)) (hR.k2 (kd_reg (r := a.toNat) (by omega))) rfl ?_
          refine i_102_165 (x := Int32.ofInt (z : Int)) l6 ?_
          refine i_102_167 (c := Int32.ofInt (-(z : Int))) (o_neg (z : Int)) ?_
          obtain ⟨fs, hobj⟩ := hR.nat kq_99
          obtain ⟨w, hrun, hR⟩ := X_shift (d := d + 7) (h := 99) (h2 := (30 + 3 * a.toNat) + 1) (u := V ((30 + 3 * a.toNat) + 1)) (k := -(z : Int)) hR kq_99 (kd_rem (r := a.toNat) (by omega)) rfl (by omega) (by omega)
          rw [show shf (V ((30 + 3 * a.toNat) + 1)) (-(z : Int)) = Lo from eL] at hR
          refine i_102_168 hobj (Nat.le_of_ble_eq_true rfl) hrun ?_
          refine i_102_171 (x := Int32.ofInt n) l3 ?_
          refine i_102_172 (x := 30 + 3 * a.toNat) l2 ?_
          refine i_102_173 (v := Value.int (Int32.ofInt (S (30 + 3 * a.toNat) 3))) (hR.k2 (kd_reg (r := a.toNat) (by omega))) rfl ?_
          refine i_102_176 (x := 30 + 3 * a.toNat) l2 ?_
          refine i_102_177 (v := Value.int (Int32.ofInt (S (30 + 3 * a.toNat) 0))) (hR.k2 (kd_reg (r := a.toNat) (by omega))) rfl ?_
          refine i_102_180 (c := Int32.ofInt ((S (30 + 3 * a.toNat) 3) - (S (30 + 3 * a.toNat) 0))) (o_sub (S (30 + 3 * a.toNat) 3) (S (30 + 3 * a.toNat) 0)) ?_
          refine i_102_181 (x := Int32.ofInt (z : Int)) l6 ?_
          refine i_102_183 (c := Int32.ofInt (((S (30 + 3 * a.toNat) 3) - (S (30 + 3 * a.toNat) 0)) + (z : Int))) (o_add ((S (30 + 3 * a.toNat) 3) - (S (30 + 3 * a.toNat) 0)) (z : Int)) ?_
          refine i_102_184 (c := Int32.ofInt (n * (((S (30 + 3 * a.toNat) 3) - (S (30 + 3 * a.toNat) 0)) + (z : Int)))) (o_mul n (((S (30 + 3 * a.toNat) 3) - (S (30 + 3 * a.toNat) 0)) + (z : Int))) ?_
          obtain ⟨scl, hscl⟩ : ∃ scl : Int, scl = n * (((S (30 + 3 * a.toNat) 3) - (S (30 + 3 * a.toNat) 0)) + (z : Int)) := ⟨_, rfl⟩
          rw [← hscl]
          have hsb := pw_sbN hscl (by omega) (by omega) (by omega)
          have hL0 : 0 < Lo := by omega
          refine i_102_185 rfl ?_
          refine lgen1 (i := 7) (v := Value.int (Int32.ofInt (scl))) (fun lv lg ls => ?_)
          replace l6 := lg 6 _ rfl rfl l6
          replace l5 := lg 5 _ rfl rfl l5
          replace l0 := lg 0 _ rfl rfl l0
          replace l1 := lg 1 _ rfl rfl l1
          replace l2 := lg 2 _ rfl rfl l2
          replace l3 := lg 3 _ rfl rfl l3
          replace l4 := lg 4 _ rfl rfl l4
          have l7 := ls
          refine i_102_187 (x := 30 + 3 * r.toNat) l1 ?_
          refine i_102_188 (v := Value.int (Int32.ofInt (S (30 + 3 * r.toNat) 0))) (hR.k2 (kd_reg (r := r.toNat) (by omega))) rfl ?_
          refine i_102_191 rfl ?_
          refine lgen1 (i := 8) (v := Value.int (Int32.ofInt (S (30 + 3 * r.toNat) 0))) (fun lv lg ls => ?_)
          replace l7 := lg 7 _ rfl rfl l7
          replace l6 := lg 6 _ rfl rfl l6
          replace l5 := lg 5 _ rfl rfl l5
          replace l0 := lg 0 _ rfl rfl l0
          replace l1 := lg 1 _ rfl rfl l1
          replace l2 := lg 2 _ rfl rfl l2
          replace l3 := lg 3 _ rfl rfl l3
          replace l4 := lg 4 _ rfl rfl l4
          have l8 := ls
          refine i_102_193 (x := 93) l0 ?_
          refine i_102_194 (x := Int32.ofInt n) l3 ?_
          refine i_102_195 (x := Int32.ofInt (S (30 + 3 * r.toNat) 0)) l8 ?_
          refine i_102_197 (x := Int32.ofInt (S (30 + 3 * r.toNat) 0)) l8 ?_
          refine i_102_199 ?_
          refine i_102_201 (c := Int32.ofInt (Int.tdiv (S (30 + 3 * r.toNat) 0) 32)) (o_nz (b := 32) ⟨by decide, by decide⟩) (o_tdiv (a := S (30 + 3 * r.toNat) 0) (b := 32) ⟨by omega, by omega⟩ ⟨by decide, by decide⟩) ?_
          refine i_102_202 ?_
          refine i_102_203 (c := Int32.ofInt ((Int.tdiv (S (30 + 3 * r.toNat) 0) 32) + 4)) (o_add (Int.tdiv (S (30 + 3 * r.toNat) 0) 32) 4) ?_
          obtain ⟨p, epn⟩ : ∃ p : Nat, S (30 + 3 * r.toNat) 0 = (p : Int) := ⟨(S (30 + 3 * r.toNat) 0).toNat, by omega⟩
          have tail2 : ∀ S5 V5 w lv, cX w0 L Z S5 V5 w → nC S S5 → nW V V5 → fpOk p n Lo (S5 94 2) (S5 94 3) (V5 95) → xld lv 0 = some (Value.ref 93) → xld lv 1 = some (Value.ref (30 + 3 * r.toNat)) → xld lv 2 = some (Value.ref (30 + 3 * a.toNat)) → xld lv 3 = some (Value.int (Int32.ofInt n)) → xld lv 4 = some (Value.int (Int32.ofInt mode)) → xld lv 5 = some (Value.int (Int32.ofInt sg)) → xld lv 7 = some (Value.int (Int32.ofInt scl)) → xEv (d + 11) 102 243 lv [] w (fun o w' => o = .inl (some (.int (Int32.ofInt (sPow (vS S) (vV V) r.toNat a.toNat n mode).2.2.2.2.1))) ∧ ∃ S' V', cX w0 L Z S' V' w' ∧ cOut S S' V V' (30 + 3 * r.toNat) (sPow (vS S) (vV V) r.toNat a.toNat n mode)) := by
            intro S5 V5 w lv hR n5 v5 hO l0 l1 l2 l3 l4 l5 l7
            have z0 : S5 (30 + 3 * r.toNat) 0 = (p : Int) := (n5.1 (30 + 3 * r.toNat) 0 (by unfold cKeep; omega)).trans epn
            have z1 : S5 78 0 = S 78 0 := n5.1 78 0 (by unfold cKeep; omega)
            have z2 : S5 78 1 = S 78 1 := n5.1 78 1 (by unfold cKeep; omega)
            have z3 : S5 78 2 = S 78 2 := n5.1 78 2 (by unfold cKeep; omega)
            have z4 : S5 78 3 = S 78 3 := n5.1 78 3 (by unfold cKeep; omega)
            refine i_102_243 (x := 93) l0 ?_
            refine i_102_244 (v := Value.ref 94) (hR.k8 kq_93) rfl ?_
            refine i_102_247 (x := Int32.ofInt sg) l5 ?_
            refine i_102_249 (fs2 := f4 94 (u1 (S5 94) 0 sg)) (hR.k4 kq_94) (o_bool (by omega)) (Nat.le_of_ble_eq_true rfl) rfl (h7k kq_94 (by decide)) ?_
            refine xgen (P := cX w0 L Z (u2 S5 94 0 sg) V5) (hR.p4 kq_94) (fun w hR => ?_)
            refine i_102_252 (x := 93) l0 ?_
            refine i_102_253 (v := Value.ref 94) (hR.k8 kq_93) rfl ?_
            refine i_102_256 rfl ?_
            refine i_102_257 (v := Value.int (Int32.ofInt ((u2 S5 94 0 sg) 94 2))) (hR.k4 kq_94) rfl ?_
            rw [show Int32.ofInt ((u2 S5 94 0 sg) 94 2) = Int32.ofInt (S5 94 2) by rw [u2_eq, if_neg (fun e => absurd e.2 (by decide))]]
            refine i_102_260 (x := Int32.ofInt scl) l7 ?_
            refine i_102_262 (c := Int32.ofInt ((S5 94 2) + scl)) (o_add (S5 94 2) scl) ?_
            refine i_102_263 (fs2 := f4 94 (u1 ((u2 S5 94 0 sg) 94) 2 ((S5 94 2) + scl))) (hR.k4 kq_94) (Nat.le_of_ble_eq_true rfl) rfl (h7k kq_94 (by decide)) ?_
            refine xgen (P := cX w0 L Z (u2 (u2 S5 94 0 sg) 94 2 ((S5 94 2) + scl)) V5) (hR.p4 kq_94) (fun w hR => ?_)
            refine i_102_266 (x := 93) l0 ?_
            refine i_102_267 (v := Value.ref 78) (hR.k8 kq_93) rfl ?_
            refine i_102_270 (x := 30 + 3 * r.toNat) l1 ?_
            refine i_102_271 (x := 93) l0 ?_
            refine i_102_272 (v := Value.ref 94) (hR.k8 kq_93) rfl ?_
            refine i_102_275 (x := Int32.ofInt mode) l4 ?_
            have hobj := hR.k1 kq_78
            have ep : (u2 (u2 S5 94 0 sg) 94 2 ((S5 94 2) + scl)) (30 + 3 * r.toNat) 0 = S5 (30 + 3 * r.toNat) 0 := by rw [u2_eq, if_neg (fun e => absurd e.2 (by decide)), u2_eq, if_neg (fun e => absurd e.1 (by omega))]
            have el : (u2 (u2 S5 94 0 sg) 94 2 ((S5 94 2) + scl)) 78 0 = S5 78 0 := by rw [u2_eq, if_neg (fun e => absurd e.2 (by decide)), u2_eq, if_neg (fun e => absurd e.1 (by decide))]
            have eg : (u2 (u2 S5 94 0 sg) 94 2 ((S5 94 2) + scl)) 78 1 = S5 78 1 := by rw [u2_eq, if_neg (fun e => absurd e.2 (by decide)), u2_eq, if_neg (fun e => absurd e.2 (by decide))]
            have ed : (u2 (u2 S5 94 0 sg) 94 2 ((S5 94 2) + scl)) 78 2 = S5 78 2 := by rw [u2_eq, if_neg (fun e => absurd e.1 (by decide)), u2_eq, if_neg (fun e => absurd e.2 (by decide))]
            have ef : (u2 (u2 S5 94 0 sg) 94 2 ((S5 94 2) + scl)) 78 3 = S5 78 3 := by rw [u2_eq, if_neg (fun e => absurd e.2 (by decide)), u2_eq, if_neg (fun e => absurd e.2 (by decide))]
            have es : (u2 (u2 S5 94 0 sg) 94 2 ((S5 94 2) + scl)) 94 0 = sg := by rw [u2_eq, if_neg (fun e => absurd e.2 (by decide)), u2_eq, if_pos ⟨rfl, rfl⟩]
            have ec2 : (u2 (u2 S5 94 0 sg) 94 2 ((S5 94 2) + scl)) 94 2 = (S5 94 2) + scl := by rw [u2_eq, if_pos ⟨rfl, rfl⟩]
            have em : (u2 (u2 S5 94 0 sg) 94 2 ((S5 94 2) + scl)) 94 3 = S5 94 3 := by rw [u2_eq, if_neg (fun e => absurd e.2 (by decide)), u2_eq, if_neg (fun e => absurd e.2 (by decide))]
            rw [z0] at ep
            rw [z1] at el
            rw [z2] at eg
            rw [z3] at ed
            rw [z4] at ef
            obtain ⟨w, hrun, S6, V6, hR, hP⟩ := x_settleW (d := d + 1) (g := 78) (t := 30 + 3 * r.toNat) (h := 94) (mode := mode) hR kq_78 (kd_reg (r := r.toNat) (by omega)) kq_94 (by rw [ep]; omega) (by rw [es]; omega) (by rw [em]; exact hO.2.2.1) (by omega) hO.1 (show xbl (V5 95) ≤ 600000 by have := hO.2.1; omega) (by rw [ec2]; have := hO.2.2.2.2.1; omega) (show -950000 ≤ (xbl (V5 95) : Int) + (u2 (u2 S5 94 0 sg) 94 2 ((S5 94 2) + scl)) 94 2 ∧ (xbl (V5 95) : Int) + (u2 (u2 S5 94 0 sg) 94 2 ((S5 94 2) + scl)) 94 2 ≤ 950000 by rw [ec2]; have h1 := hO.2.2.2.2.1; have h2 := hO.2.1; omega) (by rw [el, eg]; omega) (by rw [ed]; omega) (by rw [ep, el, ed, ec2, em]; intro u hu; rcases hO.2.2.2.1 with h | h; exact Or.inl h; right; have h2 := rU_ge (p := (p : Int)) (least := S 78 0) (gradual := S 78 2) (free := 0) (x := (xbl (V5 95) : Int) + ((S5 94 2) + scl)); rw [← hu] at h2; omega)
            rw [ep, el, eg, ed, ef, es, ec2, em] at hrun hP
            refine i_102_277 hobj (Nat.le_of_ble_eq_true rfl) hrun ?_
            refine i_102_280 ?_
            have eo : sPow (vS S) (vV V) r.toNat a.toNat n mode = oR (p : Int) (S 78 0) (S 78 1) (S 78 2) sg mode (S5 94 3) (V5 95) ((S5 94 2) + scl) (S 78 3) := by
              rw [hO.2.2.2.2.2 _ _ _ _ _ _ _, hscl]
              rw [sPow_v, if_neg (show ¬ n = 0 by omega), if_neg (by omega), if_neg (by omega), if_neg (by omega), ← hsg, epn]
              exact (pw_neg hL0 ec (by omega)).symm
            rw [eo]
            exact ⟨rfl, _, _, hR, cP_round hP (by omega) ((n5.up (by unfold cKeep; omega) (by omega)).up (by unfold cKeep; omega) (by omega)) v5 (by omega)⟩
          have hobj := hR.k8 kq_93
          obtain ⟨w, b1, hrun, T1, U1, hR, q1, q2, q3, q4, q5⟩ := x_formN (d := d + 4) (p := p) (Lo := Lo) (n := n) (most := (Int.tdiv (S (30 + 3 * r.toNat) 0) 32) + 4) hR hpw (uv_s) (by omega) hLb (by omega) (by omega) (by omega) (by omega) (Or.inl (by rw [Int.tdiv_eq_ediv_of_nonneg (by omega)]; omega))
          rw [← epn] at hrun
          have n1 : nC S T1 := ⟨fun b j hb => by unfold cKeep at hb; exact q1 b j (by omega) (by omega), q1 113 3 (by omega) (by omega), fun _ => q2⟩
          have v1 : nW V U1 := fun i i1 i2 => (q3 i (by omega) (by omega) (by omega) (by omega) (by omega) (by omega) (by omega) (by omega)).trans (uv_n (by omega))
          have x1 : U1 99 = Lo := (q3 99 (by decide) (by decide) (by decide) (by decide) (by decide) (by decide) (by decide) (by decide)).trans uv_s
          have y1 := q2
          have o1 := q4
          have t1 := q5
          refine i_102_204 hobj (Nat.le_of_ble_eq_true rfl) hrun ?_
          refine i_102_207 (zb_t fun c23 => ?_) (zb_f fun c23 => ?_)
          · exact tail2 T1 U1 w lv hR n1 v1 (o1 (by simpa using ‹_›)) l0 l1 l2 l3 l4 l5 l7
          · refine i_102_210 (x := 93) l0 ?_
            refine i_102_211 (x := Int32.ofInt n) l3 ?_
            refine i_102_212 (x := Int32.ofInt (S (30 + 3 * r.toNat) 0)) l8 ?_
            refine i_102_214 (x := Int32.ofInt (S (30 + 3 * r.toNat) 0)) l8 ?_
            refine i_102_216 (x := 30 + 3 * a.toNat) l2 ?_
            refine i_102_217 (v := Value.int (Int32.ofInt (T1 (30 + 3 * a.toNat) 0))) (hR.k2 (kd_reg (r := a.toNat) (by omega))) rfl ?_
            rw [(n1.1 (30 + 3 * a.toNat) 0 (by unfold cKeep; omega))]
            refine i_102_220 (c := Int32.ofInt ((S (30 + 3 * r.toNat) 0) + (S (30 + 3 * a.toNat) 0))) (o_add (S (30 + 3 * r.toNat) 0) (S (30 + 3 * a.toNat) 0)) ?_
            refine i_102_221 ?_
            refine i_102_223 (c := Int32.ofInt (Int.tdiv ((S (30 + 3 * r.toNat) 0) + (S (30 + 3 * a.toNat) 0)) 32)) (o_nz (b := 32) ⟨by decide, by decide⟩) (o_tdiv (a := (S (30 + 3 * r.toNat) 0) + (S (30 + 3 * a.toNat) 0)) (b := 32) ⟨by omega, by omega⟩ ⟨by decide, by decide⟩) ?_
            refine i_102_224 ?_
            refine i_102_226 (c := Int32.ofInt ((Int.tdiv ((S (30 + 3 * r.toNat) 0) + (S (30 + 3 * a.toNat) 0)) 32) + 6)) (o_add (Int.tdiv ((S (30 + 3 * r.toNat) 0) + (S (30 + 3 * a.toNat) 0)) 32) 6) ?_
            have hobj := hR.k8 kq_93
            obtain ⟨w, b2, hrun, T2, U2, hR, q1, q2, q3, q4, q5⟩ := x_formN (d := d + 4) (p := p) (Lo := Lo) (n := n) (most := (Int.tdiv ((S (30 + 3 * r.toNat) 0) + (S (30 + 3 * a.toNat) 0)) 32) + 6) hR y1 x1 (by omega) hLb (by omega) (by omega) (by omega) (by omega) (Or.inl (by rw [Int.tdiv_eq_ediv_of_nonneg (by omega)]; omega))
            rw [← epn] at hrun
            have n2 : nC S T2 := n1.trans ⟨fun b j hb => by unfold cKeep at hb; exact q1 b j (by omega) (by omega), q1 113 3 (by omega) (by omega), fun _ => q2⟩
            have v2 : nW V U2 := v1.trans (fun i i1 i2 => q3 i (by omega) (by omega) (by omega) (by omega) (by omega) (by omega) (by omega) (by omega))
            have x2 : U2 99 = Lo := (q3 99 (by decide) (by decide) (by decide) (by decide) (by decide) (by decide) (by decide) (by decide)).trans x1
            have y2 := q2
            have o2 := q4
            have t2 := q5
            refine i_102_227 hobj (Nat.le_of_ble_eq_true rfl) hrun ?_
            refine i_102_230 (zb_t fun c24 => ?_) (zb_f fun c24 => ?_)
            · exact tail2 T2 U2 w lv hR n2 v2 (o2 (by simpa using ‹_›)) l0 l1 l2 l3 l4 l5 l7
            · refine i_102_233 (x := 93) l0 ?_
              refine i_102_234 (x := Int32.ofInt n) l3 ?_
              refine i_102_235 (x := Int32.ofInt (S (30 + 3 * r.toNat) 0)) l8 ?_
              refine i_102_237 ?_
              have hobj := hR.k8 kq_93
              obtain ⟨w, b3, hrun, T3, U3, hR, q1, q2, q3, q4, q5⟩ := x_formN (d := d + 4) (p := p) (Lo := Lo) (n := n) (most := 16777216) hR y2 x2 (by omega) hLb (by omega) (by omega) (by omega) (by omega) (Or.inr rfl)
              rw [← epn] at hrun
              rw [show Int32.ofInt (16777216 : Int) = 16777216 from rfl] at hrun
              have n3 : nC S T3 := n2.trans ⟨fun b j hb => by unfold cKeep at hb; exact q1 b j (by omega) (by omega), q1 113 3 (by omega) (by omega), fun _ => q2⟩
              have v3 : nW V U3 := v2.trans (fun i i1 i2 => q3 i (by omega) (by omega) (by omega) (by omega) (by omega) (by omega) (by omega) (by omega))
              have x3 : U3 99 = Lo := (q3 99 (by decide) (by decide) (by decide) (by decide) (by decide) (by decide) (by decide) (by decide)).trans x2
              have y3 := q2
              have o3 := q4
              have t3 := q5
              refine i_102_239 hobj (Nat.le_of_ble_eq_true rfl) hrun ?_
              refine i_102_242 rfl ?_
              exact tail2 T3 U3 w lv hR n3 v3 (o3 (t3 rfl)) l0 l1 l2 l3 l4 l5 l7
        · refine i_102_69 (x := 30 + 3 * a.toNat) l2 ?_
          refine i_102_70 (v := Value.int (Int32.ofInt (S (30 + 3 * a.toNat) 1))) (hR.k2 (kd_reg (r := a.toNat) (by omega))) rfl ?_
          refine i_102_73 ?_
          refine i_102_74 (b_ne (a := S (30 + 3 * a.toNat) 1) (b := 1) ⟨by omega, by omega⟩ ⟨by decide, by decide⟩ fun c25 => ?_) (b_eq (a := S (30 + 3 * a.toNat) 1) (b := 1) ⟨by omega, by omega⟩ ⟨by decide, by decide⟩ fun c25 => ?_)
          · refine i_102_81 ?_
            refine i_102_82 (x := Int32.ofInt n) l3 ?_
            refine i_102_83 (z_le (a := n) ⟨by omega, by omega⟩ fun c26 => ?_) (z_gt (a := n) ⟨by omega, by omega⟩ fun c26 => absurd c26 (by omega))
            refine i_102_90 ?_
            refine i_102_91 (fun c => absurd c (by decide)) (fun _ => ?_)
            refine i_102_94 ?_
            refine i_102_95 ?_
            refine i_102_99 rfl ?_
            refine lgen1 (i := 6) (v := Value.int 1) (fun lv lg ls => ?_)
            replace l5 := lg 5 _ rfl rfl l5
            replace l0 := lg 0 _ rfl rfl l0
            replace l1 := lg 1 _ rfl rfl l1
            replace l2 := lg 2 _ rfl rfl l2
            replace l3 := lg 3 _ rfl rfl l3
            replace l4 := lg 4 _ rfl rfl l4
            have l6 := ls
            refine i_102_101 (x := 93) l0 ?_
            refine i_102_102 (v := Value.ref 78) (hR.k8 kq_93) rfl ?_
            refine i_102_105 rfl ?_
            refine i_102_106 (v := Value.int (Int32.ofInt (S 78 3))) (hR.k1 kq_78) rfl ?_
            refine i_102_109 (x := 30 + 3 * a.toNat) l2 ?_
            refine i_102_110 (v := Value.int (Int32.ofInt (S (30 + 3 * a.toNat) 1))) (hR.k2 (kd_reg (r := a.toNat) (by omega))) rfl ?_
            refine i_102_113 ?_
            refine i_102_114 (b_ne (a := S (30 + 3 * a.toNat) 1) (b := 2) ⟨by omega, by omega⟩ ⟨by decide, by decide⟩ fun c27 => ?_) (b_eq (a := S (30 + 3 * a.toNat) 1) (b := 2) ⟨by omega, by omega⟩ ⟨by decide, by decide⟩ fun c27 => ?_)
            · refine i_102_126 ?_
              refine i_102_127 (c := Int32.ofInt (zor (S 78 3) 0)) (o_or (S 78 3) 0) ?_
              refine i_102_128 (fs2 := f1 (u1 (S 78) 3 (zor (S 78 3) 0))) (hR.k1 kq_78) (Nat.le_of_ble_eq_true rfl) rfl (h7k kq_78 (by decide)) ?_
              refine xgen (P := cX w0 L Z (u2 S 78 3 (zor (S 78 3) 0)) V) (hR.p1 kq_78) (fun w hR => ?_)
              refine i_102_131 (x := 30 + 3 * r.toNat) l1 ?_
              refine i_102_132 (x := 1) l6 ?_
              refine i_102_134 (fun c => absurd c (by decide)) (fun _ => ?_)
              refine i_102_137 ?_
              refine i_102_138 ?_
              refine i_102_142 (x := Int32.ofInt sg) l5 ?_
              have hobj := hR.k2 (kd_reg (r := r.toNat) (by omega))
              obtain ⟨w, hrun, hR⟩ := x_spec (d := d + 10) (t := 30 + 3 * r.toNat) (which := 1) (sg := sg) hR (kd_reg (r := r.toNat) (by omega)) (by first | omega | exact bb_01 _)
              refine i_102_144 hobj (Nat.le_of_ble_eq_true rfl) hrun ?_
              refine i_102_147 ?_
              have eo : sPow (vS S) (vV V) r.toNat a.toNat n mode = oS 1 sg (zor (S 78 3) 0) := by
                clear hR
                rw [sPow_v, if_neg (show ¬ n = 0 by omega), if_neg (by omega), if_pos (by omega), ← hsg]
                congr 1
                · rw [if_neg (by omega), if_pos (by omega)]
                · rw [if_neg (by omega), zor_0 hfl]
              rw [eo]
              exact ⟨rfl, _, _, hR, cP_flag (by omega) (by decide) nC.refl nW.refl (by omega)⟩
            · refine i_102_117 (x := Int32.ofInt n) l3 ?_
              refine i_102_118 (z_ge (a := n) ⟨by omega, by omega⟩ fun c28 => absurd c28 (by omega)) (z_lt (a := n) ⟨by omega, by omega⟩ fun c28 => ?_)
              refine i_102_121 ?_
              refine i_102_123 ?_
              refine i_102_127 (c := Int32.ofInt (zor (S 78 3) 16)) (o_or (S 78 3) 16) ?_
              refine i_102_128 (fs2 := f1 (u1 (S 78) 3 (zor (S 78 3) 16))) (hR.k1 kq_78) (Nat.le_of_ble_eq_true rfl) rfl (h7k kq_78 (by decide)) ?_
              refine xgen (P := cX w0 L Z (u2 S 78 3 (zor (S 78 3) 16)) V) (hR.p1 kq_78) (fun w hR => ?_)
              refine i_102_131 (x := 30 + 3 * r.toNat) l1 ?_
              refine i_102_132 (x := 1) l6 ?_
              refine i_102_134 (fun c => absurd c (by decide)) (fun _ => ?_)
              refine i_102_137 ?_
              refine i_102_138 ?_
              refine i_102_142 (x := Int32.ofInt sg) l5 ?_
              have hobj := hR.k2 (kd_reg (r := r.toNat) (by omega))
              obtain ⟨w, hrun, hR⟩ := x_spec (d := d + 10) (t := 30 + 3 * r.toNat) (which := 1) (sg := sg) hR (kd_reg (r := r.toNat) (by omega)) (by first | omega | exact bb_01 _)
              refine i_102_144 hobj (Nat.le_of_ble_eq_true rfl) hrun ?_
              refine i_102_147 ?_
              have eo : sPow (vS S) (vV V) r.toNat a.toNat n mode = oS 1 sg (zor (S 78 3) 16) := by
                clear hR
                rw [sPow_v, if_neg (show ¬ n = 0 by omega), if_neg (by omega), if_pos (by omega), ← hsg]
                congr 1
                · rw [if_neg (by omega), if_pos (by omega)]
                · rw [if_pos (by omega)]
              rw [eo]
              exact ⟨rfl, _, _, hR, cP_flag (by omega) (by decide) nC.refl nW.refl (by omega)⟩
          · refine i_102_77 ?_
            refine i_102_78 ?_
            refine i_102_82 (x := Int32.ofInt n) l3 ?_
            refine i_102_83 (z_le (a := n) ⟨by omega, by omega⟩ fun c29 => ?_) (z_gt (a := n) ⟨by omega, by omega⟩ fun c29 => absurd c29 (by omega))
            refine i_102_90 ?_
            refine i_102_91 (fun _ => ?_) (fun c => absurd c (by decide))
            refine i_102_98 ?_
            refine i_102_99 rfl ?_
            refine lgen1 (i := 6) (v := Value.int 0) (fun lv lg ls => ?_)
            replace l5 := lg 5 _ rfl rfl l5
            replace l0 := lg 0 _ rfl rfl l0
            replace l1 := lg 1 _ rfl rfl l1
            replace l2 := lg 2 _ rfl rfl l2
            replace l3 := lg 3 _ rfl rfl l3
            replace l4 := lg 4 _ rfl rfl l4
            have l6 := ls
            refine i_102_101 (x := 93) l0 ?_
            refine i_102_102 (v := Value.ref 78) (hR.k8 kq_93) rfl ?_
            refine i_102_105 rfl ?_
            refine i_102_106 (v := Value.int (Int32.ofInt (S 78 3))) (hR.k1 kq_78) rfl ?_
            refine i_102_109 (x := 30 + 3 * a.toNat) l2 ?_
            refine i_102_110 (v := Value.int (Int32.ofInt (S (30 + 3 * a.toNat) 1))) (hR.k2 (kd_reg (r := a.toNat) (by omega))) rfl ?_
            refine i_102_113 ?_
            refine i_102_114 (b_ne (a := S (30 + 3 * a.toNat) 1) (b := 2) ⟨by omega, by omega⟩ ⟨by decide, by decide⟩ fun c30 => ?_) (b_eq (a := S (30 + 3 * a.toNat) 1) (b := 2) ⟨by omega, by omega⟩ ⟨by decide, by decide⟩ fun c30 => absurd c30 (by omega))
            refine i_102_126 ?_
            refine i_102_127 (c := Int32.ofInt (zor (S 78 3) 0)) (o_or (S 78 3) 0) ?_
            refine i_102_128 (fs2 := f1 (u1 (S 78) 3 (zor (S 78 3) 0))) (hR.k1 kq_78) (Nat.le_of_ble_eq_true rfl) rfl (h7k kq_78 (by decide)) ?_
            refine xgen (P := cX w0 L Z (u2 S 78 3 (zor (S 78 3) 0)) V) (hR.p1 kq_78) (fun w hR => ?_)
            refine i_102_131 (x := 30 + 3 * r.toNat) l1 ?_
            refine i_102_132 (x := 0) l6 ?_
            refine i_102_134 (fun _ => ?_) (fun c => absurd c (by decide))
            refine i_102_141 ?_
            refine i_102_142 (x := Int32.ofInt sg) l5 ?_
            have hobj := hR.k2 (kd_reg (r := r.toNat) (by omega))
            obtain ⟨w, hrun, hR⟩ := x_spec (d := d + 10) (t := 30 + 3 * r.toNat) (which := 2) (sg := sg) hR (kd_reg (r := r.toNat) (by omega)) (by first | omega | exact bb_01 _)
            refine i_102_144 hobj (Nat.le_of_ble_eq_true rfl) hrun ?_
            refine i_102_147 ?_
            have eo : sPow (vS S) (vV V) r.toNat a.toNat n mode = oS 2 sg (zor (S 78 3) 0) := by
              clear hR
              rw [sPow_v, if_neg (show ¬ n = 0 by omega), if_neg (by omega), if_pos (by omega), ← hsg]
              congr 1
              · rw [if_neg (by omega), if_neg (by omega)]
              · rw [if_neg (by omega), zor_0 hfl]
            rw [eo]
            exact ⟨rfl, _, _, hR, cP_flag (by omega) (by decide) nC.refl nW.refl (by omega)⟩
      · refine i_102_56 (x := 30 + 3 * r.toNat) l1 ?_
        have hobj := hR.k2 (kd_reg (r := r.toNat) (by omega))
        obtain ⟨w, hrun, hR⟩ := x_nan (d := d + 9) (t := 30 + 3 * r.toNat) hR (kd_reg (r := r.toNat) (by omega))
        refine i_102_57 hobj (Nat.le_of_ble_eq_true rfl) hrun ?_
        refine i_102_60 ?_
        have eo : sPow (vS S) (vV V) r.toNat a.toNat n mode = oS 0 0 (S 78 3) := by clear hR; simp only [sPow, vS_153, vS_154, vS_155, vS_156, vS_17, vS_18, vS_19, vS_20, vV_r]; grind
        rw [eo]
        exact ⟨rfl, _, _, hR, cP_special (by first | omega | exact bb_01 _) (by decide) nC.refl nW.refl rfl (by omega)⟩
    refine i_102_0 (x := 30 + 3 * a.toNat) l2 ?_
    refine i_102_1 (v := Value.int (Int32.ofInt (S (30 + 3 * a.toNat) 2))) (hR.k2 (kd_reg (r := a.toNat) (by omega))) rfl ?_
    refine i_102_4 (z_eq (a := S (30 + 3 * a.toNat) 2) ⟨by omega, by omega⟩ fun c0 => ?_) (z_ne (a := S (30 + 3 * a.toNat) 2) ⟨by omega, by omega⟩ fun c0 => ?_)
    · refine i_102_17 ?_
      exact tail 0 lv (by rw [if_neg (by omega)]) (by decide) l0 l1 l2 l3 l4
    · refine i_102_7 (x := Int32.ofInt n) l3 ?_
      refine i_102_8 ?_
      refine i_102_9 (c := Int32.ofInt (Int.tmod n 2)) (o_nz (b := 2) ⟨by decide, by decide⟩) (o_tmod (a := n) (b := 2) ⟨by omega, by omega⟩ ⟨by decide, by decide⟩) ?_
      refine i_102_10 (z_eq (a := Int.tmod n 2) ⟨by omega, by omega⟩ fun c1 => ?_) (z_ne (a := Int.tmod n 2) ⟨by omega, by omega⟩ fun c1 => ?_)
      · refine i_102_17 ?_
        exact tail 0 lv (by rw [if_neg (by omega)]) (by decide) l0 l1 l2 l3 l4
      · refine i_102_13 ?_
        refine i_102_14 ?_
        exact tail 1 lv (by rw [if_pos (by omega)]) (by decide) l0 l1 l2 l3 l4
  obtain ⟨o, w', h1, rfl, h2⟩ := (key (lv_args 0 [Value.ref 93, Value.ref (30 + 3 * r.toNat), Value.ref (30 + 3 * a.toNat), Value.int (Int32.ofInt n), Value.int (Int32.ofInt mode)]) rfl rfl rfl rfl rfl).run
  exact ⟨w', h1, h2⟩
set_option maxHeartbeats 8000000 in
theorem x_rpZ {r a n mode : Int} (hR : cX w0 L Z S V w) (hI : cI S V) (hr : 0 ≤ r ∧ r ≤ 15) (ha : 0 ≤ a ∧ a ≤ 15) (hn : -32 ≤ n ∧ n ≤ 32) (hmo : 0 ≤ mode ∧ mode ≤ 4) (hfl : -2147483648 ≤ S 78 3 ∧ S 78 3 < 2147483648) (hsn : n = 0) : ∃ w', xRun (d + 11) 102 [Value.ref 93, Value.ref (30 + 3 * r.toNat), Value.ref (30 + 3 * a.toNat), Value.int (Int32.ofInt n), Value.int (Int32.ofInt mode)] w (.inl (some (.int (Int32.ofInt (sPow (vS S) (vV V) r.toNat a.toNat n mode).2.2.2.2.1)))) w' ∧ ∃ S' V', cX w0 L Z S' V' w' ∧ cOut S S' V V' (30 + 3 * r.toNat) (sPow (vS S) (vV V) r.toNat a.toNat n mode) := by
  have key : ∀ lv, xld lv 0 = some (Value.ref 93) → xld lv 1 = some (Value.ref (30 + 3 * r.toNat)) → xld lv 2 = some (Value.ref (30 + 3 * a.toNat)) → xld lv 3 = some (Value.int (Int32.ofInt n)) → xld lv 4 = some (Value.int (Int32.ofInt mode)) → xEv (d + 11) 102 0 lv [] w (fun o w' => o = .inl (some (.int (Int32.ofInt (sPow (vS S) (vV V) r.toNat a.toNat n mode).2.2.2.2.1))) ∧ ∃ S' V', cX w0 L Z S' V' w' ∧ cOut S S' V V' (30 + 3 * r.toNat) (sPow (vS S) (vV V) r.toNat a.toNat n mode)) := by
    intro lv l0 l1 l2 l3 l4
    obtain ⟨hp_r, hk_r, hn_r, ht_r, hx_r, hz_r⟩ := hI.1 r.toNat (by omega)
    obtain ⟨hp_a, hk_a, hn_a, ht_a, hx_a, hz_a⟩ := hI.1 a.toNat (by omega)
    have hi_l := hI.2.1
    have hi_g := hI.2.2.1
    have hm_a : S (30 + 3 * a.toNat) 1 = 3 → V (30 + 3 * a.toNat + 1) ≠ 0 := fun e => hI.nz (by omega) e
    have htm := tm2 n
    have hpw : pwP S := hI.2.2.2.1
    have tail : ∀ sg lv, sg = (if S (30 + 3 * a.toNat) 2 ≠ 0 ∧ n % 2 ≠ 0 then 1 else 0) → (sg = 0 ∨ sg = 1) → xld lv 0 = some (Value.ref 93) → xld lv 1 = some (Value.ref (30 + 3 * r.toNat)) → xld lv 2 = some (Value.ref (30 + 3 * a.toNat)) → xld lv 3 = some (Value.int (Int32.ofInt n)) → xld lv 4 = some (Value.int (Int32.ofInt mode)) → xEv (d + 11) 102 18 lv [.int (Int32.ofInt sg)] w (fun o w' => o = .inl (some (.int (Int32.ofInt (sPow (vS S) (vV V) r.toNat a.toNat n mode).2.2.2.2.1))) ∧ ∃ S' V', cX w0 L Z S' V' w' ∧ cOut S S' V V' (30 + 3 * r.toNat) (sPow (vS S) (vV V) r.toNat a.toNat n mode)) := by
      intro sg lv hsg hsg1 l0 l1 l2 l3 l4
      refine i_102_18 rfl ?_
      refine lgen1 (i := 5) (v := Value.int (Int32.ofInt sg)) (fun lv lg ls => ?_)
      replace l0 := lg 0 _ rfl rfl l0
      replace l1 := lg 1 _ rfl rfl l1
      replace l2 := lg 2 _ rfl rfl l2
      replace l3 := lg 3 _ rfl rfl l3
      replace l4 := lg 4 _ rfl rfl l4
      have l5 := ls
      refine i_102_20 (x := Int32.ofInt n) l3 ?_
      refine i_102_21 (z_ne (a := n) ⟨by omega, by omega⟩ fun c20 => absurd c20 (by omega)) (z_eq (a := n) ⟨by omega, by omega⟩ fun c20 => ?_)
      refine i_102_24 (x := 93) l0 ?_
      refine i_102_25 (v := Value.ref 94) (hR.k8 kq_93) rfl ?_
      refine i_102_28 ?_
      refine i_102_29 ?_
      refine i_102_30 ?_
      have hobj := hR.k4 kq_94
      obtain ⟨w, hrun, hR⟩ := x_tb (d := d + 8) (h := 94) (sg := 0) (b := 1) (pw := 0) hR kq_94 (by first | omega | exact bb_01 _) ⟨by omega, by omega⟩
      refine i_102_31 hobj (Nat.le_of_ble_eq_true rfl) hrun ?_
      refine i_102_34 (x := 93) l0 ?_
      refine i_102_35 (v := Value.ref 78) (hR.k8 kq_93) rfl ?_
      refine i_102_38 (x := 30 + 3 * r.toNat) l1 ?_
      refine i_102_39 (x := 93) l0 ?_
      refine i_102_40 (v := Value.ref 94) (hR.k8 kq_93) rfl ?_
      refine i_102_43 (x := Int32.ofInt mode) l4 ?_
      have hobj := hR.k1 kq_78
      have ep : (u2 (u2 (u2 S 94 0 0) 94 2 0) 94 3 0) (30 + 3 * r.toNat) 0 = S (30 + 3 * r.toNat) 0 := by rw [u2_eq, if_neg (fun e => absurd e.2 (by decide)), u2_eq, if_neg (fun e => absurd e.2 (by decide)), u2_eq, if_neg (fun e => absurd e.1 (by omega))]
      have el : (u2 (u2 (u2 S 94 0 0) 94 2 0) 94 3 0) 78 0 = S 78 0 := by rw [u2_eq, if_neg (fun e => absurd e.2 (by decide)), u2_eq, if_neg (fun e => absurd e.2 (by decide)), u2_eq, if_neg (fun e => absurd e.1 (by decide))]
      have eg : (u2 (u2 (u2 S 94 0 0) 94 2 0) 94 3 0) 78 1 = S 78 1 := by rw [u2_eq, if_neg (fun e => absurd e.2 (by decide)), u2_eq, if_neg (fun e => absurd e.2 (by decide)), u2_eq, if_neg (fun e => absurd e.2 (by decide))]
      have ed : (u2 (u2 (u2 S 94 0 0) 94 2 0) 94 3 0) 78 2 = S 78 2 := by rw [u2_eq, if_neg (fun e => absurd e.2 (by decide)), u2_eq, if_neg (fun e => absurd e.1 (by decide)), u2_eq, if_neg (fun e => absurd e.2 (by decide))]
      have ef : (u2 (u2 (u2 S 94 0 0) 94 2 0) 94 3 0) 78 3 = S 78 3 := by rw [u2_eq, if_neg (fun e => absurd e.1 (by decide)), u2_eq, if_neg (fun e => absurd e.2 (by decide)), u2_eq, if_neg (fun e => absurd e.2 (by decide))]
      have es : (u2 (u2 (u2 S 94 0 0) 94 2 0) 94 3 0) 94 0 = 0 := by rw [u2_eq, if_neg (fun e => absurd e.2 (by decide)), u2_eq, if_neg (fun e => absurd e.2 (by decide)), u2_eq, if_pos ⟨rfl, rfl⟩]
      have ec : (u2 (u2 (u2 S 94 0 0) 94 2 0) 94 3 0) 94 2 = 0 := by rw [u2_eq, if_neg (fun e => absurd e.2 (by decide)), u2_eq, if_pos ⟨rfl, rfl⟩]
      have em : (u2 (u2 (u2 S 94 0 0) 94 2 0) 94 3 0) 94 3 = 0 := by rw [u2_eq, if_pos ⟨rfl, rfl⟩]
      have ev : (uv V 95 ((1 : Int).toNat)) 95 = (1 : Int).toNat := uv_s
      obtain ⟨w, hrun, S22, V22, hR, hP⟩ := x_settle (d := d + 1) (g := 78) (t := 30 + 3 * r.toNat) (h := 94) (mode := mode) hR kq_78 (kd_reg (r := r.toNat) (by omega)) kq_94 (by rw [ep]; omega) (by rw [es]; first | omega | exact bb_01 _) (by rw [em]; omega) (by omega) (by rw [ev]; decide) (by rw [ev]; decide) (by rw [ec]; omega) (by rw [el, eg]; omega) (by rw [ed]; omega) (by rw [ep, el, ed, ev, ec, em]; exact fun _ _ => Or.inl rfl)
      rw [ep, el, eg, ed, ef, es, ec, em, ev] at hrun hP
      refine i_102_45 hobj (Nat.le_of_ble_eq_true rfl) hrun ?_
      refine i_102_48 ?_
      have eo : sPow (vS S) (vV V) r.toNat a.toNat n mode = oR (S (30 + 3 * r.toNat) 0) (S 78 0) (S 78 1) (S 78 2) 0 mode 0 ((1 : Int).toNat) 0 (S 78 3) := by
        clear hR hP
        rw [sPow_v, if_pos (by omega)]
        rfl
      rw [eo]
      exact ⟨rfl, _, _, hR, cP_round hP (by decide) (nC.up (nC.up (nC.up nC.refl (by unfold cKeep; omega) (by omega)) (by unfold cKeep; omega) (by omega)) (by unfold cKeep; omega) (by omega)) (nW.up nW.refl (by omega)) (by omega)⟩
    refine i_102_0 (x := 30 + 3 * a.toNat) l2 ?_
    refine i_102_1 (v := Value.int (Int32.ofInt (S (30 + 3 * a.toNat) 2))) (hR.k2 (kd_reg (r := a.toNat) (by omega))) rfl ?_
    refine i_102_4 (z_eq (a := S (30 + 3 * a.toNat) 2) ⟨by omega, by omega⟩ fun c0 => ?_) (z_ne (a := S (30 + 3 * a.toNat) 2) ⟨by omega, by omega⟩ fun c0 => ?_)
    · refine i_102_17 ?_
      exact tail 0 lv (by rw [if_neg (by omega)]) (by decide) l0 l1 l2 l3 l4
    · refine i_102_7 (x := Int32.ofInt n) l3 ?_
      refine i_102_8 ?_
      refine i_102_9 (c := Int32.ofInt (Int.tmod n 2)) (o_nz (b := 2) ⟨by decide, by decide⟩) (o_tmod (a := n) (b := 2) ⟨by omega, by omega⟩ ⟨by decide, by decide⟩) ?_
      refine i_102_10 (z_eq (a := Int.tmod n 2) ⟨by omega, by omega⟩ fun c1 => ?_) (z_ne (a := Int.tmod n 2) ⟨by omega, by omega⟩ fun c1 => ?_)
      · refine i_102_17 ?_
        exact tail 0 lv (by rw [if_neg (by omega)]) (by decide) l0 l1 l2 l3 l4
      · refine i_102_13 ?_
        refine i_102_14 ?_
        exact tail 1 lv (by rw [if_pos (by omega)]) (by decide) l0 l1 l2 l3 l4
  obtain ⟨o, w', h1, rfl, h2⟩ := (key (lv_args 0 [Value.ref 93, Value.ref (30 + 3 * r.toNat), Value.ref (30 + 3 * a.toNat), Value.int (Int32.ofInt n), Value.int (Int32.ofInt mode)]) rfl rfl rfl rfl rfl).run
  exact ⟨w', h1, h2⟩
theorem x_rp {r a n mode : Int} (hR : cX w0 L Z S V w) (hI : cI S V) (hr : 0 ≤ r ∧ r ≤ 15) (ha : 0 ≤ a ∧ a ≤ 15) (hn : -32 ≤ n ∧ n ≤ 32) (hmo : 0 ≤ mode ∧ mode ≤ 4) (hfl : -2147483648 ≤ S 78 3 ∧ S 78 3 < 2147483648) : ∃ w', xRun (d + 11) 102 [Value.ref 93, Value.ref (30 + 3 * r.toNat), Value.ref (30 + 3 * a.toNat), Value.int (Int32.ofInt n), Value.int (Int32.ofInt mode)] w (.inl (some (.int (Int32.ofInt (sPow (vS S) (vV V) r.toNat a.toNat n mode).2.2.2.2.1)))) w' ∧ ∃ S' V', cX w0 L Z S' V' w' ∧ cOut S S' V V' (30 + 3 * r.toNat) (sPow (vS S) (vV V) r.toNat a.toNat n mode) := by
  rcases (show 0 < n ∨ n < 0 ∨ n = 0 by omega) with h | h | h
  · exact x_rpP hR hI hr ha hn hmo hfl h
  · exact x_rpN hR hI hr ha hn hmo hfl h
  · exact x_rpZ hR hI hr ha hn hmo hfl h
set_option maxHeartbeats 4000000 in
theorem x_power {r a n mode : Int} (hR : cX w0 L Z S V w) (hI : cI S V) (hr : 0 ≤ r ∧ r ≤ 15) (ha : 0 ≤ a ∧ a ≤ 15) (hn : -32 ≤ n ∧ n ≤ 32) (hmo : 0 ≤ mode ∧ mode ≤ 4) (hfl : -2147483648 ≤ S 78 3 ∧ S 78 3 < 2147483648) : ∃ w', xRun (d + 12) 101 [Value.ref 7, Value.int (Int32.ofInt r), Value.int (Int32.ofInt a), Value.int (Int32.ofInt n), Value.int (Int32.ofInt mode)] w (.inl (some (.int (Int32.ofInt (sPow (vS S) (vV V) r.toNat a.toNat n mode).2.2.2.2.1)))) w' ∧ ∃ S' V', cX w0 L Z S' V' w' ∧ cOut S S' V V' (30 + 3 * r.toNat) (sPow (vS S) (vV V) r.toNat a.toNat n mode) := by
  have key : ∀ lv, xld lv 0 = some (Value.ref 7) → xld lv 1 = some (Value.int (Int32.ofInt r)) → xld lv 2 = some (Value.int (Int32.ofInt a)) → xld lv 3 = some (Value.int (Int32.ofInt n)) → xld lv 4 = some (Value.int (Int32.ofInt mode)) → xEv (d + 12) 101 0 lv [] w (fun o w' => o = .inl (some (.int (Int32.ofInt (sPow (vS S) (vV V) r.toNat a.toNat n mode).2.2.2.2.1))) ∧ ∃ S' V', cX w0 L Z S' V' w' ∧ cOut S S' V V' (30 + 3 * r.toNat) (sPow (vS S) (vV V) r.toNat a.toNat n mode)) := by
    intro lv l0 l1 l2 l3 l4
    obtain ⟨hp_r, hk_r, hn_r, ht_r, hx_r, hz_r⟩ := hI.1 r.toNat (by omega)
    obtain ⟨hp_a, hk_a, hn_a, ht_a, hx_a, hz_a⟩ := hI.1 a.toNat (by omega)
    have hi_l := hI.2.1
    have hi_g := hI.2.2.1
    refine i_101_0 (x := Int32.ofInt r) l1 ?_
    have hrun := x_noReg (d := d + 11) (w := w) (r := r) ⟨by omega, by omega⟩
    rw [show (decide (r < 0) || decide (16 ≤ r)) = false from by simp; omega] at hrun
    refine i_101_1 (Nat.le_of_ble_eq_true rfl) hrun ?_
    refine i_101_4 (fun c => absurd c (by decide)) (fun _ => ?_)
    refine i_101_7 (x := Int32.ofInt a) l2 ?_
    have hrun := x_noReg (d := d + 11) (w := w) (r := a) ⟨by omega, by omega⟩
    rw [show (decide (a < 0) || decide (16 ≤ a)) = false from by simp; omega] at hrun
    refine i_101_8 (Nat.le_of_ble_eq_true rfl) hrun ?_
    refine i_101_11 (fun c => absurd c (by decide)) (fun _ => ?_)
    refine i_101_14 (x := Int32.ofInt n) l3 ?_
    refine i_101_15 ?_
    refine i_101_17 (b_lt (a := n) (b := (-32)) ⟨by omega, by omega⟩ ⟨by decide, by decide⟩ fun c0 => ?_) (b_le (a := (-32)) (b := n) ⟨by decide, by decide⟩ ⟨by omega, by omega⟩ fun c0 => ?_)
    · refine i_101_34 (by omega) (Nat.le_of_ble_eq_true rfl) ?_
      exfalso; omega
    · refine i_101_20 (x := Int32.ofInt n) l3 ?_
      refine i_101_21 ?_
      refine i_101_23 (b_lt (a := 32) (b := n) ⟨by decide, by decide⟩ ⟨by omega, by omega⟩ fun c1 => ?_) (b_le (a := n) (b := 32) ⟨by omega, by omega⟩ ⟨by decide, by decide⟩ fun c1 => ?_)
      · refine i_101_34 (by omega) (Nat.le_of_ble_eq_true rfl) ?_
        exfalso; omega
      · refine i_101_26 (x := Int32.ofInt mode) l4 ?_
        have hrun := x_noMode (d := d + 11) (w := w) (m := mode) ⟨by omega, by omega⟩
        rw [show (decide (mode < 0) || decide (4 < mode)) = false from by simp; omega] at hrun
        refine i_101_28 (Nat.le_of_ble_eq_true rfl) hrun ?_
        refine i_101_31 (fun _ => ?_) (fun c => absurd c (by decide))
        refine i_101_42 (x := 7) l0 ?_
        refine i_101_43 (v := Value.ref 93) (hR.k0 kq_7) rfl ?_
        refine i_101_46 (x := 7) l0 ?_
        refine i_101_47 (v := Value.ref 8) (hR.k0 kq_7) rfl ?_
        refine i_101_50 (x := Int32.ofInt r) l1 ?_
        obtain ⟨gr, hgr, hge⟩ := hR.regs
        refine i_101_51 (v := Value.ref (30 + 3 * r.toNat)) hgr (ix0 (T := r) (by omega) (by omega)) (ix1 (T := r) (by omega) (by omega) (by omega)) (by rw [ixn (T := r) (by omega) (by omega)]; exact hge _ (by omega)) ?_
        refine i_101_52 (x := 7) l0 ?_
        refine i_101_53 (v := Value.ref 8) (hR.k0 kq_7) rfl ?_
        refine i_101_56 (x := Int32.ofInt a) l2 ?_
        obtain ⟨gr, hgr, hge⟩ := hR.regs
        refine i_101_57 (v := Value.ref (30 + 3 * a.toNat)) hgr (ix0 (T := a) (by omega) (by omega)) (ix1 (T := a) (by omega) (by omega) (by omega)) (by rw [ixn (T := a) (by omega) (by omega)]; exact hge _ (by omega)) ?_
        refine i_101_58 (x := Int32.ofInt n) l3 ?_
        refine i_101_59 (x := Int32.ofInt mode) l4 ?_
        have hobj := hR.k8 kq_93
        obtain ⟨w, hrun, S9, V9, hR, hP⟩ := x_rp (d := d) (r := r) (a := a) (n := n) (mode := mode) hR hI hr ha hn hmo hfl
        refine i_101_61 hobj (Nat.le_of_ble_eq_true rfl) hrun ?_
        refine i_101_64 ?_
        exact ⟨rfl, _, _, hR, hP⟩
  obtain ⟨o, w', h1, rfl, h2⟩ := (key (lv_args 0 [Value.ref 7, Value.int (Int32.ofInt r), Value.int (Int32.ofInt a), Value.int (Int32.ofInt n), Value.int (Int32.ofInt mode)]) rfl rfl rfl rfl rfl).run
  exact ⟨w', h1, h2⟩
end
