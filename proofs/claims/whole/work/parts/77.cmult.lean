/-! Register of the class: becomeMultiple -/
/-- what a register becomes of q * 2^u -/
def bP (S S' : Nat → Nat → Int) (V V' : Nat → Nat) (t : Nat) (sg : Int) (q : Nat) (u : Int) : Prop :=
  S' t 1 = (if q = 0 then 2 else 3) ∧ S' t 2 = sg ∧ (q ≠ 0 → S' t 3 = xbl q + u ∧ V' (t + 1) = nrm q (S t 0)) ∧
  (∀ b j, ¬ (b = t ∧ (j = 1 ∨ j = 2 ∨ j = 3)) → S' b j = S b j) ∧ ∀ k, k ≠ t + 1 → V' k = V k
theorem nrm_le {q : Nat} {p : Int} (h : xbl q ≤ p) : nrm q p = q * 2 ^ (p - xbl q).toNat := if_neg (by omega)
theorem xbl_2 (k : Nat) : xbl (2 ^ k) = k + 1 := by
  have := xbl_pow 1 k (by decide)
  rw [Nat.one_mul] at this
  rw [this, show xbl 1 = 1 from rfl]
  omega
theorem nrm_pow {k : Nat} {p : Int} (hp : 1 ≤ p) (hk : (k : Int) ≤ p) : nrm (2 ^ k) p = 2 ^ (p - 1).toNat := by
  unfold nrm
  rw [xbl_2]
  split
  · rw [show ((k + 1 : Nat) - p : Int).toNat = 1 by omega, show k = (p - 1).toNat + 1 by omega, Nat.pow_succ, Nat.pow_one, Nat.mul_div_cancel _ (by decide)]
  · rw [← Nat.pow_add]
    congr 1
    omega
theorem shf_cut {m : Nat} {p kp : Int} (h0 : 0 ≤ kp) (h1 : kp ≤ p) : shf m (p - xbl m) / 2 ^ (p - kp).toNat = rq m (xbl m - kp) := by
  unfold shf rq
  by_cases g : 0 ≤ p - (xbl m : Int)
  · rw [if_pos g]
    by_cases g2 : 0 < (xbl m : Int) - kp
    · rw [if_pos g2, show (p - kp).toNat = ((xbl m : Int) - kp).toNat + (p - (xbl m : Int)).toNat by omega, Nat.pow_add, Nat.mul_div_mul_right _ _ (Nat.two_pow_pos _)]
    · rw [if_neg g2, show (p - (xbl m : Int)).toNat = (-((xbl m : Int) - kp)).toNat + (p - kp).toNat by omega, Nat.pow_add, ← Nat.mul_assoc, Nat.mul_div_cancel _ (Nat.two_pow_pos _)]
  · rw [if_neg g, if_pos (by omega), Nat.div_div_eq_div_mul, ← Nat.pow_add, show (-(p - (xbl m : Int))).toNat + (p - kp).toNat = ((xbl m : Int) - kp).toNat by omega]
theorem bm1 {m : Nat} {p kp : Int} (h0 : 0 ≤ kp) (h1 : kp ≤ p) : shf m (p - xbl m) - shf m (p - xbl m) % 2 ^ (p - kp).toNat = rq m (xbl m - kp) * 2 ^ (p - kp).toNat := by
  rw [← shf_cut h0 h1]
  have h := Nat.div_add_mod (shf m (p - xbl m)) (2 ^ (p - kp).toNat)
  rw [Nat.mul_comm] at h
  omega
theorem rq_bl {m : Nat} {kp : Int} (hm : m ≠ 0) (h0 : 0 < kp) : (xbl (rq m (xbl m - kp)) : Int) = kp := by
  unfold rq
  split
  · rw [xbl_div]; omega
  · rw [xbl_pow _ _ hm]; omega
theorem rq_z {m : Nat} {cut : Int} (h : (xbl m : Int) ≤ cut) : rq m cut = 0 := by
  by_cases g : m = 0
  · subst g
    unfold rq
    split
    · exact Nat.zero_div _
    · exact Nat.zero_mul _
  · have h1 := (xbl_of g).2.2
    unfold rq
    rw [if_pos (by omega)]
    exact Nat.div_eq_of_lt (Nat.lt_of_lt_of_le (xbl_of g).2.1 (Nat.pow_le_pow_right (by decide) (by omega)))
theorem succ_pow {q k : Nat} (h1 : xbl q = k) (h2 : k < xbl (q + 1)) : q + 1 = 2 ^ k := by
  have h3 : q < 2 ^ k := by
    by_cases g : q = 0
    · subst g; exact Nat.two_pow_pos _
    · rw [← h1]; exact (xbl_of g).2.1
  have h4 := (xbl_of (show q + 1 ≠ 0 by omega)).1
  have h5 : 2 ^ k ≤ 2 ^ (xbl (q + 1) - 1) := Nat.pow_le_pow_right (by decide) (by omega)
  omega
theorem succ_bl {q k : Nat} (h1 : xbl q = k) (h2 : xbl (q + 1) ≤ k) : xbl (q + 1) = k := by
  have := xbl_mono (show q ≤ q + 1 by omega)
  omega
section
variable {w0 w : xW} {L Z : Nat} {S : Nat → Nat → Int} {V : Nat → Nat} {d h t r : Nat}
set_option maxHeartbeats 4000000 in
theorem x_mult {unit og : Int} (hR : cX w0 L Z S V w) (ht : kd t = 2) (hk : kd h = 4) (hne : t ≠ h) (hne2 : t ≠ h + 1) (hne3 : t + 1 ≠ h) (hp : 1 ≤ S t 0 ∧ S t 0 ≤ 4096) (hn : S h 0 = 0 ∨ S h 0 = 1) (ho : og = 0 ∨ og = 1) (hm0 : V (h + 1) ≠ 0) (hmb : xbl (V (h + 1)) ≤ 600000) (hs : -1000000 ≤ S h 2 ∧ S h 2 ≤ 1000000) (hu : -1000000 ≤ unit ∧ unit ≤ 1000000) (hkp : (xbl (V (h + 1)) : Int) + S h 2 - unit ≤ S t 0) : ∃ w', xRun (d + 5) 38 [Value.ref t, Value.ref h, Value.int (Int32.ofInt unit), Value.int (Int32.ofInt og)] w (.inl none) w' ∧ ∃ S' V', cX w0 L Z S' V' w' ∧ bP S S' V V' t (S h 0) (rq (V (h + 1)) (unit - S h 2) + og.toNat) unit := by
  have key : ∀ lv, xld lv 0 = some (Value.ref t) → xld lv 1 = some (Value.ref h) → xld lv 2 = some (Value.int (Int32.ofInt unit)) → xld lv 3 = some (Value.int (Int32.ofInt og)) → xEv (d + 5) 38 0 lv [] w (fun o w' => o = .inl none ∧ ∃ S' V', cX w0 L Z S' V' w' ∧ bP S S' V V' t (S h 0) (rq (V (h + 1)) (unit - S h 2) + og.toNat) unit) := by
    intro lv l0 l1 l2 l3
    refine i_38_0 (x := h) l1 ?_
    have hobj := hR.k4 hk
    have hrun := x_exp (d := d + 2) (h := h) hR hk
    refine i_38_1 hobj (Nat.le_of_ble_eq_true rfl) hrun ?_
    obtain ⟨pw, hpw⟩ : ∃ pw : Int, pw = (xbl (V (h + 1)) : Int) + S h 2 := ⟨_, rfl⟩
    rw [← hpw]
    refine i_38_4 rfl ?_
    refine lgen1 (i := 4) (v := Value.int (Int32.ofInt pw)) (fun lv lg ls => ?_)
    replace l0 := lg 0 _ rfl rfl l0
    replace l1 := lg 1 _ rfl rfl l1
    replace l2 := lg 2 _ rfl rfl l2
    replace l3 := lg 3 _ rfl rfl l3
    have l4 := ls
    refine i_38_6 (x := Int32.ofInt pw) l4 ?_
    refine i_38_8 (x := Int32.ofInt unit) l2 ?_
    refine i_38_9 (c := Int32.ofInt (pw - unit)) (o_sub pw unit) ?_
    obtain ⟨kp, hkp⟩ : ∃ kp : Int, kp = pw - unit := ⟨_, rfl⟩
    rw [← hkp]
    refine i_38_10 rfl ?_
    refine lgen1 (i := 5) (v := Value.int (Int32.ofInt kp)) (fun lv lg ls => ?_)
    replace l4 := lg 4 _ rfl rfl l4
    replace l0 := lg 0 _ rfl rfl l0
    replace l1 := lg 1 _ rfl rfl l1
    replace l2 := lg 2 _ rfl rfl l2
    replace l3 := lg 3 _ rfl rfl l3
    have l5 := ls
    refine i_38_12 (x := Int32.ofInt kp) l5 ?_
    refine i_38_14 (z_gt (a := kp) ⟨by omega, by omega⟩ fun c10 => ?_) (z_le (a := kp) ⟨by omega, by omega⟩ fun c10 => ?_)
    · refine i_38_31 (x := Int32.ofInt kp) l5 ?_
      refine i_38_33 (z_gt (a := kp) ⟨by omega, by omega⟩ fun c11 => ?_) (z_le (a := kp) ⟨by omega, by omega⟩ fun c11 => absurd c11 (by omega))
      refine i_38_48 (x := t) l0 ?_
      refine i_38_49 ?_
      refine i_38_50 (fs2 := f2 t (u1 (S t) 1 3)) (hR.k2 ht) (Nat.le_of_ble_eq_true rfl) rfl (h7k ht (by decide)) ?_
      refine xgen (P := cX w0 L Z (u2 S t 1 3) V) (hR.p2 ht) (fun w hR => ?_)
      refine i_38_53 (x := t) l0 ?_
      refine i_38_54 (x := h) l1 ?_
      refine i_38_55 (v := Value.int (Int32.ofInt ((u2 S t 1 3) h 0))) (hR.k4 hk) rfl ?_
      rw [show Int32.ofInt ((u2 S t 1 3) h 0) = Int32.ofInt (S h 0) by rw [u2_eq, if_neg (by omega)]]
      refine i_38_58 (fs2 := f2 t (u1 ((u2 S t 1 3) t) 2 (S h 0))) (hR.k2 ht) (o_bool (by omega)) (Nat.le_of_ble_eq_true rfl) rfl (h7k ht (by decide)) ?_
      refine xgen (P := cX w0 L Z (u2 (u2 S t 1 3) t 2 (S h 0)) V) (hR.p2 ht) (fun w hR => ?_)
      refine i_38_61 (x := t) l0 ?_
      refine i_38_62 (x := Int32.ofInt pw) l4 ?_
      refine i_38_64 (fs2 := f2 t (u1 ((u2 (u2 S t 1 3) t 2 (S h 0)) t) 3 pw)) (hR.k2 ht) (Nat.le_of_ble_eq_true rfl) rfl (h7k ht (by decide)) ?_
      refine xgen (P := cX w0 L Z (u2 (u2 (u2 S t 1 3) t 2 (S h 0)) t 3 pw) V) (hR.p2 ht) (fun w hR => ?_)
      refine i_38_67 (x := t) l0 ?_
      refine i_38_68 (v := Value.ref (t + 1)) (hR.k2 ht) rfl ?_
      refine i_38_71 (x := h) l1 ?_
      refine i_38_72 (v := Value.ref (h + 1)) (hR.k4 hk) rfl ?_
      refine i_38_75 (x := t) l0 ?_
      refine i_38_76 (v := Value.int (Int32.ofInt ((u2 (u2 (u2 S t 1 3) t 2 (S h 0)) t 3 pw) t 0))) (hR.k2 ht) rfl ?_
      rw [show Int32.ofInt ((u2 (u2 (u2 S t 1 3) t 2 (S h 0)) t 3 pw) t 0) = Int32.ofInt (S t 0) by rw [u2_eq, if_neg (by omega), u2_eq, if_neg (by omega), u2_eq, if_neg (by omega)]]
      refine i_38_79 (x := h) l1 ?_
      refine i_38_80 (v := Value.ref (h + 1)) (hR.k4 hk) rfl ?_
      obtain ⟨fs, hobj⟩ := hR.nat (kd_rl hk)
      have hrun := X_bits (d := d + 3) (h := h + 1) (u := V (h + 1)) hR (kd_rl hk) (rfl)
      refine i_38_83 hobj (Nat.le_of_ble_eq_true rfl) hrun ?_
      refine i_38_86 (c := Int32.ofInt ((S t 0) - (xbl (V (h + 1)) : Int))) (o_sub (S t 0) (xbl (V (h + 1)) : Int)) ?_
      obtain ⟨fs, hobj⟩ := hR.nat (kd_rg ht)
      obtain ⟨w, hrun, hR⟩ := X_shift (d := d + 1) (h := t + 1) (h2 := h + 1) (u := V (h + 1)) (k := (S t 0) - (xbl (V (h + 1)) : Int)) hR (kd_rg ht) (kd_rl hk) (rfl) (by omega) (by omega)
      refine i_38_87 hobj (Nat.le_of_ble_eq_true rfl) hrun ?_
      refine i_38_90 (x := t) l0 ?_
      refine i_38_91 (v := Value.ref (t + 1)) (hR.k2 ht) rfl ?_
      refine i_38_94 (x := t) l0 ?_
      refine i_38_95 (v := Value.int (Int32.ofInt ((u2 (u2 (u2 S t 1 3) t 2 (S h 0)) t 3 pw) t 0))) (hR.k2 ht) rfl ?_
      rw [show Int32.ofInt ((u2 (u2 (u2 S t 1 3) t 2 (S h 0)) t 3 pw) t 0) = Int32.ofInt (S t 0) by rw [u2_eq, if_neg (by omega), u2_eq, if_neg (by omega), u2_eq, if_neg (by omega)]]
      refine i_38_98 (x := Int32.ofInt kp) l5 ?_
      refine i_38_100 (c := Int32.ofInt ((S t 0) - kp)) (o_sub (S t 0) kp) ?_
      obtain ⟨fs, hobj⟩ := hR.nat (kd_rg ht)
      obtain ⟨w, hrun, hR⟩ := X_clear (d := d + 2) (h := t + 1) (u := shf (V (h + 1)) ((S t 0) - (xbl (V (h + 1)) : Int))) (p := (S t 0) - kp) hR (kd_rg ht) (uv_s) ⟨by omega, by omega⟩
      rw [uvv] at hR
      refine i_38_101 hobj (Nat.le_of_ble_eq_true rfl) hrun ?_
      obtain ⟨q, hq⟩ : ∃ q, q = rq (V (h + 1)) ((xbl (V (h + 1)) : Int) - kp) := ⟨_, rfl⟩
      obtain ⟨e, he⟩ : ∃ e, e = (S t 0 - kp).toNat := ⟨_, rfl⟩
      have hqb : xbl q = kp.toNat := by have := rq_bl (m := V (h + 1)) (kp := kp) hm0 (by omega); rw [← hq] at this; omega
      have hq0 : q ≠ 0 := fun g => by rw [g, xbl_zero] at hqb; omega
      have hqe : xbl (q * 2 ^ e) = xbl q + e := xbl_pow _ _ hq0
      have hq2 : xbl (q + 1) ≤ kp.toNat + 1 := by have h3 := (xbl_of hq0).2.1; rw [hqb] at h3; exact xbl_le (by rw [Nat.pow_succ]; omega)
      have hQ : rq (V (h + 1)) (unit - S h 2) = q := by rw [hq]; congr 1; omega
      have eq0 : shf (V (h + 1)) (S t 0 - (xbl (V (h + 1)) : Int)) - shf (V (h + 1)) (S t 0 - (xbl (V (h + 1)) : Int)) % 2 ^ (S t 0 - kp).toNat = q * 2 ^ e := by rw [hq, he]; exact bm1 (by omega) (by omega)
      rw [eq0] at hR
      refine i_38_104 (x := Int32.ofInt og) l3 ?_
      refine i_38_105 (z_eq (a := og) ⟨by omega, by omega⟩ fun c40 => ?_) (z_ne (a := og) ⟨by omega, by omega⟩ fun c40 => ?_)
      · refine i_38_122 (x := t) l0 ?_
        refine i_38_123 (v := Value.ref (t + 1)) (hR.k2 ht) rfl ?_
        obtain ⟨fs, hobj⟩ := hR.nat (kd_rg ht)
        have hrun := X_bits (d := d + 3) (h := t + 1) (u := q * 2 ^ e) hR (kd_rg ht) (uv_s)
        have hb5 : xbl (q * 2 ^ e) = xbl q + e := xbl_pow _ _ (by omega)
        refine i_38_126 hobj (Nat.le_of_ble_eq_true rfl) hrun ?_
        refine i_38_129 (x := t) l0 ?_
        refine i_38_130 (v := Value.int (Int32.ofInt ((u2 (u2 (u2 S t 1 3) t 2 (S h 0)) t 3 pw) t 0))) (hR.k2 ht) rfl ?_
        rw [show Int32.ofInt ((u2 (u2 (u2 S t 1 3) t 2 (S h 0)) t 3 pw) t 0) = Int32.ofInt (S t 0) by rw [u2_eq, if_neg (by omega), u2_eq, if_neg (by omega), u2_eq, if_neg (by omega)]]
        refine i_38_133 (b_le (a := (xbl (q * 2 ^ e) : Int)) (b := S t 0) ⟨by omega, by omega⟩ ⟨by omega, by omega⟩ fun c41 => ?_) (b_lt (a := S t 0) (b := (xbl (q * 2 ^ e) : Int)) ⟨by omega, by omega⟩ ⟨by omega, by omega⟩ fun c41 => ?_)
        · refine i_38_148 ?_
          have eq : rq (V (h + 1)) (unit - S h 2) + og.toNat = q := by rw [hQ, show og = 0 by omega]; rfl
          rw [eq]
          refine ⟨rfl, _, _, hR, ?_, ?_, fun _ => ⟨?_, ?_⟩, fun b j hb => ?_, fun k hk => ?_⟩
          · rw [if_neg (by omega)]; simp only [u2_eq]; grind
          · simp only [u2_eq]; grind
          · rw [hqb]; simp only [u2_eq]; grind
          · rw [uv_s, nrm_le (by omega), hqb, show (S t 0 - ((kp.toNat : Nat) : Int)).toNat = e by omega]
          · simp only [u2_eq]; grind
          · simp only [uv_e]; grind
        · refine i_38_136 (x := t) l0 ?_
          refine i_38_137 (x := h) l1 ?_
          refine i_38_138 (v := Value.int (Int32.ofInt ((u2 (u2 (u2 S t 1 3) t 2 (S h 0)) t 3 pw) h 0))) (hR.k4 hk) rfl ?_
          rw [show Int32.ofInt ((u2 (u2 (u2 S t 1 3) t 2 (S h 0)) t 3 pw) h 0) = Int32.ofInt (S h 0) by rw [u2_eq, if_neg (by omega), u2_eq, if_neg (by omega), u2_eq, if_neg (by omega)]]
          refine i_38_141 (x := Int32.ofInt pw) l4 ?_
          refine i_38_143 ?_
          refine i_38_144 (c := Int32.ofInt (pw + 1)) (o_add pw 1) ?_
          have hobj := hR.k2 ht
          have ep : (u2 (u2 (u2 S t 1 3) t 2 (S h 0)) t 3 pw) t 0 = S t 0 := by rw [u2_eq, if_neg (by omega), u2_eq, if_neg (by omega), u2_eq, if_neg (by omega)]
          obtain ⟨w, hrun, hR⟩ := x_pow2 (d := d) (t := t) (sg := S h 0) (pw := pw + 1) hR ht (by first | omega | exact bb_01 _) (by rw [ep]; omega)
          rw [ep] at hR
          rw [uvv] at hR
          refine i_38_145 hobj (Nat.le_of_ble_eq_true rfl) hrun ?_
          refine i_38_148 ?_
          exfalso; omega
      · refine i_38_108 (x := t) l0 ?_
        refine i_38_109 (v := Value.ref (t + 1)) (hR.k2 ht) rfl ?_
        refine i_38_112 (x := t) l0 ?_
        refine i_38_113 (v := Value.int (Int32.ofInt ((u2 (u2 (u2 S t 1 3) t 2 (S h 0)) t 3 pw) t 0))) (hR.k2 ht) rfl ?_
        rw [show Int32.ofInt ((u2 (u2 (u2 S t 1 3) t 2 (S h 0)) t 3 pw) t 0) = Int32.ofInt (S t 0) by rw [u2_eq, if_neg (by omega), u2_eq, if_neg (by omega), u2_eq, if_neg (by omega)]]
        refine i_38_116 (x := Int32.ofInt kp) l5 ?_
        refine i_38_118 (c := Int32.ofInt ((S t 0) - kp)) (o_sub (S t 0) kp) ?_
        obtain ⟨fs, hobj⟩ := hR.nat (kd_rg ht)
        obtain ⟨w, hrun, hR⟩ := X_addBit (d := d) (h := t + 1) (u := q * 2 ^ e) (p := (S t 0) - kp) hR (kd_rg ht) (uv_s) ⟨by omega, by omega⟩ (by omega)
        rw [uvv] at hR
        refine i_38_119 hobj (Nat.le_of_ble_eq_true rfl) hrun ?_
        refine i_38_122 (x := t) l0 ?_
        refine i_38_123 (v := Value.ref (t + 1)) (hR.k2 ht) rfl ?_
        obtain ⟨fs, hobj⟩ := hR.nat (kd_rg ht)
        have hrun := X_bits (d := d + 3) (h := t + 1) (u := (q * 2 ^ e) + 2 ^ ((S t 0) - kp : Int).toNat) hR (kd_rg ht) (uv_s)
        have hb5 : xbl ((q * 2 ^ e) + 2 ^ ((S t 0) - kp : Int).toNat) = xbl (q + 1) + e := by rw [← he, show q * 2 ^ e + 2 ^ e = (q + 1) * 2 ^ e by rw [Nat.add_mul, Nat.one_mul], xbl_pow _ _ (by omega)]
        refine i_38_126 hobj (Nat.le_of_ble_eq_true rfl) hrun ?_
        refine i_38_129 (x := t) l0 ?_
        refine i_38_130 (v := Value.int (Int32.ofInt ((u2 (u2 (u2 S t 1 3) t 2 (S h 0)) t 3 pw) t 0))) (hR.k2 ht) rfl ?_
        rw [show Int32.ofInt ((u2 (u2 (u2 S t 1 3) t 2 (S h 0)) t 3 pw) t 0) = Int32.ofInt (S t 0) by rw [u2_eq, if_neg (by omega), u2_eq, if_neg (by omega), u2_eq, if_neg (by omega)]]
        refine i_38_133 (b_le (a := (xbl ((q * 2 ^ e) + 2 ^ ((S t 0) - kp : Int).toNat) : Int)) (b := S t 0) ⟨by omega, by omega⟩ ⟨by omega, by omega⟩ fun c42 => ?_) (b_lt (a := S t 0) (b := (xbl ((q * 2 ^ e) + 2 ^ ((S t 0) - kp : Int).toNat) : Int)) ⟨by omega, by omega⟩ ⟨by omega, by omega⟩ fun c42 => ?_)
        · refine i_38_148 ?_
          have e5 : xbl (q + 1) = kp.toNat := succ_bl (by omega) (by omega)
          have eq : rq (V (h + 1)) (unit - S h 2) + og.toNat = q + 1 := by rw [hQ, show og = 1 by omega]; rfl
          rw [eq]
          refine ⟨rfl, _, _, hR, ?_, ?_, fun _ => ⟨?_, ?_⟩, fun b j hb => ?_, fun k hk => ?_⟩
          · rw [if_neg (by omega)]; simp only [u2_eq]; grind
          · simp only [u2_eq]; grind
          · rw [e5]; simp only [u2_eq]; grind
          · rw [uv_s, nrm_le (by omega), e5, show (S t 0 - ((kp.toNat : Nat) : Int)).toNat = e by omega]; rw [← he, Nat.add_mul, Nat.one_mul]
          · simp only [u2_eq]; grind
          · simp only [uv_e]; grind
        · refine i_38_136 (x := t) l0 ?_
          refine i_38_137 (x := h) l1 ?_
          refine i_38_138 (v := Value.int (Int32.ofInt ((u2 (u2 (u2 S t 1 3) t 2 (S h 0)) t 3 pw) h 0))) (hR.k4 hk) rfl ?_
          rw [show Int32.ofInt ((u2 (u2 (u2 S t 1 3) t 2 (S h 0)) t 3 pw) h 0) = Int32.ofInt (S h 0) by rw [u2_eq, if_neg (by omega), u2_eq, if_neg (by omega), u2_eq, if_neg (by omega)]]
          refine i_38_141 (x := Int32.ofInt pw) l4 ?_
          refine i_38_143 ?_
          refine i_38_144 (c := Int32.ofInt (pw + 1)) (o_add pw 1) ?_
          have hobj := hR.k2 ht
          have ep : (u2 (u2 (u2 S t 1 3) t 2 (S h 0)) t 3 pw) t 0 = S t 0 := by rw [u2_eq, if_neg (by omega), u2_eq, if_neg (by omega), u2_eq, if_neg (by omega)]
          obtain ⟨w, hrun, hR⟩ := x_pow2 (d := d) (t := t) (sg := S h 0) (pw := pw + 1) hR ht (by first | omega | exact bb_01 _) (by rw [ep]; omega)
          rw [ep] at hR
          rw [uvv] at hR
          refine i_38_145 hobj (Nat.le_of_ble_eq_true rfl) hrun ?_
          refine i_38_148 ?_
          have e5 : q + 1 = 2 ^ kp.toNat := succ_pow (by omega) (by omega)
          have eq : rq (V (h + 1)) (unit - S h 2) + og.toNat = 2 ^ kp.toNat := by rw [hQ, show og = 1 by omega]; exact e5
          rw [eq]
          refine ⟨rfl, _, _, hR, ?_, ?_, fun _ => ⟨?_, ?_⟩, fun b j hb => ?_, fun k hk => ?_⟩
          · rw [if_neg (Nat.ne_of_gt (Nat.two_pow_pos _))]; simp only [u2_eq]; grind
          · simp only [u2_eq]; grind
          · rw [xbl_2]; simp only [u2_eq]; grind
          · rw [uv_s, nrm_pow (by omega) (by omega)]
          · simp only [u2_eq]; grind
          · simp only [uv_e]; grind
    · refine i_38_17 (x := Int32.ofInt og) l3 ?_
      refine i_38_18 (z_ne (a := og) ⟨by omega, by omega⟩ fun c12 => ?_) (z_eq (a := og) ⟨by omega, by omega⟩ fun c12 => ?_)
      · refine i_38_31 (x := Int32.ofInt kp) l5 ?_
        refine i_38_33 (z_gt (a := kp) ⟨by omega, by omega⟩ fun c13 => absurd c13 (by omega)) (z_le (a := kp) ⟨by omega, by omega⟩ fun c13 => ?_)
        refine i_38_36 (x := t) l0 ?_
        refine i_38_37 (x := h) l1 ?_
        refine i_38_38 (v := Value.int (Int32.ofInt (S h 0))) (hR.k4 hk) rfl ?_
        refine i_38_41 (x := Int32.ofInt unit) l2 ?_
        refine i_38_42 ?_
        refine i_38_43 (c := Int32.ofInt (unit + 1)) (o_add unit 1) ?_
        have hobj := hR.k2 ht
        have ep : S t 0 = S t 0 := by rfl
        obtain ⟨w, hrun, hR⟩ := x_pow2 (d := d) (t := t) (sg := S h 0) (pw := unit + 1) hR ht (by first | omega | exact bb_01 _) (by rw [ep]; omega)
        rw [ep] at hR
        refine i_38_44 hobj (Nat.le_of_ble_eq_true rfl) hrun ?_
        refine i_38_47 ?_
        have eq : rq (V (h + 1)) (unit - S h 2) + og.toNat = 1 := by rw [show unit - S h 2 = (xbl (V (h + 1)) : Int) - kp by omega, rq_z (by omega), show og = 1 by omega]; rfl
        rw [eq]
        exact ⟨rfl, _, _, hR, by rw [if_neg (by decide), u2_eq, if_neg (by omega), u2_eq, if_neg (by omega), u2_eq, if_pos ⟨rfl, rfl⟩], by rw [u2_eq, if_neg (by omega), u2_eq, if_pos ⟨rfl, rfl⟩], fun _ => ⟨by rw [u2_eq, if_pos ⟨rfl, rfl⟩, show xbl 1 = 1 from rfl]; omega, by rw [uv_s, show (1 : Nat) = 2 ^ 0 from rfl, nrm_pow (by omega) (by omega)]⟩, fun b j hb => by rw [u2_eq, if_neg (by omega), u2_eq, if_neg (by omega), u2_eq, if_neg (by omega)], fun k hk => uv_n hk⟩
      · refine i_38_21 (x := t) l0 ?_
        refine i_38_22 (x := h) l1 ?_
        refine i_38_23 (v := Value.int (Int32.ofInt (S h 0))) (hR.k4 hk) rfl ?_
        have hobj := hR.k2 ht
        obtain ⟨w, hrun, hR⟩ := x_zero (d := d + 3) (t := t) (sg := S h 0) hR ht (by first | omega | exact bb_01 _)
        refine i_38_26 hobj (Nat.le_of_ble_eq_true rfl) hrun ?_
        refine i_38_29 rfl ?_
        refine i_38_30 ?_
        have eq : rq (V (h + 1)) (unit - S h 2) + og.toNat = 0 := by rw [show unit - S h 2 = (xbl (V (h + 1)) : Int) - kp by omega, rq_z (by omega), show og = 0 by omega]; rfl
        rw [eq]
        exact ⟨rfl, _, _, hR, by rw [if_pos rfl, u2_eq, if_neg (by omega), u2_eq, if_pos ⟨rfl, rfl⟩], by rw [u2_eq, if_pos ⟨rfl, rfl⟩], fun g => absurd rfl g, fun b j hb => by rw [u2_eq, if_neg (by omega), u2_eq, if_neg (by omega)], fun k _ => rfl⟩
  obtain ⟨o, w', h1, rfl, h2⟩ := (key (lv_args 0 [Value.ref t, Value.ref h, Value.int (Int32.ofInt unit), Value.int (Int32.ofInt og)]) rfl rfl rfl rfl).run
  exact ⟨w', h1, h2⟩
end
