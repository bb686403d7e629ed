/-! writing of the reference: digits -/
def lgm (rx : Nat) : Int := (xlogm.getD rx 0).toInt
theorem lgm_all : (List.range 35).all (fun j => decide (1048576 * ((xbl (j + 2) : Int) - 1) ≤ lgm (j + 2) ∧ lgm (j + 2) ≤ 5421059) && (decide ((j + 2) ^ 1048576 ≤ 2 ^ (lgm (j + 2) + 1).toNat) && decide (2 ^ (lgm (j + 2)).toNat ≤ (j + 2) ^ 1048576))) = true := by decide +kernel
theorem lgm_ok {rx : Nat} (h : 2 ≤ rx ∧ rx ≤ 36) : (1048576 * ((xbl rx : Int) - 1) ≤ lgm rx ∧ lgm rx ≤ 5421059) ∧ rx ^ 1048576 ≤ 2 ^ (lgm rx + 1).toNat ∧ 2 ^ (lgm rx).toNat ≤ rx ^ 1048576 := by
  have := List.all_eq_true.mp lgm_all (rx - 2) (List.mem_range.mpr (by omega))
  rw [show rx - 2 + 2 = rx by omega] at this
  rw [Bool.and_eq_true, Bool.and_eq_true, decide_eq_true_iff, decide_eq_true_iff, decide_eq_true_iff] at this
  exact this
/-- the guess of the reference -/
def gss (rx : Nat) (e : Int) : Int := if 0 < e then e * 1048576 / (lgm rx + 1) else -((-e) * 1048576 / lgm rx) - 1
theorem xbl_rx {rx : Nat} (h : 2 ≤ rx ∧ rx ≤ 36) : 2 ≤ xbl rx ∧ xbl rx ≤ 6 := by
  refine ⟨?_, xbl_le (by omega)⟩
  have g := xbl_lt rx
  refine Nat.le_of_not_lt fun c => ?_
  have := Nat.pow_le_pow_right (show 0 < 2 by decide) (show xbl rx ≤ 1 by omega)
  omega
theorem gss_le {rx : Nat} {e : Int} (h : 2 ≤ rx ∧ rx ≤ 36) : vGe 1 e rx (gss rx e) := by
  obtain ⟨⟨l1, l2⟩, l3, l4⟩ := lgm_ok h
  have hx := xbl_rx h
  generalize hl : lgm rx = l at l1 l2 l3 l4
  have hl0 : 1048576 ≤ l := by omega
  unfold gss
  rw [hl]
  obtain ⟨L, hL⟩ : ∃ L : Nat, l = (L : Int) := ⟨l.toNat, by omega⟩
  subst hL
  rw [Int.toNat_natCast] at l4
  rw [show ((L : Int) + 1).toNat = L + 1 by omega] at l3
  by_cases he : 0 < e
  · rw [if_pos he]
    obtain ⟨n, hn⟩ : ∃ n : Nat, e = (n : Int) := ⟨e.toNat, by omega⟩
    subst hn
    rw [show (n : Int) * 1048576 / ((L : Int) + 1) = ((n * 1048576 / (L + 1) : Nat) : Int) by rw [Int.natCast_ediv, Int.natCast_mul, Int.natCast_add]; rfl]
    generalize hq : n * 1048576 / (L + 1) = q
    have hq1 : q * (L + 1) ≤ n * 1048576 := by rw [← hq]; exact Nat.div_mul_le_self _ _
    unfold vGe bNu bDe
    rw [if_pos (by omega), if_pos (by omega), show (max 0 (-(n : Int))).toNat = 0 by omega, show (max 0 (n : Int)).toNat = n by omega, Nat.pow_zero, Nat.mul_one, Nat.one_mul, Nat.mul_one, Int.natAbs_natCast]
    refine Nat.le_of_not_lt fun hc => ?_
    have d1 := Nat.pow_lt_pow_left hc (show (1048576 : Nat) ≠ 0 by decide)
    have d2 : (rx ^ q) ^ 1048576 ≤ (2 ^ n) ^ 1048576 := by
      calc (rx ^ q) ^ 1048576 = (rx ^ 1048576) ^ q := by rw [← Nat.pow_mul, ← Nat.pow_mul, Nat.mul_comm]
        _ ≤ (2 ^ (L + 1)) ^ q := Nat.pow_le_pow_left l3 _
        _ = 2 ^ (q * (L + 1)) := by rw [← Nat.pow_mul, Nat.mul_comm]
        _ ≤ 2 ^ (n * 1048576) := Nat.pow_le_pow_right (by decide) hq1
        _ = (2 ^ n) ^ 1048576 := Nat.pow_mul _ _ _
    exact absurd (Nat.lt_of_lt_of_le d1 d2) (Nat.lt_irrefl _)
  · rw [if_neg he]
    obtain ⟨n, hn⟩ : ∃ n : Nat, -e = (n : Int) := ⟨(-e).toNat, by omega⟩
    rw [hn, show (n : Int) * 1048576 / (L : Int) = ((n * 1048576 / L : Nat) : Int) by rw [Int.natCast_ediv, Int.natCast_mul]; rfl]
    generalize hq : n * 1048576 / L = q
    have hq1 : n * 1048576 < (q + 1) * L := by
      have := Nat.lt_mul_div_succ (n * 1048576) (show 0 < L by omega)
      rw [hq] at this
      rw [Nat.mul_comm (q + 1) L]
      exact this
    unfold vGe bNu bDe
    rw [if_neg (by omega), if_neg (by omega), hn, show max 0 e = 0 by omega, show (max 0 (n : Int)).toNat = n by omega, show (0 : Int).toNat = 0 from rfl, Nat.pow_zero, Nat.one_mul, Nat.mul_one, Nat.one_mul, show (-(q : Int) - 1).natAbs = q + 1 by omega]
    refine Nat.le_of_not_lt fun hc => ?_
    have d1 := Nat.pow_lt_pow_left hc (show (1048576 : Nat) ≠ 0 by decide)
    have d2 : (2 ^ n) ^ 1048576 ≤ (rx ^ (q + 1)) ^ 1048576 := by
      calc (2 ^ n) ^ 1048576 = 2 ^ (n * 1048576) := (Nat.pow_mul _ _ _).symm
        _ ≤ 2 ^ ((q + 1) * L) := Nat.pow_le_pow_right (by decide) (Nat.le_of_lt hq1)
        _ = (2 ^ L) ^ (q + 1) := by rw [← Nat.pow_mul, Nat.mul_comm]
        _ ≤ (rx ^ 1048576) ^ (q + 1) := Nat.pow_le_pow_left l4 _
        _ = (rx ^ (q + 1)) ^ 1048576 := by rw [← Nat.pow_mul, ← Nat.pow_mul, Nat.mul_comm]
    exact absurd (Nat.lt_of_lt_of_le d1 d2) (Nat.lt_irrefl _)
/-- the guess is not far out -/
theorem gss_b {rx : Nat} {e : Int} (h : 2 ≤ rx ∧ rx ≤ 36) (he : -21000 ≤ e ∧ e ≤ 21000) : -21002 ≤ gss rx e ∧ gss rx e ≤ 21002 ∧ -42100 ≤ gss rx e * xbl rx ∧ gss rx e * xbl rx ≤ 42100 := by
  obtain ⟨⟨l1, l2⟩, -, -⟩ := lgm_ok h
  have hx := xbl_rx h
  generalize lgm rx = l at l1 l2
  have hd : ∀ y L : Int, 0 ≤ y → y ≤ 21000 → 1048576 * ((xbl rx : Int) - 1) ≤ L → 0 ≤ y * 1048576 / L ∧ y * 1048576 / L ≤ 21000 ∧ y * 1048576 / L * ((xbl rx : Int) - 1) ≤ 21000 := by
    intro y L h0 h1 h2
    have hL : 0 < L := by omega
    have a0 : 0 ≤ y * 1048576 / L := Int.ediv_nonneg (by omega) (by omega)
    have a1 : y * 1048576 / L * L ≤ y * 1048576 := Int.ediv_mul_le _ (by omega)
    generalize y * 1048576 / L = q at a0 a1
    have a2 : q * (1048576 * ((xbl rx : Int) - 1)) ≤ q * L := Int.mul_le_mul_of_nonneg_left h2 a0
    have a3 : q * (1048576 * ((xbl rx : Int) - 1)) = 1048576 * (q * ((xbl rx : Int) - 1)) := Int.mul_left_comm _ _ _
    have a4 : q * 1 ≤ q * ((xbl rx : Int) - 1) := Int.mul_le_mul_of_nonneg_left (by omega) a0
    rw [Int.mul_one] at a4
    generalize q * ((xbl rx : Int) - 1) = z at a3 a4 ⊢
    generalize q * L = t at a1 a2
    omega
  unfold gss
  split
  · obtain ⟨q0, q1, q2⟩ := hd e (lgm rx + 1) (by omega) (by omega) (by have := (lgm_ok h).1.1; omega)
    generalize e * 1048576 / (lgm rx + 1) = q at q0 q1 q2 ⊢
    rw [Int.mul_sub, Int.mul_one] at q2
    have : 0 ≤ q * (xbl rx : Int) := Int.mul_nonneg q0 (by omega)
    generalize q * (xbl rx : Int) = z at q2 this ⊢
    omega
  · obtain ⟨q0, q1, q2⟩ := hd (-e) (lgm rx) (by omega) (by omega) (lgm_ok h).1.1
    generalize (-e) * 1048576 / lgm rx = q at q0 q1 q2 ⊢
    rw [Int.mul_sub, Int.mul_one] at q2
    have : 0 ≤ q * (xbl rx : Int) := Int.mul_nonneg q0 (by omega)
    rw [Int.sub_mul, Int.one_mul, Int.neg_mul]
    generalize q * (xbl rx : Int) = z at q2 this ⊢
    omega
theorem vGe_up {M B p : Nat} {E e k : Int} (hB : 0 < B) (hM : xbl M = p) (hp : 1 ≤ p) (hE : E = e + 1 - p) (h : vGe 1 e B k) : vGe M E B k := by
  have hM0 : M ≠ 0 := fun c => by rw [c, xbl_zero] at hM; omega
  obtain ⟨x1, x2, x3⟩ := xbl_of hM0
  rw [hM] at x1 x2
  obtain ⟨K, hK⟩ : ∃ K : Nat, (K : Int) = max 0 (max (-k) (max (-E) (-e))) := ⟨(max 0 (max (-k) (max (-E) (-e)))).toNat, by omega⟩
  rw [vGe_K (K := K) hB (by omega) (by omega)] at h ⊢
  have e1 : 2 ^ (e + K).toNat = 2 ^ (p - 1) * 2 ^ (E + K).toNat := by rw [← Nat.pow_add]; congr 1; omega
  rw [Nat.one_mul, e1] at h
  exact Nat.le_trans h (Nat.mul_le_mul_right _ (Nat.mul_le_mul_right _ x1))
/-- n digits reach the power of the base -/
theorem vB_iff {M B : Nat} {E x n : Int} (hB : 0 < B) (hn : 0 ≤ n) : B ^ n.toNat * fDn B (n - x) E ≤ M * fGn B (n - x) E ↔ vGe M E B x := by
  obtain ⟨K, hK⟩ : ∃ K : Nat, (K : Int) = max 0 (max (-x) (max (-(n - x)) (-E))) := ⟨(max 0 (max (-x) (max (-(n - x)) (-E)))).toNat, by omega⟩
  rw [vGe_K (K := K) hB (by omega) (by omega)]
  unfold fGn fDn
  have e1 := bND (B := B) (K := K) (k := n - x) (by omega)
  have e2 := tPQ (K := K) (E := E) (by omega)
  have p1 : 0 < B ^ K * 2 ^ K * B ^ (x + K).toNat := Nat.mul_pos (Nat.mul_pos (Nat.pow_pos hB) (Nat.two_pow_pos _)) (Nat.pow_pos hB)
  have p2 : 0 < B ^ (n - x + K).toNat * bDe B (n - x) * 2 ^ (max 0 (-E)).toNat := Nat.mul_pos (Nat.mul_pos (Nat.pow_pos hB) (bDe_pos hB)) (Nat.two_pow_pos _)
  have e3 : B ^ (n - x + K).toNat * B ^ (x + K).toNat = B ^ n.toNat * (B ^ K * B ^ K) := by rw [← Nat.pow_add, ← Nat.pow_add, ← Nat.pow_add]; congr 1; omega
  have l1 : B ^ n.toNat * (bDe B (n - x) * 2 ^ (max 0 (-E)).toNat) * (B ^ K * B ^ K * 2 ^ K) = B ^ (x + K).toNat * 2 ^ K * (B ^ (n - x + K).toNat * bDe B (n - x) * 2 ^ (max 0 (-E)).toNat) := by
    calc _ = B ^ n.toNat * (B ^ K * B ^ K) * (bDe B (n - x) * 2 ^ (max 0 (-E)).toNat * 2 ^ K) := by ac_rfl
      _ = B ^ (n - x + K).toNat * B ^ (x + K).toNat * (bDe B (n - x) * 2 ^ (max 0 (-E)).toNat * 2 ^ K) := by rw [e3]
      _ = _ := by ac_rfl
  have l2 : M * (bNu B (n - x) * 2 ^ (max 0 E).toNat) * (B ^ K * B ^ K * 2 ^ K) = M * 2 ^ (E + K).toNat * B ^ K * (B ^ (n - x + K).toNat * bDe B (n - x) * 2 ^ (max 0 (-E)).toNat) := by
    calc _ = M * (bNu B (n - x) * B ^ K) * (2 ^ (max 0 E).toNat * 2 ^ K) * B ^ K := by ac_rfl
      _ = M * (B ^ (n - x + K).toNat * bDe B (n - x)) * (2 ^ (E + K).toNat * 2 ^ (max 0 (-E)).toNat) * B ^ K := by rw [e1, e2]
      _ = _ := by ac_rfl
  have p3 : 0 < B ^ K * B ^ K * 2 ^ K := Nat.mul_pos (Nat.mul_pos (Nat.pow_pos hB) (Nat.pow_pos hB)) (Nat.two_pow_pos _)
  constructor
  · intro h
    refine Nat.le_of_mul_le_mul_right ?_ p2
    rw [← l1, ← l2]
    exact Nat.mul_le_mul_right _ h
  · intro h
    refine Nat.le_of_mul_le_mul_right ?_ p3
    rw [l1, l2]
    exact Nat.mul_le_mul_right _ h
theorem gB_q {sg mode hv : Int} {Q R D : Nat} (hmo : 0 ≤ mode ∧ mode ≤ 4) (hsg : sg = 0 ∨ sg = 1) (hh : R ≠ 0 → hv = ncmp (R * 2) D) : gB (decide (R ≠ 0)) sg mode hv Q = qUp mode sg Q R D := by
  unfold gB qUp
  by_cases h : R = 0
  · rw [h]; rfl
  · rw [hh h, shf_1, decide_eq_true h, decide_eq_false h]
    unfold gO away
    by_cases h0 : mode = 0
    · rw [if_pos h0, if_pos h0]
      cases nbit Q 0 <;> rfl
    · rw [if_neg h0, if_neg h0, if_neg (by omega)]
      rcases hsg with rfl | rfl <;> simp
section
variable {d rx n : Nat} {w0 w : xW} {S S1 : Nat → Nat → Int} {V V1 : Nat → Nat} {r mode x F : Int} {lv : xLv} {Q : Option Value ⊕ Nat → xW → Prop}
theorem s_goesBy0 {sg mode : Int} : xRun (d + 1) 268 [Value.ref 128, Value.int 0, Value.int (Int32.ofInt sg), Value.int (Int32.ofInt mode)] w (.inl (some (.int 0))) w := by
  refine xRun.of ?_
  refine i_268_0 (x := 0) rfl ?_
  refine i_268_1 (fun c => absurd c (by decide)) (fun _ => ?_)
  refine i_268_4 ?_
  refine i_268_5 rfl ?_
  exact ⟨rfl, rfl⟩
set_option maxHeartbeats 4000000 in
theorem dg_T0 (hR : mR w0 S1 V1 w) (hI : mI S V) (hnS : nS S S1) (hnV : nV V V1) (h129 : V1 129 = spQ (V (160 + 2 * r.toNat)) (S 155 r.toNat - S 153 r.toNat) rx F (n : Int)) (h141 : V1 141 = rx ^ n) (hr : 0 ≤ r ∧ r ≤ 15) (hrx : 2 ≤ rx ∧ rx ≤ 36) (hmo : 0 ≤ mode ∧ mode ≤ 4) (hx : x = F) (hpb : xbl (rx ^ n) ≤ 100000) (hlt : spQ (V (160 + 2 * r.toNat)) (S 155 r.toNat - S 153 r.toNat) rx F (n : Int) < rx ^ n) (h30 : V (160 + 2 * r.toNat) * fGn rx ((n : Int) - F) (S 155 r.toNat - S 153 r.toNat) % fDn rx ((n : Int) - F) (S 155 r.toNat - S 153 r.toNat) = 0) (l0 : xld lv 0 = some (Value.ref 128)) (l1 : xld lv 1 = some (Value.int (Int32.ofInt r))) (l2 : xld lv 2 = some (Value.int (Int32.ofInt (rx : Int)))) (l3 : xld lv 3 = some (Value.int (Int32.ofInt (n : Int)))) (l4 : xld lv 4 = some (Value.int (Int32.ofInt mode))) (l7 : xld lv 7 = some (Value.int (Int32.ofInt x))) (l8 : xld lv 8 = some (Value.int 0)) : xEv (d + 7) 266 115 lv [] w (fun o w' => o = .inl (some (.int (Int32.ofInt (if rx ^ n ≤ spW (V (160 + 2 * r.toNat)) (S 155 r.toNat - S 153 r.toNat) rx F (S 156 r.toNat) (n : Int) mode then F + 1 else F)))) ∧ ∃ S' V', mR w0 S' V' w' ∧ nS S S' ∧ nV V V' ∧ V' 129 = (if rx ^ n ≤ spW (V (160 + 2 * r.toNat)) (S 155 r.toNat - S 153 r.toNat) rx F (S 156 r.toNat) (n : Int) mode then spW (V (160 + 2 * r.toNat)) (S 155 r.toNat - S 153 r.toNat) rx F (S 156 r.toNat) (n : Int) mode / rx else spW (V (160 + 2 * r.toNat)) (S 155 r.toNat - S 153 r.toNat) rx F (S 156 r.toNat) (n : Int) mode)) := by
  obtain ⟨hp_r, hk_r, hn_r, ht_r, hx_r, -⟩ := hI.1 r.toNat (by omega)
  have hxq := xbl_mono (Nat.le_of_lt hlt)
  refine i_266_115 (x := 128) l0 ?_
  refine i_266_116 (x := 0) l8 ?_
  refine i_266_118 (x := 128) l0 ?_
  refine i_266_119 (v := Value.ref 156) hR.c128 rfl ?_
  refine i_266_122 (x := Int32.ofInt r) l1 ?_
  refine i_266_123z (v := Value.int (Int32.ofInt (S 156 r.toNat))) (hR.row a156) (ix0 (T := r) (by omega) (by omega)) (ix1 (T := r) (by omega) (by omega) (by omega)) (ra (T := r) (by omega) (by omega) (hnS.1 _ _ (by decide))) ?_
  refine i_266_124 (x := Int32.ofInt mode) l4 ?_
  have hobj := hR.c128
  have hrun := s_goesBy0 (d := d + 5) (w := w) (sg := S 156 r.toNat) (mode := mode)
  refine i_266_126 hobj (Nat.le_of_ble_eq_true rfl) hrun ?_
  refine i_266_129 (fun _ => ?_) (fun c => absurd c (by decide))
  refine i_266_140 (x := 128) l0 ?_
  refine i_266_141 (v := Value.ref 129) hR.c128 rfl ?_
  refine i_266_144 (x := 128) l0 ?_
  refine i_266_145 (v := Value.ref 141) hR.c128 rfl ?_
  obtain ⟨fs, hobj⟩ := hR.obj (h := 129) (iNw (h := 129) (by decide) (by decide) (by decide))
  have hrun := r_cmp (d := d + 4) (v := spQ (V (160 + 2 * r.toNat)) (S 155 r.toNat - S 153 r.toNat) rx F (n : Int)) (v2 := rx ^ n) hR (iNw (h := 129) (by decide) (by decide) (by decide)) (iNw (h := 141) (by decide) (by decide) (by decide)) (h129) (h141)
  have hcb := ncmp_3 (spQ (V (160 + 2 * r.toNat)) (S 155 r.toNat - S 153 r.toNat) rx F (n : Int)) (rx ^ n)
  refine i_266_148 hobj (Nat.le_of_ble_eq_true rfl) hrun ?_
  refine i_266_151 (z_ge (a := ncmp (spQ (V (160 + 2 * r.toNat)) (S 155 r.toNat - S 153 r.toNat) rx F (n : Int)) (rx ^ n)) ⟨by omega, by omega⟩ fun c0 => ?_) (z_lt (a := ncmp (spQ (V (160 + 2 * r.toNat)) (S 155 r.toNat - S 153 r.toNat) rx F (n : Int)) (rx ^ n)) ⟨by omega, by omega⟩ fun c0 => ?_)
  · refine i_266_157 (x := 128) l0 ?_
    refine i_266_158 (v := Value.ref 129) hR.c128 rfl ?_
    refine i_266_161 (x := Int32.ofInt (rx : Int)) l2 ?_
    obtain ⟨fs, hobj⟩ := hR.obj (h := 129) (iNw (h := 129) (by decide) (by decide) (by decide))
    obtain ⟨w, hrun, hR⟩ := r_over (d := d + 4) (v := spQ (V (160 + 2 * r.toNat)) (S 155 r.toNat - S 153 r.toNat) rx F (n : Int)) (k := (rx : Int)) hR (iNw (h := 129) (by decide) (by decide) (by decide)) (h129) (by omega) (by omega)
    rw [Int.toNat_natCast] at hrun hR
    refine i_266_162 hobj (Nat.le_of_ble_eq_true rfl) hrun ?_
    refine i_266_165 rfl ?_
    refine i_266_166 (x := Int32.ofInt x) l7 ?_
    refine i_266_168 ?_
    refine i_266_169 (c := Int32.ofInt (x + 1)) (o_add x 1) ?_
    refine i_266_170 ?_
    have eW : spW (V (160 + 2 * r.toNat)) (S 155 r.toNat - S 153 r.toNat) rx F (S 156 r.toNat) (n : Int) mode = spQ (V (160 + 2 * r.toNat)) (S 155 r.toNat - S 153 r.toNat) rx F (n : Int) := by
      unfold spW
      rw [show qUp mode (S 156 r.toNat) (spQ (V (160 + 2 * r.toNat)) (S 155 r.toNat - S 153 r.toNat) rx F (n : Int)) (V (160 + 2 * r.toNat) * fGn rx ((n : Int) - F) (S 155 r.toNat - S 153 r.toNat) % fDn rx ((n : Int) - F) (S 155 r.toNat - S 153 r.toNat)) (fDn rx ((n : Int) - F) (S 155 r.toNat - S 153 r.toNat)) = false by unfold qUp; rw [h30]; rfl]
      rfl
    rw [eW, if_pos (by omega), if_pos (by omega)]
    rw [hx]
    exact ⟨rfl, _, _, hR, hnS, (nV.up hnV (by omega)), uv_s⟩
  · refine i_266_154 (x := Int32.ofInt x) l7 ?_
    refine i_266_156 ?_
    have eW : spW (V (160 + 2 * r.toNat)) (S 155 r.toNat - S 153 r.toNat) rx F (S 156 r.toNat) (n : Int) mode = spQ (V (160 + 2 * r.toNat)) (S 155 r.toNat - S 153 r.toNat) rx F (n : Int) := by
      unfold spW
      rw [show qUp mode (S 156 r.toNat) (spQ (V (160 + 2 * r.toNat)) (S 155 r.toNat - S 153 r.toNat) rx F (n : Int)) (V (160 + 2 * r.toNat) * fGn rx ((n : Int) - F) (S 155 r.toNat - S 153 r.toNat) % fDn rx ((n : Int) - F) (S 155 r.toNat - S 153 r.toNat)) (fDn rx ((n : Int) - F) (S 155 r.toNat - S 153 r.toNat)) = false by unfold qUp; rw [h30]; rfl]
      rfl
    rw [eW, if_neg (by omega), if_neg (by omega)]
    rw [hx]
    exact ⟨rfl, _, _, hR, hnS, hnV, h129⟩
set_option maxHeartbeats 4000000 in
theorem dg_T1 (hR : mR w0 S1 V1 w) (hI : mI S V) (hnS : nS S S1) (hnV : nV V V1) (h129 : V1 129 = spQ (V (160 + 2 * r.toNat)) (S 155 r.toNat - S 153 r.toNat) rx F (n : Int)) (h141 : V1 141 = rx ^ n) (hr : 0 ≤ r ∧ r ≤ 15) (hrx : 2 ≤ rx ∧ rx ≤ 36) (hmo : 0 ≤ mode ∧ mode ≤ 4) (hx : x = F) (hpb : xbl (rx ^ n) ≤ 100000) (hlt : spQ (V (160 + 2 * r.toNat)) (S 155 r.toNat - S 153 r.toNat) rx F (n : Int) < rx ^ n) (h30n : V (160 + 2 * r.toNat) * fGn rx ((n : Int) - F) (S 155 r.toNat - S 153 r.toNat) % fDn rx ((n : Int) - F) (S 155 r.toNat - S 153 r.toNat) ≠ 0) (h30 : S1 128 30 = ncmp ((V (160 + 2 * r.toNat) * fGn rx ((n : Int) - F) (S 155 r.toNat - S 153 r.toNat) % fDn rx ((n : Int) - F) (S 155 r.toNat - S 153 r.toNat)) * 2) (fDn rx ((n : Int) - F) (S 155 r.toNat - S 153 r.toNat))) (l0 : xld lv 0 = some (Value.ref 128)) (l1 : xld lv 1 = some (Value.int (Int32.ofInt r))) (l2 : xld lv 2 = some (Value.int (Int32.ofInt (rx : Int)))) (l3 : xld lv 3 = some (Value.int (Int32.ofInt (n : Int)))) (l4 : xld lv 4 = some (Value.int (Int32.ofInt mode))) (l7 : xld lv 7 = some (Value.int (Int32.ofInt x))) (l8 : xld lv 8 = some (Value.int 1)) : xEv (d + 7) 266 115 lv [] w (fun o w' => o = .inl (some (.int (Int32.ofInt (if rx ^ n ≤ spW (V (160 + 2 * r.toNat)) (S 155 r.toNat - S 153 r.toNat) rx F (S 156 r.toNat) (n : Int) mode then F + 1 else F)))) ∧ ∃ S' V', mR w0 S' V' w' ∧ nS S S' ∧ nV V V' ∧ V' 129 = (if rx ^ n ≤ spW (V (160 + 2 * r.toNat)) (S 155 r.toNat - S 153 r.toNat) rx F (S 156 r.toNat) (n : Int) mode then spW (V (160 + 2 * r.toNat)) (S 155 r.toNat - S 153 r.toNat) rx F (S 156 r.toNat) (n : Int) mode / rx else spW (V (160 + 2 * r.toNat)) (S 155 r.toNat - S 153 r.toNat) rx F (S 156 r.toNat) (n : Int) mode)) := by
  obtain ⟨hp_r, hk_r, hn_r, ht_r, hx_r, -⟩ := hI.1 r.toNat (by omega)
  have hq := gB_q (Q := spQ (V (160 + 2 * r.toNat)) (S 155 r.toNat - S 153 r.toNat) rx F (n : Int)) (R := V (160 + 2 * r.toNat) * fGn rx ((n : Int) - F) (S 155 r.toNat - S 153 r.toNat) % fDn rx ((n : Int) - F) (S 155 r.toNat - S 153 r.toNat)) (D := fDn rx ((n : Int) - F) (S 155 r.toNat - S 153 r.toNat)) (hv := S1 128 30) hmo hn_r (fun _ => h30)
  rw [decide_eq_true h30n] at hq
  have hxq := xbl_mono (Nat.le_of_lt hlt)
  refine i_266_115 (x := 128) l0 ?_
  refine i_266_116 (x := 1) l8 ?_
  refine i_266_118 (x := 128) l0 ?_
  refine i_266_119 (v := Value.ref 156) hR.c128 rfl ?_
  refine i_266_122 (x := Int32.ofInt r) l1 ?_
  refine i_266_123z (v := Value.int (Int32.ofInt (S 156 r.toNat))) (hR.row a156) (ix0 (T := r) (by omega) (by omega)) (ix1 (T := r) (by omega) (by omega) (by omega)) (ra (T := r) (by omega) (by omega) (hnS.1 _ _ (by decide))) ?_
  refine i_266_124 (x := Int32.ofInt mode) l4 ?_
  have hobj := hR.c128
  have hrun := s_goesBy (d := d + 3) (left := true) (sg := S 156 r.toNat) (mode := mode) hR hn_r hmo (by rw [h30]; have := ncmp_3 ((V (160 + 2 * r.toNat) * fGn rx ((n : Int) - F) (S 155 r.toNat - S 153 r.toNat) % fDn rx ((n : Int) - F) (S 155 r.toNat - S 153 r.toNat)) * 2) (fDn rx ((n : Int) - F) (S 155 r.toNat - S 153 r.toNat)); omega)
  rw [h129] at hrun
  refine i_266_126 hobj (Nat.le_of_ble_eq_true rfl) hrun ?_
  refine i_266_129 (zb_f fun c0 => ?_) (zb_t fun c0 => ?_)
  · refine i_266_140 (x := 128) l0 ?_
    refine i_266_141 (v := Value.ref 129) hR.c128 rfl ?_
    refine i_266_144 (x := 128) l0 ?_
    refine i_266_145 (v := Value.ref 141) hR.c128 rfl ?_
    obtain ⟨fs, hobj⟩ := hR.obj (h := 129) (iNw (h := 129) (by decide) (by decide) (by decide))
    have hrun := r_cmp (d := d + 4) (v := spQ (V (160 + 2 * r.toNat)) (S 155 r.toNat - S 153 r.toNat) rx F (n : Int)) (v2 := rx ^ n) hR (iNw (h := 129) (by decide) (by decide) (by decide)) (iNw (h := 141) (by decide) (by decide) (by decide)) (h129) (h141)
    have hcb := ncmp_3 (spQ (V (160 + 2 * r.toNat)) (S 155 r.toNat - S 153 r.toNat) rx F (n : Int)) (rx ^ n)
    refine i_266_148 hobj (Nat.le_of_ble_eq_true rfl) hrun ?_
    refine i_266_151 (z_ge (a := ncmp (spQ (V (160 + 2 * r.toNat)) (S 155 r.toNat - S 153 r.toNat) rx F (n : Int)) (rx ^ n)) ⟨by omega, by omega⟩ fun c1 => ?_) (z_lt (a := ncmp (spQ (V (160 + 2 * r.toNat)) (S 155 r.toNat - S 153 r.toNat) rx F (n : Int)) (rx ^ n)) ⟨by omega, by omega⟩ fun c1 => ?_)
    · refine i_266_157 (x := 128) l0 ?_
      refine i_266_158 (v := Value.ref 129) hR.c128 rfl ?_
      refine i_266_161 (x := Int32.ofInt (rx : Int)) l2 ?_
      obtain ⟨fs, hobj⟩ := hR.obj (h := 129) (iNw (h := 129) (by decide) (by decide) (by decide))
      obtain ⟨w, hrun, hR⟩ := r_over (d := d + 4) (v := spQ (V (160 + 2 * r.toNat)) (S 155 r.toNat - S 153 r.toNat) rx F (n : Int)) (k := (rx : Int)) hR (iNw (h := 129) (by decide) (by decide) (by decide)) (h129) (by omega) (by omega)
      rw [Int.toNat_natCast] at hrun hR
      refine i_266_162 hobj (Nat.le_of_ble_eq_true rfl) hrun ?_
      refine i_266_165 rfl ?_
      refine i_266_166 (x := Int32.ofInt x) l7 ?_
      refine i_266_168 ?_
      refine i_266_169 (c := Int32.ofInt (x + 1)) (o_add x 1) ?_
      refine i_266_170 ?_
      have eW : spW (V (160 + 2 * r.toNat)) (S 155 r.toNat - S 153 r.toNat) rx F (S 156 r.toNat) (n : Int) mode = spQ (V (160 + 2 * r.toNat)) (S 155 r.toNat - S 153 r.toNat) rx F (n : Int) := by
        unfold spW
        rw [show qUp mode (S 156 r.toNat) (spQ (V (160 + 2 * r.toNat)) (S 155 r.toNat - S 153 r.toNat) rx F (n : Int)) (V (160 + 2 * r.toNat) * fGn rx ((n : Int) - F) (S 155 r.toNat - S 153 r.toNat) % fDn rx ((n : Int) - F) (S 155 r.toNat - S 153 r.toNat)) (fDn rx ((n : Int) - F) (S 155 r.toNat - S 153 r.toNat)) = false by rw [← hq]; assumption]
        rfl
      rw [eW, if_pos (by omega), if_pos (by omega)]
      rw [hx]
      exact ⟨rfl, _, _, hR, hnS, (nV.up hnV (by omega)), uv_s⟩
    · refine i_266_154 (x := Int32.ofInt x) l7 ?_
      refine i_266_156 ?_
      have eW : spW (V (160 + 2 * r.toNat)) (S 155 r.toNat - S 153 r.toNat) rx F (S 156 r.toNat) (n : Int) mode = spQ (V (160 + 2 * r.toNat)) (S 155 r.toNat - S 153 r.toNat) rx F (n : Int) := by
        unfold spW
        rw [show qUp mode (S 156 r.toNat) (spQ (V (160 + 2 * r.toNat)) (S 155 r.toNat - S 153 r.toNat) rx F (n : Int)) (V (160 + 2 * r.toNat) * fGn rx ((n : Int) - F) (S 155 r.toNat - S 153 r.toNat) % fDn rx ((n : Int) - F) (S 155 r.toNat - S 153 r.toNat)) (fDn rx ((n : Int) - F) (S 155 r.toNat - S 153 r.toNat)) = false by rw [← hq]; assumption]
        rfl
      rw [eW, if_neg (by omega), if_neg (by omega)]
      rw [hx]
      exact ⟨rfl, _, _, hR, hnS, hnV, h129⟩
  · refine i_266_132 (x := 128) l0 ?_
    refine i_266_133 (v := Value.ref 129) hR.c128 rfl ?_
    refine i_266_136 ?_
    obtain ⟨fs, hobj⟩ := hR.obj (h := 129) (iNw (h := 129) (by decide) (by decide) (by decide))
    obtain ⟨w, hrun, hR⟩ := r_addi (d := d + 4) (v := spQ (V (160 + 2 * r.toNat)) (S 155 r.toNat - S 153 r.toNat) rx F (n : Int)) (c := 4700) (k := 1) hR (iNw (h := 129) (by decide) (by decide) (by decide)) (h129) rfl (by omega) (by omega) (by omega)
    rw [show (1 : Int).toNat = 1 from rfl] at hR
    refine i_266_137 hobj (Nat.le_of_ble_eq_true rfl) hrun ?_
    refine i_266_140 (x := 128) l0 ?_
    refine i_266_141 (v := Value.ref 129) hR.c128 rfl ?_
    refine i_266_144 (x := 128) l0 ?_
    refine i_266_145 (v := Value.ref 141) hR.c128 rfl ?_
    obtain ⟨fs, hobj⟩ := hR.obj (h := 129) (iNw (h := 129) (by decide) (by decide) (by decide))
    have hrun := r_cmp (d := d + 4) (v := (spQ (V (160 + 2 * r.toNat)) (S 155 r.toNat - S 153 r.toNat) rx F (n : Int)) + 1) (v2 := rx ^ n) hR (iNw (h := 129) (by decide) (by decide) (by decide)) (iNw (h := 141) (by decide) (by decide) (by decide)) (uv_s) ((uv_n (by omega)).trans (h141))
    have hcb := ncmp_3 ((spQ (V (160 + 2 * r.toNat)) (S 155 r.toNat - S 153 r.toNat) rx F (n : Int)) + 1) (rx ^ n)
    refine i_266_148 hobj (Nat.le_of_ble_eq_true rfl) hrun ?_
    refine i_266_151 (z_ge (a := ncmp ((spQ (V (160 + 2 * r.toNat)) (S 155 r.toNat - S 153 r.toNat) rx F (n : Int)) + 1) (rx ^ n)) ⟨by omega, by omega⟩ fun c2 => ?_) (z_lt (a := ncmp ((spQ (V (160 + 2 * r.toNat)) (S 155 r.toNat - S 153 r.toNat) rx F (n : Int)) + 1) (rx ^ n)) ⟨by omega, by omega⟩ fun c2 => ?_)
    · refine i_266_157 (x := 128) l0 ?_
      refine i_266_158 (v := Value.ref 129) hR.c128 rfl ?_
      refine i_266_161 (x := Int32.ofInt (rx : Int)) l2 ?_
      obtain ⟨fs, hobj⟩ := hR.obj (h := 129) (iNw (h := 129) (by decide) (by decide) (by decide))
      obtain ⟨w, hrun, hR⟩ := r_over (d := d + 4) (v := (spQ (V (160 + 2 * r.toNat)) (S 155 r.toNat - S 153 r.toNat) rx F (n : Int)) + 1) (k := (rx : Int)) hR (iNw (h := 129) (by decide) (by decide) (by decide)) (uv_s) (by omega) (by omega)
      rw [Int.toNat_natCast] at hrun hR
      rw [uvv] at hR
      refine i_266_162 hobj (Nat.le_of_ble_eq_true rfl) hrun ?_
      refine i_266_165 rfl ?_
      refine i_266_166 (x := Int32.ofInt x) l7 ?_
      refine i_266_168 ?_
      refine i_266_169 (c := Int32.ofInt (x + 1)) (o_add x 1) ?_
      refine i_266_170 ?_
      have eW : spW (V (160 + 2 * r.toNat)) (S 155 r.toNat - S 153 r.toNat) rx F (S 156 r.toNat) (n : Int) mode = spQ (V (160 + 2 * r.toNat)) (S 155 r.toNat - S 153 r.toNat) rx F (n : Int) + 1 := by
        unfold spW
        rw [show qUp mode (S 156 r.toNat) (spQ (V (160 + 2 * r.toNat)) (S 155 r.toNat - S 153 r.toNat) rx F (n : Int)) (V (160 + 2 * r.toNat) * fGn rx ((n : Int) - F) (S 155 r.toNat - S 153 r.toNat) % fDn rx ((n : Int) - F) (S 155 r.toNat - S 153 r.toNat)) (fDn rx ((n : Int) - F) (S 155 r.toNat - S 153 r.toNat)) = true by rw [← hq]; assumption]
        rfl
      rw [eW, if_pos (by omega), if_pos (by omega)]
      rw [hx]
      exact ⟨rfl, _, _, hR, hnS, (nV.up hnV (by omega)), uv_s⟩
    · refine i_266_154 (x := Int32.ofInt x) l7 ?_
      refine i_266_156 ?_
      have eW : spW (V (160 + 2 * r.toNat)) (S 155 r.toNat - S 153 r.toNat) rx F (S 156 r.toNat) (n : Int) mode = spQ (V (160 + 2 * r.toNat)) (S 155 r.toNat - S 153 r.toNat) rx F (n : Int) + 1 := by
        unfold spW
        rw [show qUp mode (S 156 r.toNat) (spQ (V (160 + 2 * r.toNat)) (S 155 r.toNat - S 153 r.toNat) rx F (n : Int)) (V (160 + 2 * r.toNat) * fGn rx ((n : Int) - F) (S 155 r.toNat - S 153 r.toNat) % fDn rx ((n : Int) - F) (S 155 r.toNat - S 153 r.toNat)) (fDn rx ((n : Int) - F) (S 155 r.toNat - S 153 r.toNat)) = true by rw [← hq]; assumption]
        rfl
      rw [eW, if_neg (by omega), if_neg (by omega)]
      rw [hx]
      exact ⟨rfl, _, _, hR, hnS, (nV.up hnV (by omega)), uv_s⟩
set_option maxHeartbeats 4000000 in
theorem dg_S (hI : mI S V) (hr : 0 ≤ r ∧ r ≤ 15) (hk : S 154 r.toNat = 3) (hrx : 2 ≤ rx ∧ rx ≤ 36) (hmo : 0 ≤ mode ∧ mode ≤ 4) (hn : 1 ≤ n ∧ n ≤ 4200) (hF : fst_is (V (160 + 2 * r.toNat)) (S 155 r.toNat - S 153 r.toNat) rx F) (hpb : xbl (rx ^ n) ≤ 100000) (hR : mR w0 S1 V1 w) (hnS : nS S S1) (hnV : nV V V1) (hx : x ≤ F) (hxb : -30000 ≤ x ∧ x ≤ 30000) (hbx : xbl (rx ^ ((n : Int) - x).natAbs) ≤ 100000) (hN : x < F → ∀ {lv : xLv} {w : xW} {S1 : Nat → Nat → Int} {V1 : Nat → Nat}, mR w0 S1 V1 w → nS S S1 → nV V V1 → xld lv 0 = some (Value.ref 128) → xld lv 1 = some (Value.int (Int32.ofInt r)) → xld lv 2 = some (Value.int (Int32.ofInt (rx : Int))) → xld lv 3 = some (Value.int (Int32.ofInt (n : Int))) → xld lv 4 = some (Value.int (Int32.ofInt mode)) → xld lv 7 = some (Value.int (Int32.ofInt (x + 1))) → xEv (d + 7) 266 60 lv [] w (fun o w' => o = .inl (some (.int (Int32.ofInt (if rx ^ n ≤ spW (V (160 + 2 * r.toNat)) (S 155 r.toNat - S 153 r.toNat) rx F (S 156 r.toNat) (n : Int) mode then F + 1 else F)))) ∧ ∃ S' V', mR w0 S' V' w' ∧ nS S S' ∧ nV V V' ∧ V' 129 = (if rx ^ n ≤ spW (V (160 + 2 * r.toNat)) (S 155 r.toNat - S 153 r.toNat) rx F (S 156 r.toNat) (n : Int) mode then spW (V (160 + 2 * r.toNat)) (S 155 r.toNat - S 153 r.toNat) rx F (S 156 r.toNat) (n : Int) mode / rx else spW (V (160 + 2 * r.toNat)) (S 155 r.toNat - S 153 r.toNat) rx F (S 156 r.toNat) (n : Int) mode))) (l0 : xld lv 0 = some (Value.ref 128)) (l1 : xld lv 1 = some (Value.int (Int32.ofInt r))) (l2 : xld lv 2 = some (Value.int (Int32.ofInt (rx : Int)))) (l3 : xld lv 3 = some (Value.int (Int32.ofInt (n : Int)))) (l4 : xld lv 4 = some (Value.int (Int32.ofInt mode))) (l7 : xld lv 7 = some (Value.int (Int32.ofInt x))) : xEv (d + 7) 266 60 lv [] w (fun o w' => o = .inl (some (.int (Int32.ofInt (if rx ^ n ≤ spW (V (160 + 2 * r.toNat)) (S 155 r.toNat - S 153 r.toNat) rx F (S 156 r.toNat) (n : Int) mode then F + 1 else F)))) ∧ ∃ S' V', mR w0 S' V' w' ∧ nS S S' ∧ nV V V' ∧ V' 129 = (if rx ^ n ≤ spW (V (160 + 2 * r.toNat)) (S 155 r.toNat - S 153 r.toNat) rx F (S 156 r.toNat) (n : Int) mode then spW (V (160 + 2 * r.toNat)) (S 155 r.toNat - S 153 r.toNat) rx F (S 156 r.toNat) (n : Int) mode / rx else spW (V (160 + 2 * r.toNat)) (S 155 r.toNat - S 153 r.toNat) rx F (S 156 r.toNat) (n : Int) mode)) := by
  refine i_266_60 (x := 128) l0 ?_
  refine i_266_61 (x := Int32.ofInt r) l1 ?_
  refine i_266_62 (x := Int32.ofInt (rx : Int)) l2 ?_
  refine i_266_63 (x := Int32.ofInt (n : Int)) l3 ?_
  refine i_266_64 (x := Int32.ofInt x) l7 ?_
  refine i_266_66 (c := Int32.ofInt ((n : Int) - x)) (o_sub (n : Int) x) ?_
  have hobj := hR.c128
  obtain ⟨w, hrun, S2, V2, hR, hs2, hv2, h30, h129⟩ := s_parts (d := d + 1) (rx := rx) (r := r) (s := (n : Int) - x) hR (nS.mI hnS hnV hI) hr (by rw [hnS.1 154 _ (by decide)]; exact hk) hrx (by omega) hbx
  rw [hnS.1 155 _ (by decide), hnS.1 153 _ (by decide), hnV _ (by omega)] at hrun h30 h129
  have hnS := hnS.trans hs2
  have hnV := hnV.trans hv2
  refine i_266_67 hobj (Nat.le_of_ble_eq_true rfl) hrun ?_
  refine i_266_70 rfl ?_
  refine lgen1 (i := 8) (v := Value.int (Int32.ofInt (bb (decide (V (160 + 2 * r.toNat) * fGn rx ((n : Int) - x) (S 155 r.toNat - S 153 r.toNat) % fDn rx ((n : Int) - x) (S 155 r.toNat - S 153 r.toNat) ≠ 0))))) (fun lv lg ls => ?_)
  replace l0 := lg 0 _ rfl rfl l0
  replace l1 := lg 1 _ rfl rfl l1
  replace l2 := lg 2 _ rfl rfl l2
  replace l3 := lg 3 _ rfl rfl l3
  replace l4 := lg 4 _ rfl rfl l4
  replace l7 := lg 7 _ rfl rfl l7
  have l8 := ls
  refine i_266_72 (x := 128) l0 ?_
  refine i_266_73 (v := Value.ref 141) hR.c128 rfl ?_
  refine i_266_76 ?_
  obtain ⟨fs, hobj⟩ := hR.obj (h := 141) (iNw (h := 141) (by decide) (by decide) (by decide))
  obtain ⟨fs, hobj⟩ := hR.obj (h := 141) (iNw (h := 141) (by decide) (by decide) (by decide))
  obtain ⟨w, hrun, hR⟩ := r_setl (d := d + 4) (x := 0) (v := 0) hR (iNw (h := 141) (by decide) (by decide) (by decide)) rfl
  refine i_266_77 hobj (Nat.le_of_ble_eq_true rfl) hrun ?_
  refine i_266_80 (x := 128) l0 ?_
  refine i_266_81 (v := Value.ref 133) hR.c128 rfl ?_
  refine i_266_84 (x := Int32.ofInt (rx : Int)) l2 ?_
  refine i_266_85 (c := Int64.ofInt (rx : Int)) (q_i2l (a := (rx : Int)) ⟨by omega, by omega⟩) ?_
  obtain ⟨fs, hobj⟩ := hR.obj (h := 133) (iNw (h := 133) (by decide) (by decide) (by decide))
  obtain ⟨w, hrun, hR⟩ := r_setl (d := d + 4) (x := Int64.ofInt (rx : Int)) (v := rx) hR (iNw (h := 133) (by decide) (by decide) (by decide)) ((xul_o (by omega) (by omega)).trans rfl)
  refine i_266_86 hobj (Nat.le_of_ble_eq_true rfl) hrun ?_
  refine i_266_89 (x := 128) l0 ?_
  refine i_266_90 (x := 128) l0 ?_
  refine i_266_91 (v := Value.ref 133) hR.c128 rfl ?_
  refine i_266_94 (x := Int32.ofInt (n : Int)) l3 ?_
  have hobj := hR.c128
  obtain ⟨w, u, hrun, hR⟩ := s_raise (d := d + 3) (h := 133) (x := rx) (n := (n : Int)) hR (iNw (h := 133) (by decide) (by decide) (by decide)) (by decide) (by decide) (uv_s) (by omega) (by omega) (by omega) (by rw [Int.toNat_natCast]; omega)
  rw [Int.toNat_natCast] at hR
  refine i_266_95 hobj (Nat.le_of_ble_eq_true rfl) hrun ?_
  refine i_266_98 (x := 128) l0 ?_
  refine i_266_99 (v := Value.ref 129) hR.c128 rfl ?_
  refine i_266_102 (x := 128) l0 ?_
  refine i_266_103 (v := Value.ref 141) hR.c128 rfl ?_
  obtain ⟨fs, hobj⟩ := hR.obj (h := 129) (iNw (h := 129) (by decide) (by decide) (by decide))
  have hrun := r_cmp (d := d + 4) (v := V (160 + 2 * r.toNat) * fGn rx ((n : Int) - x) (S 155 r.toNat - S 153 r.toNat) / fDn rx ((n : Int) - x) (S 155 r.toNat - S 153 r.toNat)) (v2 := rx ^ n) hR (iNw (h := 129) (by decide) (by decide) (by decide)) (iNw (h := 141) (by decide) (by decide) (by decide)) ((uv_n (by omega)).trans ((uv_n (by omega)).trans ((uv_n (by omega)).trans ((uv_n (by omega)).trans (h129))))) (uv_s)
  have hcb := ncmp_3 (V (160 + 2 * r.toNat) * fGn rx ((n : Int) - x) (S 155 r.toNat - S 153 r.toNat) / fDn rx ((n : Int) - x) (S 155 r.toNat - S 153 r.toNat)) (rx ^ n)
  refine i_266_106 hobj (Nat.le_of_ble_eq_true rfl) hrun ?_
  refine i_266_109 (z_lt (a := ncmp (V (160 + 2 * r.toNat) * fGn rx ((n : Int) - x) (S 155 r.toNat - S 153 r.toNat) / fDn rx ((n : Int) - x) (S 155 r.toNat - S 153 r.toNat)) (rx ^ n)) ⟨by omega, by omega⟩ fun c0 => ?_) (z_ge (a := ncmp (V (160 + 2 * r.toNat) * fGn rx ((n : Int) - x) (S 155 r.toNat - S 153 r.toNat) / fDn rx ((n : Int) - x) (S 155 r.toNat - S 153 r.toNat)) (rx ^ n)) ⟨by omega, by omega⟩ fun c0 => ?_)
  · have hng : ¬ vGe (V (160 + 2 * r.toNat)) (S 155 r.toNat - S 153 r.toNat) rx x := fun c => by
      have := (vB_iff (n := (n : Int)) (by omega) (by omega)).mpr c
      rw [Int.toNat_natCast] at this
      have := (Nat.le_div_iff_mul_le (fDn_pos (by omega))).mpr this
      omega
    have hxF : x = F := by
      refine Int.le_antisymm hx (Int.le_of_not_gt fun c => ?_)
      exact hng (vGe_mono (by omega) (by omega) hF.1)
    have hsp : V (160 + 2 * r.toNat) * fGn rx ((n : Int) - x) (S 155 r.toNat - S 153 r.toNat) / fDn rx ((n : Int) - x) (S 155 r.toNat - S 153 r.toNat) = spQ (V (160 + 2 * r.toNat)) (S 155 r.toNat - S 153 r.toNat) rx F (n : Int) := by rw [hxF]; rfl
    by_cases hz : V (160 + 2 * r.toNat) * fGn rx ((n : Int) - x) (S 155 r.toNat - S 153 r.toNat) % fDn rx ((n : Int) - x) (S 155 r.toNat - S 153 r.toNat) = 0
    · rw [show decide (V (160 + 2 * r.toNat) * fGn rx ((n : Int) - x) (S 155 r.toNat - S 153 r.toNat) % fDn rx ((n : Int) - x) (S 155 r.toNat - S 153 r.toNat) ≠ 0) = false by simp [hz]] at l8
      exact dg_T0 (d := d) (x := x) (F := F) hR hI hnS (nV.up (nV.up (nV.up (nV.up hnV (by omega)) (by omega)) (by omega)) (by omega)) ((uv_n (by omega)).trans ((uv_n (by omega)).trans ((uv_n (by omega)).trans ((uv_n (by omega)).trans ((h129.trans hsp)))))) (uv_s) hr hrx hmo hxF hpb (by rw [← hxF]; exact (show V (160 + 2 * r.toNat) * fGn rx ((n : Int) - x) (S 155 r.toNat - S 153 r.toNat) / fDn rx ((n : Int) - x) (S 155 r.toNat - S 153 r.toNat) < rx ^ n by omega)) (by rw [← hxF]; exact hz) l0 l1 l2 l3 l4 l7 l8
    · rw [show decide (V (160 + 2 * r.toNat) * fGn rx ((n : Int) - x) (S 155 r.toNat - S 153 r.toNat) % fDn rx ((n : Int) - x) (S 155 r.toNat - S 153 r.toNat) ≠ 0) = true by simp [hz]] at l8
      exact dg_T1 (d := d) (x := x) (F := F) hR hI hnS (nV.up (nV.up (nV.up (nV.up hnV (by omega)) (by omega)) (by omega)) (by omega)) ((uv_n (by omega)).trans ((uv_n (by omega)).trans ((uv_n (by omega)).trans ((uv_n (by omega)).trans ((h129.trans hsp)))))) (uv_s) hr hrx hmo hxF hpb (by rw [← hxF]; exact (show V (160 + 2 * r.toNat) * fGn rx ((n : Int) - x) (S 155 r.toNat - S 153 r.toNat) / fDn rx ((n : Int) - x) (S 155 r.toNat - S 153 r.toNat) < rx ^ n by omega)) (by rw [← hxF]; exact hz) (by rw [← hxF]; exact hid.o h30 hz) l0 l1 l2 l3 l4 l7 l8
  · refine i_266_112 ?_
    refine i_266_171 (x := (Int32.ofInt x)) (c := (Int32.ofInt (x + 1))) l7 (o_add x 1) rfl ?_
    refine lgen1 (i := 7) (v := Value.int (Int32.ofInt (x + 1))) (fun lv lg ls => ?_)
    replace l8 := lg 8 _ rfl rfl l8
    replace l0 := lg 0 _ rfl rfl l0
    replace l1 := lg 1 _ rfl rfl l1
    replace l2 := lg 2 _ rfl rfl l2
    replace l3 := lg 3 _ rfl rfl l3
    replace l4 := lg 4 _ rfl rfl l4
    have l7 := ls
    refine i_266_174 ?_
    have hge : vGe (V (160 + 2 * r.toNat)) (S 155 r.toNat - S 153 r.toNat) rx x := (vB_iff (n := (n : Int)) (by omega) (by omega)).mp (by rw [Int.toNat_natCast]; exact (Nat.le_div_iff_mul_le (fDn_pos (by omega))).mp (by omega))
    have hxF : x < F := by
      refine Int.lt_of_not_ge fun c => ?_
      exact hF.2 (vGe_mono (by omega) c hge)
    exact hN hxF hR hnS (nV.up (nV.up (nV.up (nV.up hnV (by omega)) (by omega)) (by omega)) (by omega)) l0 l1 l2 l3 l4 l7
theorem dg_L (hI : mI S V) (hr : 0 ≤ r ∧ r ≤ 15) (hk : S 154 r.toNat = 3) (hrx : 2 ≤ rx ∧ rx ≤ 36) (hmo : 0 ≤ mode ∧ mode ≤ 4) (hn : 1 ≤ n ∧ n ≤ 4200) (hF : fst_is (V (160 + 2 * r.toNat)) (S 155 r.toNat - S 153 r.toNat) rx F) (hpb : xbl (rx ^ n) ≤ 100000) (hFb : F ≤ 30000) (x0 : Int) (h0 : -30000 ≤ x0) (hbits : hid (∀ y : Int, x0 ≤ y → y ≤ F → xbl (rx ^ ((n : Int) - y).natAbs) ≤ 100000)) : ∀ (f : Nat) {x : Int} {lv : xLv} {w : xW} {S1 : Nat → Nat → Int} {V1 : Nat → Nat}, x + f = F → x0 ≤ x → mR w0 S1 V1 w → nS S S1 → nV V V1 → xld lv 0 = some (Value.ref 128) → xld lv 1 = some (Value.int (Int32.ofInt r)) → xld lv 2 = some (Value.int (Int32.ofInt (rx : Int))) → xld lv 3 = some (Value.int (Int32.ofInt (n : Int))) → xld lv 4 = some (Value.int (Int32.ofInt mode)) → xld lv 7 = some (Value.int (Int32.ofInt x)) → xEv (d + 7) 266 60 lv [] w (fun o w' => o = .inl (some (.int (Int32.ofInt (if rx ^ n ≤ spW (V (160 + 2 * r.toNat)) (S 155 r.toNat - S 153 r.toNat) rx F (S 156 r.toNat) (n : Int) mode then F + 1 else F)))) ∧ ∃ S' V', mR w0 S' V' w' ∧ nS S S' ∧ nV V V' ∧ V' 129 = (if rx ^ n ≤ spW (V (160 + 2 * r.toNat)) (S 155 r.toNat - S 153 r.toNat) rx F (S 156 r.toNat) (n : Int) mode then spW (V (160 + 2 * r.toNat)) (S 155 r.toNat - S 153 r.toNat) rx F (S 156 r.toNat) (n : Int) mode / rx else spW (V (160 + 2 * r.toNat)) (S 155 r.toNat - S 153 r.toNat) rx F (S 156 r.toNat) (n : Int) mode)) := by
  intro f
  induction f with
  | zero =>
    intro x lv w S1 V1 hx hx0 hR hnS hnV l0 l1 l2 l3 l4 l7
    exact dg_S hI hr hk hrx hmo hn hF hpb hR hnS hnV (by omega) (by omega) (hid.o hbits x hx0 (by omega)) (fun c => absurd c (by omega)) l0 l1 l2 l3 l4 l7
  | succ f ih =>
    intro x lv w S1 V1 hx hx0 hR hnS hnV l0 l1 l2 l3 l4 l7
    refine dg_S hI hr hk hrx hmo hn hF hpb hR hnS hnV (by omega) (by omega) (hid.o hbits x hx0 (by omega)) (fun c {lv w S1 V1} hR hnS hnV l0 l1 l2 l3 l4 l7 => ?_) l0 l1 l2 l3 l4 l7
    exact ih (x := x + 1) (by omega) (by omega) hR hnS hnV l0 l1 l2 l3 l4 l7
theorem F_b {M B p : Nat} {E F : Int} (hB : 2 ≤ B) (hM : xbl M = p) (h : vGe M E B (F - 1)) (h1 : 1 ≤ F) : (F - 1) * ((xbl B : Int) - 1) < p + E := by
  obtain ⟨K, hK⟩ : ∃ K : Nat, F - 1 = (K : Int) := ⟨(F - 1).toNat, by omega⟩
  rw [hK] at h ⊢
  unfold vGe bNu bDe at h
  rw [if_pos (by omega), if_pos (by omega), Nat.mul_one, Int.natAbs_natCast] at h
  have hM2 : M < 2 ^ p := by rw [← hM]; exact xbl_lt M
  have hB2 : 2 ^ (xbl B - 1) ≤ B := (xbl_of (show B ≠ 0 by omega)).1
  have hx1 : 1 ≤ xbl B := by
    have := xbl_lt B
    rcases Nat.eq_zero_or_pos (xbl B) with c | c
    · rw [c] at this; omega
    · exact c
  have k1 : 2 ^ ((xbl B - 1) * K + (max 0 (-E)).toNat) < 2 ^ (p + (max 0 E).toNat) := by
    calc 2 ^ ((xbl B - 1) * K + (max 0 (-E)).toNat) = (2 ^ (xbl B - 1)) ^ K * 2 ^ (max 0 (-E)).toNat := by rw [Nat.pow_add, Nat.pow_mul]
      _ ≤ B ^ K * 2 ^ (max 0 (-E)).toNat := Nat.mul_le_mul_right _ (Nat.pow_le_pow_left hB2 _)
      _ ≤ M * 2 ^ (max 0 E).toNat := h
      _ < 2 ^ p * 2 ^ (max 0 E).toNat := Nat.mul_lt_mul_of_pos_right hM2 (Nat.two_pow_pos _)
      _ = 2 ^ (p + (max 0 E).toNat) := (Nat.pow_add _ _ _).symm
  have k2 := (Nat.pow_lt_pow_iff_right (show 1 < 2 by decide)).mp k1
  have k3 : (((xbl B - 1) * K : Nat) : Int) = (K : Int) * ((xbl B : Int) - 1) := by rw [Int.natCast_mul, Int.mul_comm, Int.natCast_sub hx1]; rfl
  rw [← k3]
  omega
theorem dg_bits (hrx : 2 ≤ rx ∧ rx ≤ 36) (hn : n ≤ 4200) {g y : Int} (hg : -42100 ≤ g * xbl rx) (hy : g - 1 ≤ y) (hF1 : y ≤ F) (hF : 1 ≤ F → (F - 1) * ((xbl rx : Int) - 1) < 16385) : xbl (rx ^ ((n : Int) - y).natAbs) ≤ 100000 := by
  have hx := xbl_rx hrx
  have g1 := xbl_npow rx ((n : Int) - y).natAbs
  have hs : (((n : Int) - y).natAbs * xbl rx : Nat) ≤ 99000 := by
    generalize xbl rx = X at hg hF hx ⊢
    have hnX : n * X ≤ 4200 * 6 := Nat.mul_le_mul hn hx.2
    have a1 : (g - 1) * (X : Int) ≤ y * (X : Int) := Int.mul_le_mul_of_nonneg_right hy (by omega)
    rw [Int.sub_mul, Int.one_mul] at a1
    have a2 : y * (X : Int) ≤ 32800 := by
      by_cases c : 1 ≤ F
      · have b1 := hF c
        have b2 : (F - 1) * 1 ≤ (F - 1) * ((X : Int) - 1) := Int.mul_le_mul_of_nonneg_left (by omega) (by omega)
        have b3 : y * (X : Int) ≤ F * (X : Int) := Int.mul_le_mul_of_nonneg_right hF1 (by omega)
        have b4 : F * (X : Int) = (F - 1) * ((X : Int) - 1) + (F - 1) + X := by
          rw [Int.sub_mul, Int.mul_sub, Int.mul_one, Int.one_mul]; omega
        rw [Int.mul_one] at b2
        generalize (F - 1) * ((X : Int) - 1) = z at b1 b2 b4
        generalize y * (X : Int) = t at b3 ⊢
        generalize F * (X : Int) = t2 at b3 b4
        omega
      · have b3 : y * (X : Int) ≤ 0 * (X : Int) := Int.mul_le_mul_of_nonneg_right (by omega) (by omega)
        rw [Int.zero_mul] at b3
        omega
    have a3 : ((((n : Int) - y).natAbs * X : Nat) : Int) = (((n : Int) - y).natAbs : Int) * X := Int.natCast_mul _ _
    have a4 : ((n * X : Nat) : Int) = (n : Int) * X := Int.natCast_mul _ _
    rcases Int.le_total y n with c | c
    · rw [show (((n : Int) - y).natAbs : Int) = (n : Int) - y by omega, Int.sub_mul] at a3
      generalize (n : Int) * (X : Int) = t1 at a3 a4
      generalize y * (X : Int) = t2 at a1 a2 a3
      generalize g * (X : Int) = t3 at a1 hg
      omega
    · rw [show (((n : Int) - y).natAbs : Int) = y - (n : Int) by omega, Int.sub_mul] at a3
      have a5 : 0 ≤ (n : Int) * (X : Int) := Int.mul_nonneg (by omega) (by omega)
      generalize (n : Int) * (X : Int) = t1 at a3 a4 a5
      generalize y * (X : Int) = t2 at a1 a2 a3
      omega
  omega
set_option maxHeartbeats 4000000 in
theorem s_digits (hR : mR w0 S V w) (hK6 : w0[6]? = some (.inl (0, 37, fun j => .int (xlogm.getD j 0)))) (hI : mI S V) (hr : 0 ≤ r ∧ r ≤ 15) (hk : S 154 r.toNat = 3) (hrx : 2 ≤ rx ∧ rx ≤ 36) (hmo : 0 ≤ mode ∧ mode ≤ 4) (hn : 1 ≤ n ∧ n ≤ 4200) (hF : fst_is (V (160 + 2 * r.toNat)) (S 155 r.toNat - S 153 r.toNat) rx F) (hpb : xbl (rx ^ n) ≤ 100000) : ∃ w', xRun (d + 7) 266 [Value.ref 128, Value.int (Int32.ofInt r), Value.int (Int32.ofInt (rx : Int)), Value.int (Int32.ofInt (n : Int)), Value.int (Int32.ofInt mode)] w (.inl (some (.int (Int32.ofInt (if rx ^ n ≤ spW (V (160 + 2 * r.toNat)) (S 155 r.toNat - S 153 r.toNat) rx F (S 156 r.toNat) (n : Int) mode then F + 1 else F))))) w' ∧ ∃ S' V', mR w0 S' V' w' ∧ nS S S' ∧ nV V V' ∧ V' 129 = (if rx ^ n ≤ spW (V (160 + 2 * r.toNat)) (S 155 r.toNat - S 153 r.toNat) rx F (S 156 r.toNat) (n : Int) mode then spW (V (160 + 2 * r.toNat)) (S 155 r.toNat - S 153 r.toNat) rx F (S 156 r.toNat) (n : Int) mode / rx else spW (V (160 + 2 * r.toNat)) (S 155 r.toNat - S 153 r.toNat) rx F (S 156 r.toNat) (n : Int) mode) := by
  obtain ⟨hp_r, hk_r, hn_r, ht_r, hx_r, hz_r⟩ := hI.1 r.toNat (by omega)
  obtain ⟨hxM, ht3⟩ := hz_r hk
  have hMp : xbl (V (160 + 2 * r.toNat)) = (S 153 r.toNat).toNat := by omega
  obtain ⟨⟨hl1, hl2⟩, -, -⟩ := lgm_ok hrx
  have hxr := xbl_rx hrx
  have hgb := gss_b (e := S 155 r.toNat - 1) hrx (by omega)
  have hge : vGe (V (160 + 2 * r.toNat)) (S 155 r.toNat - S 153 r.toNat) rx (gss rx (S 155 r.toNat - 1)) := vGe_up (e := S 155 r.toNat - 1) (by omega) hMp (by omega) (by omega) (gss_le hrx)
  have hgF : gss rx (S 155 r.toNat - 1) < F := Int.lt_of_not_ge fun c => hF.2 (vGe_mono (by omega) c hge)
  have hF16 : hid (1 ≤ F → (F - 1) * ((xbl rx : Int) - 1) < 16385) := fun c => by
    have := F_b (by omega) hMp hF.1 c
    omega
  have hF17 : F ≤ 16386 := by
    by_cases c : 1 ≤ F
    · have b1 := hid.o hF16 c
      have b2 : (F - 1) * 1 ≤ (F - 1) * ((xbl rx : Int) - 1) := Int.mul_le_mul_of_nonneg_left (by omega) (by omega)
      rw [Int.mul_one] at b2
      generalize (F - 1) * ((xbl rx : Int) - 1) = z at b1 b2
      omega
    · omega
  clear hz_r
  have key : ∀ lv, xld lv 0 = some (Value.ref 128) → xld lv 1 = some (Value.int (Int32.ofInt r)) → xld lv 2 = some (Value.int (Int32.ofInt (rx : Int))) → xld lv 3 = some (Value.int (Int32.ofInt (n : Int))) → xld lv 4 = some (Value.int (Int32.ofInt mode)) → xEv (d + 7) 266 0 lv [] w (fun o w' => o = .inl (some (.int (Int32.ofInt (if rx ^ n ≤ spW (V (160 + 2 * r.toNat)) (S 155 r.toNat - S 153 r.toNat) rx F (S 156 r.toNat) (n : Int) mode then F + 1 else F)))) ∧ ∃ S' V', mR w0 S' V' w' ∧ nS S S' ∧ nV V V' ∧ V' 129 = (if rx ^ n ≤ spW (V (160 + 2 * r.toNat)) (S 155 r.toNat - S 153 r.toNat) rx F (S 156 r.toNat) (n : Int) mode then spW (V (160 + 2 * r.toNat)) (S 155 r.toNat - S 153 r.toNat) rx F (S 156 r.toNat) (n : Int) mode / rx else spW (V (160 + 2 * r.toNat)) (S 155 r.toNat - S 153 r.toNat) rx F (S 156 r.toNat) (n : Int) mode)) := by
    intro lv l0 l1 l2 l3 l4
    refine i_266_0 (x := 128) l0 ?_
    refine i_266_1 (v := Value.ref 155) hR.c128 rfl ?_
    refine i_266_4 (x := Int32.ofInt r) l1 ?_
    refine i_266_5 (v := Value.int (Int32.ofInt (S 155 ((r).toNat)))) (hR.row a155) (ix0 (T := r) (by omega) (by omega)) (ix1 (T := r) (by omega) (by omega) (by omega)) (ra (T := r) (by omega) (by omega) rfl) ?_
    refine i_266_6 ?_
    refine i_266_7 (c := Int32.ofInt ((S 155 ((r).toNat)) - 1)) (o_sub (S 155 ((r).toNat)) 1) ?_
    refine i_266_8 rfl ?_
    refine lgen1 (i := 5) (v := Value.int (Int32.ofInt ((S 155 ((r).toNat)) - 1))) (fun lv lg ls => ?_)
    replace l0 := lg 0 _ rfl rfl l0
    replace l1 := lg 1 _ rfl rfl l1
    replace l2 := lg 2 _ rfl rfl l2
    replace l3 := lg 3 _ rfl rfl l3
    replace l4 := lg 4 _ rfl rfl l4
    have l5 := ls
    refine i_266_10 (x := Int32.ofInt ((S 155 ((r).toNat)) - 1)) l5 ?_
    refine i_266_12 (z_le (a := (S 155 ((r).toNat)) - 1) ⟨by omega, by omega⟩ fun c0 => ?_) (z_gt (a := (S 155 ((r).toNat)) - 1) ⟨by omega, by omega⟩ fun c0 => ?_)
    · refine i_266_34 (x := Int32.ofInt ((S 155 ((r).toNat)) - 1)) l5 ?_
      refine i_266_36 (c := Int64.ofInt ((S 155 ((r).toNat)) - 1)) (q_i2l (a := (S 155 ((r).toNat)) - 1) ⟨by omega, by omega⟩) ?_
      refine i_266_37 (c := Int64.ofInt (-((S 155 ((r).toNat)) - 1))) (q_neg ((S 155 ((r).toNat)) - 1)) ?_
      refine i_266_38 ?_
      refine i_266_40 (c := Int64.ofInt ((-((S 155 ((r).toNat)) - 1)) * 1048576)) (q_shlZ (q := 20) rfl (by decide)) ?_
      refine i_266_41 ?_
      refine i_266_44 (x := Int32.ofInt (rx : Int)) l2 ?_
      refine i_266_45 (v := Value.int (Int32.ofInt (lgm rx))) ((hR.1.2.2 6 (by omega)).trans hK6) (ix0 (T := (rx : Int)) (by omega) (by omega)) (ix1 (T := (rx : Int)) (by omega) (by omega) (by omega)) (by rw [ixn (T := (rx : Int)) (by omega) (by omega)]; exact (by rw [Int.toNat_natCast]; show Value.int (xlogm.getD rx 0) = _; unfold lgm; rw [Int32.ofInt_toInt])) ?_
      refine i_266_46 (c := Int64.ofInt (lgm rx)) (q_i2l (a := lgm rx) ⟨by omega, by omega⟩) ?_
      refine i_266_47 (c := Int64.ofInt (((-((S 155 ((r).toNat)) - 1)) * 1048576) / (lgm rx))) (q_nz ⟨by omega, by omega⟩) (q_div (a := (-((S 155 ((r).toNat)) - 1)) * 1048576) (b := lgm rx) ⟨by omega, by omega⟩ ⟨by omega, by omega⟩) ?_
      refine i_266_48 (c := Int32.ofInt (((-((S 155 ((r).toNat)) - 1)) * 1048576) / (lgm rx))) (q_l2i (((-((S 155 ((r).toNat)) - 1)) * 1048576) / (lgm rx))) ?_
      refine i_266_49 (c := Int32.ofInt (-(((-((S 155 ((r).toNat)) - 1)) * 1048576) / (lgm rx)))) (o_neg (((-((S 155 ((r).toNat)) - 1)) * 1048576) / (lgm rx))) ?_
      refine i_266_50 ?_
      refine i_266_51 (c := Int32.ofInt ((-(((-((S 155 ((r).toNat)) - 1)) * 1048576) / (lgm rx))) - 1)) (o_sub (-(((-((S 155 ((r).toNat)) - 1)) * 1048576) / (lgm rx))) 1) ?_
      refine i_266_52 rfl ?_
      refine lgen1 (i := 6) (v := Value.int (Int32.ofInt ((-(((-((S 155 ((r).toNat)) - 1)) * 1048576) / (lgm rx))) - 1))) (fun lv lg ls => ?_)
      replace l5 := lg 5 _ rfl rfl l5
      replace l0 := lg 0 _ rfl rfl l0
      replace l1 := lg 1 _ rfl rfl l1
      replace l2 := lg 2 _ rfl rfl l2
      replace l3 := lg 3 _ rfl rfl l3
      replace l4 := lg 4 _ rfl rfl l4
      have l6 := ls
      refine i_266_54 (x := Int32.ofInt ((-(((-((S 155 ((r).toNat)) - 1)) * 1048576) / (lgm rx))) - 1)) l6 ?_
      refine i_266_56 ?_
      refine i_266_57 (c := Int32.ofInt (((-(((-((S 155 ((r).toNat)) - 1)) * 1048576) / (lgm rx))) - 1) - 1)) (o_sub ((-(((-((S 155 ((r).toNat)) - 1)) * 1048576) / (lgm rx))) - 1) 1) ?_
      refine i_266_58 rfl ?_
      refine lgen1 (i := 7) (v := Value.int (Int32.ofInt (((-(((-((S 155 ((r).toNat)) - 1)) * 1048576) / (lgm rx))) - 1) - 1))) (fun lv lg ls => ?_)
      replace l6 := lg 6 _ rfl rfl l6
      replace l5 := lg 5 _ rfl rfl l5
      replace l0 := lg 0 _ rfl rfl l0
      replace l1 := lg 1 _ rfl rfl l1
      replace l2 := lg 2 _ rfl rfl l2
      replace l3 := lg 3 _ rfl rfl l3
      replace l4 := lg 4 _ rfl rfl l4
      have l7 := ls
      have hg : ((-(((-((S 155 ((r).toNat)) - 1)) * 1048576) / (lgm rx))) - 1) - 1 = gss rx (S 155 r.toNat - 1) - 1 := by unfold gss; rw [if_neg (by omega)]
      rw [hg] at l7
      obtain ⟨f, hf⟩ : ∃ f : Nat, gss rx (S 155 r.toNat - 1) - 1 + f = F := ⟨(F - (gss rx (S 155 r.toNat - 1) - 1)).toNat, by omega⟩
      exact dg_L hI hr hk hrx hmo hn hF hpb (by omega) (gss rx (S 155 r.toNat - 1) - 1) (by omega) (fun y y0 y1 => dg_bits hrx (by omega) hgb.2.2.1 y0 y1 hF16) f hf (Int.le_refl _) hR nS.refl nV.refl l0 l1 l2 l3 l4 l7
    · refine i_266_15 (x := Int32.ofInt ((S 155 ((r).toNat)) - 1)) l5 ?_
      refine i_266_17 (c := Int64.ofInt ((S 155 ((r).toNat)) - 1)) (q_i2l (a := (S 155 ((r).toNat)) - 1) ⟨by omega, by omega⟩) ?_
      refine i_266_18 ?_
      refine i_266_20 (c := Int64.ofInt (((S 155 ((r).toNat)) - 1) * 1048576)) (q_shlZ (q := 20) rfl (by decide)) ?_
      refine i_266_21 ?_
      refine i_266_24 (x := Int32.ofInt (rx : Int)) l2 ?_
      refine i_266_25 (v := Value.int (Int32.ofInt (lgm rx))) ((hR.1.2.2 6 (by omega)).trans hK6) (ix0 (T := (rx : Int)) (by omega) (by omega)) (ix1 (T := (rx : Int)) (by omega) (by omega) (by omega)) (by rw [ixn (T := (rx : Int)) (by omega) (by omega)]; exact (by rw [Int.toNat_natCast]; show Value.int (xlogm.getD rx 0) = _; unfold lgm; rw [Int32.ofInt_toInt])) ?_
      refine i_266_26 ?_
      refine i_266_27 (c := Int32.ofInt ((lgm rx) + 1)) (o_add (lgm rx) 1) ?_
      refine i_266_28 (c := Int64.ofInt ((lgm rx) + 1)) (q_i2l (a := (lgm rx) + 1) ⟨by omega, by omega⟩) ?_
      refine i_266_29 (c := Int64.ofInt ((((S 155 ((r).toNat)) - 1) * 1048576) / ((lgm rx) + 1))) (q_nz ⟨by omega, by omega⟩) (q_div (a := ((S 155 ((r).toNat)) - 1) * 1048576) (b := (lgm rx) + 1) ⟨by omega, by omega⟩ ⟨by omega, by omega⟩) ?_
      refine i_266_30 (c := Int32.ofInt ((((S 155 ((r).toNat)) - 1) * 1048576) / ((lgm rx) + 1))) (q_l2i ((((S 155 ((r).toNat)) - 1) * 1048576) / ((lgm rx) + 1))) ?_
      refine i_266_31 ?_
      refine i_266_52 rfl ?_
      refine lgen1 (i := 6) (v := Value.int (Int32.ofInt ((((S 155 ((r).toNat)) - 1) * 1048576) / ((lgm rx) + 1)))) (fun lv lg ls => ?_)
      replace l5 := lg 5 _ rfl rfl l5
      replace l0 := lg 0 _ rfl rfl l0
      replace l1 := lg 1 _ rfl rfl l1
      replace l2 := lg 2 _ rfl rfl l2
      replace l3 := lg 3 _ rfl rfl l3
      replace l4 := lg 4 _ rfl rfl l4
      have l6 := ls
      refine i_266_54 (x := Int32.ofInt ((((S 155 ((r).toNat)) - 1) * 1048576) / ((lgm rx) + 1))) l6 ?_
      refine i_266_56 ?_
      refine i_266_57 (c := Int32.ofInt (((((S 155 ((r).toNat)) - 1) * 1048576) / ((lgm rx) + 1)) - 1)) (o_sub ((((S 155 ((r).toNat)) - 1) * 1048576) / ((lgm rx) + 1)) 1) ?_
      refine i_266_58 rfl ?_
      refine lgen1 (i := 7) (v := Value.int (Int32.ofInt (((((S 155 ((r).toNat)) - 1) * 1048576) / ((lgm rx) + 1)) - 1))) (fun lv lg ls => ?_)
      replace l6 := lg 6 _ rfl rfl l6
      replace l5 := lg 5 _ rfl rfl l5
      replace l0 := lg 0 _ rfl rfl l0
      replace l1 := lg 1 _ rfl rfl l1
      replace l2 := lg 2 _ rfl rfl l2
      replace l3 := lg 3 _ rfl rfl l3
      replace l4 := lg 4 _ rfl rfl l4
      have l7 := ls
      have hg : ((((S 155 ((r).toNat)) - 1) * 1048576) / ((lgm rx) + 1)) - 1 = gss rx (S 155 r.toNat - 1) - 1 := by unfold gss; rw [if_pos (by omega)]
      rw [hg] at l7
      obtain ⟨f, hf⟩ : ∃ f : Nat, gss rx (S 155 r.toNat - 1) - 1 + f = F := ⟨(F - (gss rx (S 155 r.toNat - 1) - 1)).toNat, by omega⟩
      exact dg_L hI hr hk hrx hmo hn hF hpb (by omega) (gss rx (S 155 r.toNat - 1) - 1) (by omega) (fun y y0 y1 => dg_bits hrx (by omega) hgb.2.2.1 y0 y1 hF16) f hf (Int.le_refl _) hR nS.refl nV.refl l0 l1 l2 l3 l4 l7
  obtain ⟨o, w', h1, rfl, h2⟩ := (key (lv_args 0 [Value.ref 128, Value.int (Int32.ofInt r), Value.int (Int32.ofInt (rx : Int)), Value.int (Int32.ofInt (n : Int)), Value.int (Int32.ofInt mode)]) rfl rfl rfl rfl rfl).run
  exact ⟨w', h1, h2⟩
end
