/-! writing: reachesPower -/
theorem oV_ge {G s : Nat} {a b : Int} (hG : G ≠ 0) (hs : s ≠ 0) : 0 ≤ oV G a s b ↔ s * 2 ^ (max 0 (-(a - b))).toNat ≤ G * 2 ^ (max 0 (a - b)).toNat := by
  obtain ⟨K, hK⟩ : ∃ K : Nat, (K : Int) = max 0 (max (-a) (-b)) := ⟨(max 0 (max (-a) (-b))).toNat, by omega⟩
  rw [oV_eq (K := K) hG hs (by omega) (by omega)]
  by_cases h : b ≤ a
  · have e1 : G * 2 ^ (a + K).toNat = G * 2 ^ (a - b).toNat * 2 ^ (b + K).toNat := by rw [Nat.mul_assoc, ← Nat.pow_add]; congr 2; omega
    rw [e1, ncmp_sc (Nat.two_pow_pos _), show max 0 (-(a - b)) = 0 by omega, show max 0 (a - b) = a - b by omega, show (0 : Int).toNat = 0 from rfl, Nat.pow_zero, Nat.mul_one]
    have := ncmp_3 (G * 2 ^ (a - b).toNat) s
    omega
  · have e1 : s * 2 ^ (b + K).toNat = s * 2 ^ (-(a - b)).toNat * 2 ^ (a + K).toNat := by rw [Nat.mul_assoc, ← Nat.pow_add]; congr 2; omega
    rw [e1, ncmp_sc (Nat.two_pow_pos _), show max 0 (-(a - b)) = -(a - b) by omega, show max 0 (a - b) = 0 by omega, show (0 : Int).toNat = 0 from rfl, Nat.pow_zero, Nat.mul_one]
    have := ncmp_3 G (s * 2 ^ (-(a - b)).toNat)
    omega
/-- the number M * 2 ^ e reaches B ^ k -/
abbrev wRe (M O : Nat) (k s : Int) : Prop := wD O (-k) s ≤ M * wG O (-k) s
theorem wRe_neg {M O : Nat} {k s : Int} (hM : M ≠ 0) (hO : 0 < O) (hk : k < 0) : wRe M O k s ↔ 0 < (xbl (M * O ^ k.natAbs) : Int) + s := by
  unfold wRe wD wG
  rw [if_pos (by omega), if_pos (by omega), Nat.one_mul, Int.natAbs_neg, ← Nat.mul_assoc]
  have h0 : M * O ^ k.natAbs ≠ 0 := Nat.mul_ne_zero hM (Nat.ne_of_gt (Nat.pow_pos hO))
  generalize M * O ^ k.natAbs = X at h0 ⊢
  obtain ⟨x1, x2, x3⟩ := xbl_of h0
  by_cases h : 0 ≤ s
  · rw [show max 0 (-s) = 0 by omega, show (0 : Int).toNat = 0 from rfl, Nat.pow_zero]
    have := Nat.mul_pos (show 0 < X by omega) (Nat.two_pow_pos (max 0 s).toNat)
    constructor
    · intro _; omega
    · intro _; omega
  · rw [show max 0 s = 0 by omega, show (0 : Int).toNat = 0 from rfl, Nat.pow_zero, Nat.mul_one, show max 0 (-s) = -s by omega]
    constructor
    · intro g
      have := xbl_ge g
      omega
    · intro g
      exact Nat.le_trans (Nat.pow_le_pow_right (by omega) (by omega)) x1
theorem wRe_pos {M O : Nat} {k s a b : Int} (hM : M ≠ 0) (hO : 0 < O) (hk : 0 ≤ k) (hs : s = a - b) : wRe M O k s ↔ 0 ≤ oV M a (O ^ k.natAbs) b := by
  rw [oV_ge hM (Nat.ne_of_gt (Nat.pow_pos hO)), ← hs]
  unfold wRe wD wG
  rw [Int.natAbs_neg]
  by_cases h : k = 0
  · rw [if_pos (by omega), if_pos (by omega), h, show (0 : Int).natAbs = 0 from rfl, Nat.pow_zero]; simp only [Nat.one_mul]
  · rw [if_neg (by omega), if_neg (by omega), Nat.one_mul]
section
variable {w0 w : xW} {L Z : Nat} {S : Nat → Nat → Int} {V : Nat → Nat} {d t O tw : Nat} {k s mode : Int}
set_option maxHeartbeats 4000000 in
theorem x_reach (hR : cX w0 L Z S V w) (ht : kd t = 2) (ht2 : 30 ≤ t ∧ t ≤ 75) (hpw : pwP S) (q9 : S 113 9 = (t : Int)) (q11 : S 113 11 = (tw : Int)) (hO : V 115 = O) (hO0 : 0 < O) (hO1 : xbl O ≤ 6) (bk : -40000 ≤ k ∧ k ≤ 40000) (bO : xbl (O ^ k.natAbs) ≤ 150000) (bM : xbl (V (t + 1)) ≤ 4096) (hM : V (t + 1) ≠ 0) (hx : (xbl (V (t + 1)) : Int) = S t 0) (bE : -30000 ≤ S t 3 ∧ S t 3 ≤ 30000) (hs : S t 3 - S t 0 + (tw : Int) * (-k) = s) (bs : -200000 ≤ s ∧ s ≤ 200000) : ∃ w', xRun (d + 6) 153 [Value.ref 113, Value.int (Int32.ofInt k)] w (.inl (some (.int (Int32.ofInt (bb (decide (wRe (V (t + 1)) O k s))))))) w' ∧ ∃ S' V', cX w0 L Z S' V' w' ∧ (∀ b j, b ≠ 79 → S' b j = S b j) ∧ pwP S' ∧ (∀ i, i ≠ 80 → i ≠ 82 → i ≠ 84 → i ≠ 117 → V' i = V i) := by
  have key : ∀ lv, xld lv 0 = some (Value.ref 113) → xld lv 1 = some (Value.int (Int32.ofInt k)) → xEv (d + 6) 153 0 lv [] w (fun o w' => o = .inl (some (.int (Int32.ofInt (bb (decide (wRe (V (t + 1)) O k s)))))) ∧ ∃ S' V', cX w0 L Z S' V' w' ∧ (∀ b j, b ≠ 79 → S' b j = S b j) ∧ pwP S' ∧ (∀ i, i ≠ 80 → i ≠ 82 → i ≠ 84 → i ≠ 117 → V' i = V i)) := by
    intro lv l0 l1
    obtain ⟨tk, htk⟩ : ∃ tk : Int, (tw : Int) * k = tk := ⟨_, rfl⟩
    have hst : S t 3 - S t 0 - tk = s := by rw [← htk, ← hs, Int.mul_neg]; omega
    refine i_153_0 (x := 113) l0 ?_
    refine i_153_1 (v := Value.ref 79) (hR.k11 kq_113) rfl ?_
    refine i_153_4 (x := 113) l0 ?_
    refine i_153_5 (v := Value.ref 115) (hR.k11 kq_113) rfl ?_
    refine i_153_8 (x := Int32.ofInt k) l1 ?_
    have hrun := s_abs (d := d + 4) (w := w) (a := k) (by omega)
    refine i_153_9 (Nat.le_of_ble_eq_true rfl) hrun ?_
    refine i_153_12 ?_
    have hobj := hR.k6 kq_79
    obtain ⟨w, hrun, S3, V3, hv, hR, r1, r2, r3, r4, r5, r6⟩ := x_raiseE (d := d) (hb := 115) (n := k.natAbs) hR kq_115 (by decide) (by decide) (by decide) hpw (by omega) (by rw [hO]; omega) (by rw [hO]; omega) (by rw [hO]; omega)
    rw [hO] at r5
    have khv : kd hv = 3 := by rcases r4 with rfl | rfl <;> decide +kernel
    have k9 : S3 113 9 = (t : Int) := (r1 113 9 (by decide)).trans q9
    have k11 : S3 113 11 = (tw : Int) := (r1 113 11 (by decide)).trans q11
    have eM : V3 (t + 1) = V (t + 1) := r6 (t + 1) (by omega) (by omega) (by omega)
    have bpw : xbl (V3 hv) ≤ 150000 := by rw [r5]; exact bO
    refine i_153_14 hobj (Nat.le_of_ble_eq_true rfl) hrun ?_
    refine i_153_17 (x := Int32.ofInt k) l1 ?_
    refine i_153_18 (z_ge (a := k) ⟨by omega, by omega⟩ fun c0 => ?_) (z_lt (a := k) ⟨by omega, by omega⟩ fun c0 => ?_)
    · refine i_153_81 (x := 113) l0 ?_
      refine i_153_82 (v := Value.ref 79) (hR.k11 kq_113) rfl ?_
      refine i_153_85 (v := Value.ref (S3 79 0).toNat) (hR.k6 kq_79) rfl ?_
      rw [show (S3 79 0).toNat = hv by rw [r3]; rfl]
      obtain ⟨fs, hobj⟩ := hR.nat khv
      have hrun := X_bits (d := d + 4) (h := hv) (u := O ^ k.natAbs) hR khv (r5)
      refine i_153_88 hobj (Nat.le_of_ble_eq_true rfl) hrun ?_
      refine i_153_91 (x := 113) l0 ?_
      refine i_153_92 (v := Value.int (Int32.ofInt (S3 113 11))) (hR.k11 kq_113) rfl ?_
      rw [k11]
      refine i_153_95 (x := Int32.ofInt k) l1 ?_
      refine i_153_96 (c := Int32.ofInt tk) ((o_mul (tw : Int) k).trans (by rw [htk])) ?_
      refine i_153_97 (c := Int32.ofInt ((xbl (O ^ k.natAbs) : Int) + tk)) (o_add (xbl (O ^ k.natAbs) : Int) tk) ?_
      refine i_153_98 rfl ?_
      refine lgen1 (i := 2) (v := Value.int (Int32.ofInt ((xbl (O ^ k.natAbs) : Int) + tk))) (fun lv lg ls => ?_)
      replace l0 := lg 0 _ rfl rfl l0
      replace l1 := lg 1 _ rfl rfl l1
      have l2 := ls
      refine i_153_99 (x := 113) l0 ?_
      refine i_153_100 (v := Value.ref (S3 113 9).toNat) (hR.k11 kq_113) rfl ?_
      rw [show (S3 113 9).toNat = t by rw [k9]; rfl]
      refine i_153_103 (v := Value.int (Int32.ofInt (S3 t 3))) (hR.k2 ht) rfl ?_
      rw [(r1 t 3 (by omega))]
      refine i_153_106 (x := Int32.ofInt ((xbl (O ^ k.natAbs) : Int) + tk)) l2 ?_
      refine i_153_107 (b_eq (a := S t 3) (b := (xbl (O ^ k.natAbs) : Int) + tk) ⟨by omega, by omega⟩ ⟨by omega, by omega⟩ fun c1 => ?_) (b_ne (a := S t 3) (b := (xbl (O ^ k.natAbs) : Int) + tk) ⟨by omega, by omega⟩ ⟨by omega, by omega⟩ fun c1 => ?_)
      · refine i_153_127 (x := 113) l0 ?_
        refine i_153_128 (v := Value.ref (S3 113 9).toNat) (hR.k11 kq_113) rfl ?_
        rw [show (S3 113 9).toNat = t by rw [k9]; rfl]
        refine i_153_131 (v := Value.ref (t + 1)) (hR.k2 ht) rfl ?_
        refine i_153_134 (x := 113) l0 ?_
        refine i_153_135 (v := Value.ref 79) (hR.k11 kq_113) rfl ?_
        refine i_153_138 (v := Value.ref (S3 79 0).toNat) (hR.k6 kq_79) rfl ?_
        rw [show (S3 79 0).toNat = hv by rw [r3]; rfl]
        obtain ⟨fs, hobj⟩ := hR.nat (kd_rg ht)
        have hrun := X_oft (d := d + 3) (h := t + 1) (h2 := hv) (u := V (t + 1)) (v2 := O ^ k.natAbs) hR (kd_rg ht) khv eM r5
        have hcq := ncmp_3 (V (t + 1) * 2 ^ xbl (O ^ k.natAbs)) (O ^ k.natAbs * 2 ^ xbl (V (t + 1)))
        refine i_153_141 hobj (Nat.le_of_ble_eq_true rfl) hrun ?_
        refine i_153_144 (z_lt (a := ncmp (V (t + 1) * 2 ^ xbl (O ^ k.natAbs)) (O ^ k.natAbs * 2 ^ xbl (V (t + 1)))) ⟨by omega, by omega⟩ fun c2 => ?_) (z_ge (a := ncmp (V (t + 1) * 2 ^ xbl (O ^ k.natAbs)) (O ^ k.natAbs * 2 ^ xbl (V (t + 1)))) ⟨by omega, by omega⟩ fun c2 => ?_)
        · refine i_153_151 ?_
          refine i_153_152 rfl ?_
          have er : decide (wRe (V (t + 1)) O k s) = false := by
            refine decide_eq_false ?_
            rw [wRe_pos (a := S t 3 - S t 0) (b := tk) hM hO0 (by omega) (by omega)]; unfold oV; first | (rw [if_neg (by omega), if_pos (by omega)]; decide) | (rw [if_neg (by omega), if_neg (by omega)]; decide) | (rw [if_pos (by omega)]; omega)
          rw [er]
          exact ⟨rfl, S3, _, hR, r1, r2, fun i i1 i2 i3 i4 => r6 i i1 i2 i3⟩
        · refine i_153_147 ?_
          refine i_153_148 ?_
          refine i_153_152 rfl ?_
          have er : decide (wRe (V (t + 1)) O k s) = true := by
            refine decide_eq_true ?_
            rw [wRe_pos (a := S t 3 - S t 0) (b := tk) hM hO0 (by omega) (by omega)]; unfold oV; first | (rw [if_neg (by omega), if_pos (by omega)]; decide) | (rw [if_neg (by omega), if_neg (by omega)]; decide) | (rw [if_pos (by omega)]; omega)
          rw [er]
          exact ⟨rfl, S3, _, hR, r1, r2, fun i i1 i2 i3 i4 => r6 i i1 i2 i3⟩
      · refine i_153_110 (x := 113) l0 ?_
        refine i_153_111 (v := Value.ref (S3 113 9).toNat) (hR.k11 kq_113) rfl ?_
        rw [show (S3 113 9).toNat = t by rw [k9]; rfl]
        refine i_153_114 (v := Value.int (Int32.ofInt (S3 t 3))) (hR.k2 ht) rfl ?_
        rw [(r1 t 3 (by omega))]
        refine i_153_117 (x := Int32.ofInt ((xbl (O ^ k.natAbs) : Int) + tk)) l2 ?_
        refine i_153_118 (b_le (a := S t 3) (b := (xbl (O ^ k.natAbs) : Int) + tk) ⟨by omega, by omega⟩ ⟨by omega, by omega⟩ fun c3 => ?_) (b_lt (a := (xbl (O ^ k.natAbs) : Int) + tk) (b := S t 3) ⟨by omega, by omega⟩ ⟨by omega, by omega⟩ fun c3 => ?_)
        · refine i_153_125 ?_
          refine i_153_126 rfl ?_
          have er : decide (wRe (V (t + 1)) O k s) = false := by
            refine decide_eq_false ?_
            rw [wRe_pos (a := S t 3 - S t 0) (b := tk) hM hO0 (by omega) (by omega)]; unfold oV; first | (rw [if_neg (by omega), if_pos (by omega)]; decide) | (rw [if_neg (by omega), if_neg (by omega)]; decide) | (rw [if_pos (by omega)]; omega)
          rw [er]
          exact ⟨rfl, S3, _, hR, r1, r2, fun i i1 i2 i3 i4 => r6 i i1 i2 i3⟩
        · refine i_153_121 ?_
          refine i_153_122 ?_
          refine i_153_126 rfl ?_
          have er : decide (wRe (V (t + 1)) O k s) = true := by
            refine decide_eq_true ?_
            rw [wRe_pos (a := S t 3 - S t 0) (b := tk) hM hO0 (by omega) (by omega)]; unfold oV; first | (rw [if_neg (by omega), if_pos (by omega)]; decide) | (rw [if_neg (by omega), if_neg (by omega)]; decide) | (rw [if_pos (by omega)]; omega)
          rw [er]
          exact ⟨rfl, S3, _, hR, r1, r2, fun i i1 i2 i3 i4 => r6 i i1 i2 i3⟩
    · refine i_153_21 (x := 113) l0 ?_
      refine i_153_22 (v := Value.ref 117) (hR.k11 kq_113) rfl ?_
      refine i_153_25 (x := 113) l0 ?_
      refine i_153_26 (v := Value.ref (S3 113 9).toNat) (hR.k11 kq_113) rfl ?_
      rw [show (S3 113 9).toNat = t by rw [k9]; rfl]
      refine i_153_29 (v := Value.ref (t + 1)) (hR.k2 ht) rfl ?_
      refine i_153_32 (x := 113) l0 ?_
      refine i_153_33 (v := Value.ref 79) (hR.k11 kq_113) rfl ?_
      refine i_153_36 (v := Value.ref (S3 79 0).toNat) (hR.k6 kq_79) rfl ?_
      rw [show (S3 79 0).toNat = hv by rw [r3]; rfl]
      have gp := xbl_prod (V (t + 1)) (O ^ k.natAbs)
      obtain ⟨fs, hobj⟩ := hR.nat kq_117
      obtain ⟨w, hrun, hR⟩ := X_prod (d := d + 2) (h := 117) (ha := t + 1) (hb := hv) (u := V (t + 1)) (v2 := O ^ k.natAbs) hR kq_117 (kd_rg ht) khv (by omega) (by omega) (eM) (r5) (by omega)
      refine i_153_39 hobj (Nat.le_of_ble_eq_true rfl) hrun ?_
      refine i_153_42 (x := 113) l0 ?_
      refine i_153_43 (v := Value.ref 117) (hR.k11 kq_113) rfl ?_
      obtain ⟨fs, hobj⟩ := hR.nat kq_117
      have hrun := X_bits (d := d + 4) (h := 117) (u := V (t + 1) * O ^ k.natAbs) hR kq_117 (uv_s)
      refine i_153_46 hobj (Nat.le_of_ble_eq_true rfl) hrun ?_
      refine i_153_49 (x := 113) l0 ?_
      refine i_153_50 (v := Value.ref (S3 113 9).toNat) (hR.k11 kq_113) rfl ?_
      rw [show (S3 113 9).toNat = t by rw [k9]; rfl]
      refine i_153_53 (v := Value.int (Int32.ofInt (S3 t 3))) (hR.k2 ht) rfl ?_
      rw [(r1 t 3 (by omega))]
      refine i_153_56 (c := Int32.ofInt ((xbl (V (t + 1) * O ^ k.natAbs) : Int) + (S t 3))) (o_add (xbl (V (t + 1) * O ^ k.natAbs) : Int) (S t 3)) ?_
      refine i_153_57 (x := 113) l0 ?_
      refine i_153_58 (v := Value.ref (S3 113 9).toNat) (hR.k11 kq_113) rfl ?_
      rw [show (S3 113 9).toNat = t by rw [k9]; rfl]
      refine i_153_61 (v := Value.int (Int32.ofInt (S3 t 0))) (hR.k2 ht) rfl ?_
      rw [(r1 t 0 (by omega))]
      refine i_153_64 (c := Int32.ofInt (((xbl (V (t + 1) * O ^ k.natAbs) : Int) + (S t 3)) - (S t 0))) (o_sub ((xbl (V (t + 1) * O ^ k.natAbs) : Int) + (S t 3)) (S t 0)) ?_
      refine i_153_65 (x := 113) l0 ?_
      refine i_153_66 (v := Value.int (Int32.ofInt (S3 113 11))) (hR.k11 kq_113) rfl ?_
      rw [k11]
      refine i_153_69 (x := Int32.ofInt k) l1 ?_
      refine i_153_70 (c := Int32.ofInt tk) ((o_mul (tw : Int) k).trans (by rw [htk])) ?_
      refine i_153_71 (c := Int32.ofInt ((((xbl (V (t + 1) * O ^ k.natAbs) : Int) + (S t 3)) - (S t 0)) - tk)) (o_sub (((xbl (V (t + 1) * O ^ k.natAbs) : Int) + (S t 3)) - (S t 0)) tk) ?_
      refine i_153_72 (z_le (a := (((xbl (V (t + 1) * O ^ k.natAbs) : Int) + (S t 3)) - (S t 0)) - tk) ⟨by omega, by omega⟩ fun c4 => ?_) (z_gt (a := (((xbl (V (t + 1) * O ^ k.natAbs) : Int) + (S t 3)) - (S t 0)) - tk) ⟨by omega, by omega⟩ fun c4 => ?_)
      · refine i_153_79 ?_
        refine i_153_80 rfl ?_
        have er : decide (wRe (V (t + 1)) O k s) = false := by
          refine decide_eq_false ?_
          rw [wRe_neg hM hO0 (by omega)]; omega
        rw [er]
        exact ⟨rfl, S3, _, hR, r1, r2, fun i i1 i2 i3 i4 => (uv_n (by omega)).trans (r6 i i1 i2 i3)⟩
      · refine i_153_75 ?_
        refine i_153_76 ?_
        refine i_153_80 rfl ?_
        have er : decide (wRe (V (t + 1)) O k s) = true := by
          refine decide_eq_true ?_
          rw [wRe_neg hM hO0 (by omega)]; omega
        rw [er]
        exact ⟨rfl, S3, _, hR, r1, r2, fun i i1 i2 i3 i4 => (uv_n (by omega)).trans (r6 i i1 i2 i3)⟩
  obtain ⟨o, w', h1, rfl, h2⟩ := (key (lv_args 0 [Value.ref 113, Value.int (Int32.ofInt k)]) rfl rfl).run
  exact ⟨w', h1, h2⟩
end
