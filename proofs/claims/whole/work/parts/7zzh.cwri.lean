/-! writing: scaleBy, quotientGoesUp -/
/-- the writer's gap and denominator: a number times B ^ k is its mantissa times gap over denominator -/
def wG (O : Nat) (k s : Int) : Nat := (if 0 ≤ k then O ^ k.natAbs else 1) * 2 ^ (max 0 s).toNat
def wD (O : Nat) (k s : Int) : Nat := (if 0 ≤ k then 1 else O ^ k.natAbs) * 2 ^ (max 0 (-s)).toNat
def ltr (k : Int) : Int := if k < 10 then 48 + k else 97 + k - 10
theorem xokb {v : Int} (h : -128 ≤ v ∧ v ≤ 127) : xok .byte (.int (Int32.ofInt v)) = true := by
  show decide ((Int32.ofInt v).toInt8.toInt32 = Int32.ofInt v) = true
  rw [o_i2b]
  refine decide_eq_true ?_
  unfold bty
  congr 1
  omega
section
variable {w0 w : xW} {L Z : Nat} {S : Nat → Nat → Int} {V : Nat → Nat} {d t O tw : Nat} {k s mode : Int}
set_option maxHeartbeats 4000000 in
theorem x_scale (hR : cX w0 L Z S V w) (ht : kd t = 2) (ht2 : 30 ≤ t ∧ t ≤ 75) (hpw : pwP S) (q9 : S 113 9 = (t : Int)) (q11 : S 113 11 = (tw : Int)) (hO : V 115 = O) (hO0 : 0 < O) (hO1 : xbl O ≤ 6) (bk : -40000 ≤ k ∧ k ≤ 40000) (bO : xbl (O ^ k.natAbs) ≤ 150000) (bM : xbl (V (t + 1)) ≤ 4096) (hs : S t 3 - S t 0 + (tw : Int) * k = s) (bs : -100000 ≤ s ∧ s ≤ 100000) : ∃ w', xRun (d + 6) 156 [Value.ref 113, Value.int (Int32.ofInt k)] w (.inl none) w' ∧ ∃ S' V', cX w0 L Z S' V' w' ∧ (∀ b j, b ≠ 79 → S' b j = S b j) ∧ pwP S' ∧ V' 121 = wG O k s ∧ V' 119 = wD O k s ∧ V' 117 = V (t + 1) * wG O k s ∧ V' 87 = V (t + 1) * wG O k s / wD O k s ∧ V' 89 = V (t + 1) * wG O k s % wD O k s ∧ (∀ i, i ≠ 80 → i ≠ 82 → i ≠ 84 → i ≠ 87 → i ≠ 89 → i ≠ 91 → i ≠ 117 → i ≠ 119 → i ≠ 121 → V' i = V i) := by
  have key : ∀ lv, xld lv 0 = some (Value.ref 113) → xld lv 1 = some (Value.int (Int32.ofInt k)) → xEv (d + 6) 156 0 lv [] w (fun o w' => o = .inl none ∧ ∃ S' V', cX w0 L Z S' V' w' ∧ (∀ b j, b ≠ 79 → S' b j = S b j) ∧ pwP S' ∧ V' 121 = wG O k s ∧ V' 119 = wD O k s ∧ V' 117 = V (t + 1) * wG O k s ∧ V' 87 = V (t + 1) * wG O k s / wD O k s ∧ V' 89 = V (t + 1) * wG O k s % wD O k s ∧ (∀ i, i ≠ 80 → i ≠ 82 → i ≠ 84 → i ≠ 87 → i ≠ 89 → i ≠ 91 → i ≠ 117 → i ≠ 119 → i ≠ 121 → V' i = V i)) := by
    intro lv l0 l1
    have hx1 : xbl 1 = 1 := xbl_one
    refine i_156_0 (x := 113) l0 ?_
    refine i_156_1 (v := Value.ref (S 113 9).toNat) (hR.k11 kq_113) rfl ?_
    rw [show (S 113 9).toNat = t by rw [q9]; rfl]
    refine i_156_4 (v := Value.int (Int32.ofInt (S t 3))) (hR.k2 ht) rfl ?_
    refine i_156_7 (x := 113) l0 ?_
    refine i_156_8 (v := Value.ref (S 113 9).toNat) (hR.k11 kq_113) rfl ?_
    rw [show (S 113 9).toNat = t by rw [q9]; rfl]
    refine i_156_11 (v := Value.int (Int32.ofInt (S t 0))) (hR.k2 ht) rfl ?_
    refine i_156_14 (c := Int32.ofInt ((S t 3) - (S t 0))) (o_sub (S t 3) (S t 0)) ?_
    refine i_156_15 (x := 113) l0 ?_
    refine i_156_16 (v := Value.int (Int32.ofInt (S 113 11))) (hR.k11 kq_113) rfl ?_
    rw [q11]
    refine i_156_19 (x := Int32.ofInt k) l1 ?_
    refine i_156_20 (c := Int32.ofInt ((tw : Int) * k)) (o_mul (tw : Int) k) ?_
    refine i_156_21 (c := Int32.ofInt s) ((o_add ((S t 3) - (S t 0)) ((tw : Int) * k)).trans (by rw [hs])) ?_
    refine i_156_22 rfl ?_
    refine lgen1 (i := 2) (v := Value.int (Int32.ofInt s)) (fun lv lg ls => ?_)
    replace l0 := lg 0 _ rfl rfl l0
    replace l1 := lg 1 _ rfl rfl l1
    have l2 := ls
    refine i_156_23 (x := 113) l0 ?_
    refine i_156_24 (v := Value.ref 79) (hR.k11 kq_113) rfl ?_
    refine i_156_27 (x := 113) l0 ?_
    refine i_156_28 (v := Value.ref 115) (hR.k11 kq_113) rfl ?_
    refine i_156_31 (x := Int32.ofInt k) l1 ?_
    have hrun := s_abs (d := d + 4) (w := w) (a := k) (by omega)
    refine i_156_32 (Nat.le_of_ble_eq_true rfl) hrun ?_
    refine i_156_35 ?_
    have hobj := hR.k6 kq_79
    obtain ⟨w, hrun, S3, V3, hv, hR, r1, r2, r3, r4, r5, r6⟩ := x_raiseE (d := d) (hb := 115) (n := k.natAbs) hR kq_115 (by decide) (by decide) (by decide) hpw (by omega) (by rw [hO]; omega) (by rw [hO]; omega) (by rw [hO]; omega)
    rw [hO] at r5
    have khv : kd hv = 3 := by rcases r4 with rfl | rfl <;> decide +kernel
    have k9 : S3 113 9 = (t : Int) := (r1 113 9 (by decide)).trans q9
    have k11 : S3 113 11 = (tw : Int) := (r1 113 11 (by decide)).trans q11
    have eM : V3 (t + 1) = V (t + 1) := r6 (t + 1) (by omega) (by omega) (by omega)
    have bpw : xbl (V3 hv) ≤ 150000 := by rw [r5]; exact bO
    refine i_156_37 hobj (Nat.le_of_ble_eq_true rfl) hrun ?_
    refine i_156_40 (x := 113) l0 ?_
    refine i_156_41 (v := Value.ref 121) (hR.k11 kq_113) rfl ?_
    refine i_156_44 ?_
    obtain ⟨fs, hobj⟩ := hR.nat kq_121
    obtain ⟨w, hrun, hR⟩ := X_setl (d := d + 4) (h := 121) (x := 1) hR kq_121
    rw [show xul (1 : Int64) = 1 from rfl] at hR
    refine i_156_45 hobj (Nat.le_of_ble_eq_true rfl) hrun ?_
    refine i_156_48 (x := 113) l0 ?_
    refine i_156_49 (v := Value.ref 119) (hR.k11 kq_113) rfl ?_
    refine i_156_52 ?_
    obtain ⟨fs, hobj⟩ := hR.nat kq_119
    obtain ⟨w, hrun, hR⟩ := X_setl (d := d + 4) (h := 119) (x := 1) hR kq_119
    rw [show xul (1 : Int64) = 1 from rfl] at hR
    refine i_156_53 hobj (Nat.le_of_ble_eq_true rfl) hrun ?_
    refine i_156_56 (x := Int32.ofInt k) l1 ?_
    refine i_156_57 (z_lt (a := k) ⟨by omega, by omega⟩ fun c0 => ?_) (z_ge (a := k) ⟨by omega, by omega⟩ fun c0 => ?_)
    · refine i_156_77 (x := 113) l0 ?_
      refine i_156_78 (v := Value.ref 119) (hR.k11 kq_113) rfl ?_
      refine i_156_81 (x := 113) l0 ?_
      refine i_156_82 (v := Value.ref 79) (hR.k11 kq_113) rfl ?_
      refine i_156_85 (v := Value.ref (S3 79 0).toNat) (hR.k6 kq_79) rfl ?_
      rw [show (S3 79 0).toNat = hv by rw [r3]; rfl]
      obtain ⟨fs, hobj⟩ := hR.nat kq_119
      obtain ⟨w, hrun, hR⟩ := X_set (d := d + 2) (h := 119) (h2 := hv) (u := O ^ k.natAbs) hR kq_119 khv (by omega) ((uv_n (by omega)).trans ((uv_n (by omega)).trans (r5))) (by omega)
      rw [uvv] at hR
      refine i_156_88 hobj (Nat.le_of_ble_eq_true rfl) hrun ?_
      refine i_156_91 (x := 113) l0 ?_
      refine i_156_92 (v := Value.ref 121) (hR.k11 kq_113) rfl ?_
      refine i_156_95 (x := 113) l0 ?_
      refine i_156_96 (v := Value.ref 121) (hR.k11 kq_113) rfl ?_
      refine i_156_99 ?_
      refine i_156_100 (x := Int32.ofInt s) l2 ?_
      have hrun := s_max (d := d + 4) (w := w) (a := 0) (b := s) ⟨by decide, by decide⟩ ⟨by omega, by omega⟩
      refine i_156_101 (Nat.le_of_ble_eq_true rfl) hrun ?_
      obtain ⟨fs, hobj⟩ := hR.nat kq_121
      have gs121 := shf_ble (1) (max (0 : Int) s)
      obtain ⟨w, hrun, hR⟩ := X_shift (d := d + 2) (h := 121) (h2 := 121) (u := 1) (k := max (0 : Int) s) hR kq_121 kq_121 ((uv_n (by omega)).trans (uv_s)) (by omega) (by omega)
      refine i_156_104 hobj (Nat.le_of_ble_eq_true rfl) hrun ?_
      refine i_156_107 (x := 113) l0 ?_
      refine i_156_108 (v := Value.ref 119) (hR.k11 kq_113) rfl ?_
      refine i_156_111 (x := 113) l0 ?_
      refine i_156_112 (v := Value.ref 119) (hR.k11 kq_113) rfl ?_
      refine i_156_115 ?_
      refine i_156_116 (x := Int32.ofInt s) l2 ?_
      refine i_156_117 (c := Int32.ofInt (-s)) (o_neg s) ?_
      have hrun := s_max (d := d + 4) (w := w) (a := 0) (b := -s) ⟨by decide, by decide⟩ ⟨by omega, by omega⟩
      refine i_156_118 (Nat.le_of_ble_eq_true rfl) hrun ?_
      obtain ⟨fs, hobj⟩ := hR.nat kq_119
      have gs119 := shf_ble (O ^ k.natAbs) (max (0 : Int) (-s))
      obtain ⟨w, hrun, hR⟩ := X_shift (d := d + 2) (h := 119) (h2 := 119) (u := O ^ k.natAbs) (k := max (0 : Int) (-s)) hR kq_119 kq_119 ((uv_n (by omega)).trans (uv_s)) (by omega) (by omega)
      refine i_156_121 hobj (Nat.le_of_ble_eq_true rfl) hrun ?_
      refine i_156_124 (x := 113) l0 ?_
      refine i_156_125 (v := Value.ref 117) (hR.k11 kq_113) rfl ?_
      refine i_156_128 (x := 113) l0 ?_
      refine i_156_129 (v := Value.ref (S3 113 9).toNat) (hR.k11 kq_113) rfl ?_
      rw [show (S3 113 9).toNat = t by rw [k9]; rfl]
      refine i_156_132 (v := Value.ref (t + 1)) (hR.k2 ht) rfl ?_
      refine i_156_135 (x := 113) l0 ?_
      refine i_156_136 (v := Value.ref 121) (hR.k11 kq_113) rfl ?_
      have gp := xbl_prod (V (t + 1)) (shf 1 (max (0 : Int) s))
      obtain ⟨fs, hobj⟩ := hR.nat kq_117
      obtain ⟨w, hrun, hR⟩ := X_prod (d := d + 2) (h := 117) (ha := t + 1) (hb := 121) (u := V (t + 1)) (v2 := shf 1 (max (0 : Int) s)) hR kq_117 (kd_rg ht) kq_121 (by omega) (by decide) ((uv_n (by omega)).trans ((uv_n (by omega)).trans ((uv_n (by omega)).trans ((uv_n (by omega)).trans (eM))))) ((uv_n (by omega)).trans (uv_s)) (by omega)
      have hD0 : shf (O ^ k.natAbs) (max (0 : Int) (-s)) ≠ 0 := by rw [shf_nn (by omega)]; exact Nat.mul_ne_zero (Nat.ne_of_gt (Nat.pow_pos hO0)) (Nat.ne_of_gt (Nat.two_pow_pos _))
      refine i_156_139 hobj (Nat.le_of_ble_eq_true rfl) hrun ?_
      refine i_156_142 (x := 113) l0 ?_
      refine i_156_143 (v := Value.ref 86) (hR.k11 kq_113) rfl ?_
      refine i_156_146 (x := 113) l0 ?_
      refine i_156_147 (v := Value.ref 117) (hR.k11 kq_113) rfl ?_
      refine i_156_150 (x := 113) l0 ?_
      refine i_156_151 (v := Value.ref 119) (hR.k11 kq_113) rfl ?_
      have exx : (uv (uv (uv (uv (uv V3 121 1) 119 (O ^ k.natAbs)) 121 (shf 1 (max (0 : Int) s))) 119 (shf (O ^ k.natAbs) (max (0 : Int) (-s)))) 117 ((V (t + 1)) * (shf 1 (max (0 : Int) s)))) 117 = (V (t + 1)) * (shf 1 (max (0 : Int) s)) := uv_s
      have eyy : (uv (uv (uv (uv (uv V3 121 1) 119 (O ^ k.natAbs)) 121 (shf 1 (max (0 : Int) s))) 119 (shf (O ^ k.natAbs) (max (0 : Int) (-s)))) 117 ((V (t + 1)) * (shf 1 (max (0 : Int) s)))) 119 = shf (O ^ k.natAbs) (max (0 : Int) (-s)) := (uv_n (by omega)).trans (uv_s)
      have hobj := hR.k7 kq_86
      obtain ⟨w, hrun, z2, hR⟩ := X_divide (d := d + 1) (hx := 117) (hy := 119) hR kq_117 kq_119 (by decide) (by decide) (by decide) (by decide) (by decide) (by decide) (by rw [eyy]; exact hD0) (by rw [exx]; omega) (by rw [eyy]; omega)
      rw [exx, eyy] at hR
      refine i_156_154 hobj (Nat.le_of_ble_eq_true rfl) hrun ?_
      refine i_156_157 ?_
      have eG : wG O k s = shf 1 (max (0 : Int) s) := by unfold wG; rw [if_neg (by omega), shf_nn (by omega)]
      have eD : wD O k s = shf (O ^ k.natAbs) (max (0 : Int) (-s)) := by unfold wD; rw [if_neg (by omega), shf_nn (by omega)]
      refine ⟨rfl, S3, _, hR, fun b j hb => r1 b j hb, r2, ?_, ?_, ?_, ?_, ?_, fun i i1 i2 i3 i4 i5 i6 i7 i8 i9 => (uv_n (by omega)).trans ((uv_n (by omega)).trans ((uv_n (by omega)).trans ((uv_n (by omega)).trans ((uv_n (by omega)).trans ((uv_n (by omega)).trans ((uv_n (by omega)).trans ((uv_n (by omega)).trans (r6 i i1 i2 i3))))))))⟩
      · rw [eG]; exact (uv_n (by omega)).trans ((uv_n (by omega)).trans ((uv_n (by omega)).trans ((uv_n (by omega)).trans ((uv_n (by omega)).trans (uv_s)))))
      · rw [eD]; exact (uv_n (by omega)).trans ((uv_n (by omega)).trans ((uv_n (by omega)).trans ((uv_n (by omega)).trans (uv_s))))
      · rw [eG]; exact (uv_n (by omega)).trans ((uv_n (by omega)).trans ((uv_n (by omega)).trans (uv_s)))
      · rw [eG, eD]; exact (uv_n (by omega)).trans ((uv_n (by omega)).trans (uv_s))
      · rw [eG, eD]; exact uv_s
    · refine i_156_60 (x := 113) l0 ?_
      refine i_156_61 (v := Value.ref 121) (hR.k11 kq_113) rfl ?_
      refine i_156_64 (x := 113) l0 ?_
      refine i_156_65 (v := Value.ref 79) (hR.k11 kq_113) rfl ?_
      refine i_156_68 (v := Value.ref (S3 79 0).toNat) (hR.k6 kq_79) rfl ?_
      rw [show (S3 79 0).toNat = hv by rw [r3]; rfl]
      obtain ⟨fs, hobj⟩ := hR.nat kq_121
      obtain ⟨w, hrun, hR⟩ := X_set (d := d + 2) (h := 121) (h2 := hv) (u := O ^ k.natAbs) hR kq_121 khv (by omega) ((uv_n (by omega)).trans ((uv_n (by omega)).trans (r5))) (by omega)
      refine i_156_71 hobj (Nat.le_of_ble_eq_true rfl) hrun ?_
      refine i_156_74 ?_
      refine i_156_91 (x := 113) l0 ?_
      refine i_156_92 (v := Value.ref 121) (hR.k11 kq_113) rfl ?_
      refine i_156_95 (x := 113) l0 ?_
      refine i_156_96 (v := Value.ref 121) (hR.k11 kq_113) rfl ?_
      refine i_156_99 ?_
      refine i_156_100 (x := Int32.ofInt s) l2 ?_
      have hrun := s_max (d := d + 4) (w := w) (a := 0) (b := s) ⟨by decide, by decide⟩ ⟨by omega, by omega⟩
      refine i_156_101 (Nat.le_of_ble_eq_true rfl) hrun ?_
      obtain ⟨fs, hobj⟩ := hR.nat kq_121
      have gs121 := shf_ble (O ^ k.natAbs) (max (0 : Int) s)
      obtain ⟨w, hrun, hR⟩ := X_shift (d := d + 2) (h := 121) (h2 := 121) (u := O ^ k.natAbs) (k := max (0 : Int) s) hR kq_121 kq_121 (uv_s) (by omega) (by omega)
      rw [uvv] at hR
      refine i_156_104 hobj (Nat.le_of_ble_eq_true rfl) hrun ?_
      refine i_156_107 (x := 113) l0 ?_
      refine i_156_108 (v := Value.ref 119) (hR.k11 kq_113) rfl ?_
      refine i_156_111 (x := 113) l0 ?_
      refine i_156_112 (v := Value.ref 119) (hR.k11 kq_113) rfl ?_
      refine i_156_115 ?_
      refine i_156_116 (x := Int32.ofInt s) l2 ?_
      refine i_156_117 (c := Int32.ofInt (-s)) (o_neg s) ?_
      have hrun := s_max (d := d + 4) (w := w) (a := 0) (b := -s) ⟨by decide, by decide⟩ ⟨by omega, by omega⟩
      refine i_156_118 (Nat.le_of_ble_eq_true rfl) hrun ?_
      obtain ⟨fs, hobj⟩ := hR.nat kq_119
      have gs119 := shf_ble (1) (max (0 : Int) (-s))
      obtain ⟨w, hrun, hR⟩ := X_shift (d := d + 2) (h := 119) (h2 := 119) (u := 1) (k := max (0 : Int) (-s)) hR kq_119 kq_119 ((uv_n (by omega)).trans (uv_s)) (by omega) (by omega)
      refine i_156_121 hobj (Nat.le_of_ble_eq_true rfl) hrun ?_
      refine i_156_124 (x := 113) l0 ?_
      refine i_156_125 (v := Value.ref 117) (hR.k11 kq_113) rfl ?_
      refine i_156_128 (x := 113) l0 ?_
      refine i_156_129 (v := Value.ref (S3 113 9).toNat) (hR.k11 kq_113) rfl ?_
      rw [show (S3 113 9).toNat = t by rw [k9]; rfl]
      refine i_156_132 (v := Value.ref (t + 1)) (hR.k2 ht) rfl ?_
      refine i_156_135 (x := 113) l0 ?_
      refine i_156_136 (v := Value.ref 121) (hR.k11 kq_113) rfl ?_
      have gp := xbl_prod (V (t + 1)) (shf (O ^ k.natAbs) (max (0 : Int) s))
      obtain ⟨fs, hobj⟩ := hR.nat kq_117
      obtain ⟨w, hrun, hR⟩ := X_prod (d := d + 2) (h := 117) (ha := t + 1) (hb := 121) (u := V (t + 1)) (v2 := shf (O ^ k.natAbs) (max (0 : Int) s)) hR kq_117 (kd_rg ht) kq_121 (by omega) (by decide) ((uv_n (by omega)).trans ((uv_n (by omega)).trans ((uv_n (by omega)).trans ((uv_n (by omega)).trans (eM))))) ((uv_n (by omega)).trans (uv_s)) (by omega)
      have hD0 : shf 1 (max (0 : Int) (-s)) ≠ 0 := by rw [shf_nn (by omega)]; exact Nat.mul_ne_zero (by decide) (Nat.ne_of_gt (Nat.two_pow_pos _))
      refine i_156_139 hobj (Nat.le_of_ble_eq_true rfl) hrun ?_
      refine i_156_142 (x := 113) l0 ?_
      refine i_156_143 (v := Value.ref 86) (hR.k11 kq_113) rfl ?_
      refine i_156_146 (x := 113) l0 ?_
      refine i_156_147 (v := Value.ref 117) (hR.k11 kq_113) rfl ?_
      refine i_156_150 (x := 113) l0 ?_
      refine i_156_151 (v := Value.ref 119) (hR.k11 kq_113) rfl ?_
      have exx : (uv (uv (uv (uv (uv V3 121 1) 119 1) 121 (shf (O ^ k.natAbs) (max (0 : Int) s))) 119 (shf 1 (max (0 : Int) (-s)))) 117 ((V (t + 1)) * (shf (O ^ k.natAbs) (max (0 : Int) s)))) 117 = (V (t + 1)) * (shf (O ^ k.natAbs) (max (0 : Int) s)) := uv_s
      have eyy : (uv (uv (uv (uv (uv V3 121 1) 119 1) 121 (shf (O ^ k.natAbs) (max (0 : Int) s))) 119 (shf 1 (max (0 : Int) (-s)))) 117 ((V (t + 1)) * (shf (O ^ k.natAbs) (max (0 : Int) s)))) 119 = shf 1 (max (0 : Int) (-s)) := (uv_n (by omega)).trans (uv_s)
      have hobj := hR.k7 kq_86
      obtain ⟨w, hrun, z3, hR⟩ := X_divide (d := d + 1) (hx := 117) (hy := 119) hR kq_117 kq_119 (by decide) (by decide) (by decide) (by decide) (by decide) (by decide) (by rw [eyy]; exact hD0) (by rw [exx]; omega) (by rw [eyy]; omega)
      rw [exx, eyy] at hR
      refine i_156_154 hobj (Nat.le_of_ble_eq_true rfl) hrun ?_
      refine i_156_157 ?_
      have eG : wG O k s = shf (O ^ k.natAbs) (max (0 : Int) s) := by unfold wG; rw [if_pos (by omega), shf_nn (by omega)]
      have eD : wD O k s = shf 1 (max (0 : Int) (-s)) := by unfold wD; rw [if_pos (by omega), shf_nn (by omega)]
      refine ⟨rfl, S3, _, hR, fun b j hb => r1 b j hb, r2, ?_, ?_, ?_, ?_, ?_, fun i i1 i2 i3 i4 i5 i6 i7 i8 i9 => (uv_n (by omega)).trans ((uv_n (by omega)).trans ((uv_n (by omega)).trans ((uv_n (by omega)).trans ((uv_n (by omega)).trans ((uv_n (by omega)).trans ((uv_n (by omega)).trans ((uv_n (by omega)).trans (r6 i i1 i2 i3))))))))⟩
      · rw [eG]; exact (uv_n (by omega)).trans ((uv_n (by omega)).trans ((uv_n (by omega)).trans ((uv_n (by omega)).trans ((uv_n (by omega)).trans (uv_s)))))
      · rw [eD]; exact (uv_n (by omega)).trans ((uv_n (by omega)).trans ((uv_n (by omega)).trans ((uv_n (by omega)).trans (uv_s))))
      · rw [eG]; exact (uv_n (by omega)).trans ((uv_n (by omega)).trans ((uv_n (by omega)).trans (uv_s)))
      · rw [eG, eD]; exact (uv_n (by omega)).trans ((uv_n (by omega)).trans (uv_s))
      · rw [eG, eD]; exact uv_s
  obtain ⟨o, w', h1, rfl, h2⟩ := (key (lv_args 0 [Value.ref 113, Value.int (Int32.ofInt k)]) rfl rfl).run
  exact ⟨w', h1, h2⟩
theorem x_ltr (hk : 0 ≤ k ∧ k ≤ 35) : xRun (d + 0) 160 [Value.int (Int32.ofInt k)] w (.inl (some (.int (Int32.ofInt (ltr k))))) w := by
  have key : ∀ lv, xld lv 0 = some (Value.int (Int32.ofInt k)) → xEv (d + 0) 160 0 lv [] w (fun o w' => o = .inl (some (.int (Int32.ofInt (ltr k)))) ∧ w' = w) := by
    intro lv l0
    refine i_160_0 (x := Int32.ofInt k) l0 ?_
    refine i_160_1 ?_
    refine i_160_3 (b_le (a := 10) (b := k) ⟨by decide, by decide⟩ ⟨by omega, by omega⟩ fun c0 => ?_) (b_lt (a := k) (b := 10) ⟨by omega, by omega⟩ ⟨by decide, by decide⟩ fun c0 => ?_)
    · refine i_160_13 ?_
      refine i_160_15 (x := Int32.ofInt k) l0 ?_
      refine i_160_16 (c := Int32.ofInt (97 + k)) (o_add 97 k) ?_
      refine i_160_17 ?_
      refine i_160_19 (c := Int32.ofInt ((97 + k) - 10)) (o_sub (97 + k) 10) ?_
      refine i_160_20 (c := Int32.ofInt ((97 + k) - 10)) (by rw [o_i2b]; unfold bty; congr 1; omega) ?_
      refine i_160_21 (xokb (by omega)) ?_
      exact ⟨by rw [show ltr k = (97 + k) - 10 from by unfold ltr; first | rw [if_pos (by omega)] | rw [if_neg (by omega)] ], rfl⟩
    · refine i_160_6 ?_
      refine i_160_8 (x := Int32.ofInt k) l0 ?_
      refine i_160_9 (c := Int32.ofInt (48 + k)) (o_add 48 k) ?_
      refine i_160_10 ?_
      refine i_160_20 (c := Int32.ofInt (48 + k)) (by rw [o_i2b]; unfold bty; congr 1; omega) ?_
      refine i_160_21 (xokb (by omega)) ?_
      exact ⟨by rw [show ltr k = 48 + k from by unfold ltr; first | rw [if_pos (by omega)] | rw [if_neg (by omega)] ], rfl⟩
  obtain ⟨o, w', h1, rfl, rfl⟩ := (key (lv_args 0 [Value.int (Int32.ofInt k)]) rfl).run
  exact h1
end
