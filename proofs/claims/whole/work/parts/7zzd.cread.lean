/-! reading: evaluate, the walk -/
section
variable {w0 w : xW} {L Z : Nat} {S : Nat → Nat → Int} {V : Nat → Nat} {d rx v sig : Nat} {ng sh p : Int}
set_option maxHeartbeats 8000000 in
theorem x_eval (hR : cX w0 L Z S V w) (hK5 : w0[5]? = some (.inl (3, 37, fun j => .long (xlogc.getD j 0)))) (hr : 2 ≤ rx ∧ rx ≤ 36) (hpw : pwP S) (q4 : S 108 4 = (rx : Int)) (q6 : S 108 6 = ng) (hng : ng = 0 ∨ ng = 1) (q7 : S 108 7 = (sig : Int)) (q8 : S 108 8 = sh) (hv9 : V 109 = v) (bv : xbl v ≤ 24576) (bs : sig ≤ 4096) (bsh : -1004096 ≤ sh ∧ sh ≤ 1000000) (hp : 2 ≤ p ∧ p ≤ 4096) : ∃ w', xRun (d + 6) 149 [Value.ref 108, Value.ref 16, Value.int (Int32.ofInt p)] w (.inl none) w' ∧ ∃ S' V', cX w0 L Z S' V' w' ∧ nC S S' ∧ nW V V' ∧ S' 16 0 = ng ∧ ∃ tw O, rx = 2 ^ tw * O ∧ O % 2 = 1 ∧ V' 17 = (evS p rx v sh sig O tw).1 ∧ S' 16 2 = (evS p rx v sh sig O tw).2.1 ∧ S' 16 3 = (evS p rx v sh sig O tw).2.2 := by
  have key : ∀ lv, xld lv 0 = some (Value.ref 108) → xld lv 1 = some (Value.ref 16) → xld lv 2 = some (Value.int (Int32.ofInt p)) → xEv (d + 6) 149 0 lv [] w (fun o w' => o = .inl none ∧ ∃ S' V', cX w0 L Z S' V' w' ∧ nC S S' ∧ nW V V' ∧ S' 16 0 = ng ∧ ∃ tw O, rx = 2 ^ tw * O ∧ O % 2 = 1 ∧ V' 17 = (evS p rx v sh sig O tw).1 ∧ S' 16 2 = (evS p rx v sh sig O tw).2.1 ∧ S' 16 3 = (evS p rx v sh sig O tw).2.2) := by
    intro lv l0 l1 l2
    obtain ⟨⟨hl1, hl2⟩, -, -⟩ := lgt_ok hr
    refine i_149_0 ?_
    refine i_149_3 (x := 108) l0 ?_
    refine i_149_4 (v := Value.int (Int32.ofInt (S 108 4))) (hR.k10 kq_108) rfl ?_
    rw [q4]
    refine i_149_7 (v := Value.long (Int64.ofInt (lgt rx))) ((hR.low (by decide)).trans hK5) (by rw [oI (by omega) (by omega)]; omega) (by rw [oI (by omega) (by omega)]; omega) (by rw [oI (by omega) (by omega)]; show Value.long (xlogc.getD rx 0) = _; unfold lgt; rw [Int64.ofInt_toInt]) ?_
    refine i_149_8 rfl ?_
    refine lgen2 (i := 3) (v := Value.long (Int64.ofInt (lgt rx))) (fun lv lg ls => ?_)
    replace l0 := lg 0 _ rfl rfl l0
    replace l1 := lg 1 _ rfl rfl l1
    replace l2 := lg 2 _ rfl rfl l2
    have l3 := ls
    refine i_149_9 (x := 108) l0 ?_
    refine i_149_10 (v := Value.int (Int32.ofInt (S 108 7))) (hR.k10 kq_108) rfl ?_
    rw [q7]
    refine i_149_13 ?_
    refine i_149_14 (c := Int32.ofInt ((sig : Int) - 1)) (o_sub (sig : Int) 1) ?_
    refine i_149_15 (x := 108) l0 ?_
    refine i_149_16 (v := Value.int (Int32.ofInt (S 108 8))) (hR.k10 kq_108) rfl ?_
    rw [q8]
    refine i_149_19 (c := Int32.ofInt (((sig : Int) - 1) + sh)) (o_add ((sig : Int) - 1) sh) ?_
    refine i_149_20 (c := Int64.ofInt (((sig : Int) - 1) + sh)) (q_i2l (a := ((sig : Int) - 1) + sh) ⟨by omega, by omega⟩) ?_
    refine i_149_21 ?_
    refine i_149_24 ?_
    refine i_149_27 (x := Int64.ofInt (lgt rx)) l3 ?_
    refine i_149_28 (c := Int64.ofInt (16400 * (lgt rx))) (q_mul 16400 (lgt rx)) ?_
    refine i_149_29 ?_
    refine i_149_31 (c := Int64.ofInt ((16400 * (lgt rx)) / 1099511627776)) (q_shr40 (t := 16400 * (lgt rx)) ⟨by omega, by omega⟩) ?_
    refine i_149_32 (c := Int64.ofInt (2 + ((16400 * (lgt rx)) / 1099511627776))) (q_add 2 ((16400 * (lgt rx)) / 1099511627776)) ?_
    refine i_149_33 (c := Int32.ofInt (lc (((sig : Int) - 1) + sh) (2 + ((16400 * (lgt rx)) / 1099511627776)))) (q_cmp (a := ((sig : Int) - 1) + sh) (b := 2 + ((16400 * (lgt rx)) / 1099511627776)) ⟨by omega, by omega⟩ ⟨by omega, by omega⟩) ?_
    refine i_149_34 (lc_le (a := ((sig : Int) - 1) + sh) (b := 2 + ((16400 * (lgt rx)) / 1099511627776)) fun c0 => ?_) (lc_gt (a := ((sig : Int) - 1) + sh) (b := 2 + ((16400 * (lgt rx)) / 1099511627776)) fun c0 => ?_)
    · refine i_149_50 (x := 108) l0 ?_
      refine i_149_51 (v := Value.int (Int32.ofInt (S 108 7))) (hR.k10 kq_108) rfl ?_
      rw [q7]
      refine i_149_54 (x := 108) l0 ?_
      refine i_149_55 (v := Value.int (Int32.ofInt (S 108 8))) (hR.k10 kq_108) rfl ?_
      rw [q8]
      refine i_149_58 (c := Int32.ofInt ((sig : Int) + sh)) (o_add (sig : Int) sh) ?_
      refine i_149_59 (c := Int64.ofInt ((sig : Int) + sh)) (q_i2l (a := (sig : Int) + sh) ⟨by omega, by omega⟩) ?_
      refine i_149_60 ?_
      refine i_149_63 (x := Int64.ofInt (lgt rx)) l3 ?_
      refine i_149_64 (c := Int64.ofInt ((-20600) * (lgt rx))) ((congrArg (· * Int64.ofInt (lgt rx)) (show (-20600 : Int64) = Int64.ofInt (-20600) by decide)).trans (q_mul (-20600) (lgt rx))) ?_
      refine i_149_65 ?_
      refine i_149_67 (c := Int64.ofInt (((-20600) * (lgt rx)) / 1099511627776)) (q_shr40 (t := (-20600) * (lgt rx)) ⟨by omega, by omega⟩) ?_
      refine i_149_68 ?_
      refine i_149_71 (c := Int64.ofInt ((((-20600) * (lgt rx)) / 1099511627776) - 2)) (q_sub (((-20600) * (lgt rx)) / 1099511627776) 2) ?_
      refine i_149_72 (c := Int32.ofInt (lc ((sig : Int) + sh) ((((-20600) * (lgt rx)) / 1099511627776) - 2))) (q_cmp (a := (sig : Int) + sh) (b := (((-20600) * (lgt rx)) / 1099511627776) - 2) ⟨by omega, by omega⟩ ⟨by omega, by omega⟩) ?_
      refine i_149_73 (lc_ge (a := (sig : Int) + sh) (b := (((-20600) * (lgt rx)) / 1099511627776) - 2) fun c1 => ?_) (lc_lt (a := (sig : Int) + sh) (b := (((-20600) * (lgt rx)) / 1099511627776) - 2) fun c1 => ?_)
      · refine i_149_89 (x := 108) l0 ?_
        refine i_149_90 (v := Value.int (Int32.ofInt (S 108 4))) (hR.k10 kq_108) rfl ?_
        rw [q4]
        obtain ⟨tw, q, hrun, etw, htw⟩ := s_ntz (d := d + 5) (w := w) (n := rx) (by omega) (by omega)
        obtain ⟨O, eOd⟩ : ∃ O, O = 2 * q + 1 := ⟨_, rfl⟩
        rw [← eOd] at etw
        have eO : rx / 2 ^ tw = O := by rw [etw]; exact Nat.mul_div_cancel_left _ (Nat.two_pow_pos _)
        have hO0 : 0 < O := by omega
        have hOr : O ≤ rx := by rw [etw]; exact Nat.le_mul_of_pos_left _ (Nat.two_pow_pos _)
        have hOb : xbl (O ^ sh.natAbs) ≤ 150000 := by
          have g1 := xbl_npow O sh.natAbs
          have g2 : xbl O ≤ 6 := xbl_le (by omega)
          have g3 : sh.natAbs * xbl O ≤ 24700 * 6 := Nat.mul_le_mul (by omega) g2
          omega
        refine i_149_93 (Nat.le_of_ble_eq_true rfl) hrun ?_
        refine i_149_96 rfl ?_
        refine lgen1 (i := 5) (v := Value.int (Int32.ofInt (tw : Int))) (fun lv lg ls => ?_)
        replace l3 := lg 3 _ rfl rfl l3
        replace l0 := lg 0 _ rfl rfl l0
        replace l1 := lg 1 _ rfl rfl l1
        replace l2 := lg 2 _ rfl rfl l2
        have l5 := ls
        refine i_149_98 (x := 108) l0 ?_
        refine i_149_99 (v := Value.ref 111) (hR.k10 kq_108) rfl ?_
        refine i_149_102 (x := 108) l0 ?_
        refine i_149_103 (v := Value.int (Int32.ofInt (S 108 4))) (hR.k10 kq_108) rfl ?_
        rw [q4]
        refine i_149_106 (x := Int32.ofInt (tw : Int)) l5 ?_
        refine i_149_108 (c := Int32.ofInt ((rx / 2 ^ tw : Nat) : Int)) (o_shrk (by omega) (by omega)) ?_
        rw [show rx / 2 ^ tw = O from eO]
        refine i_149_109 (c := Int64.ofInt (O : Int)) (q_i2l (a := (O : Int)) ⟨by omega, by omega⟩) ?_
        obtain ⟨fs, hobj⟩ := hR.nat kq_111
        obtain ⟨w, hrun, hR⟩ := X_setl (d := d + 4) (h := 111) (x := Int64.ofInt (O : Int)) hR kq_111
        rw [show xul (Int64.ofInt (O : Int)) = O from (xul_o (by omega) (by omega)).trans rfl] at hR
        refine i_149_110 hobj (Nat.le_of_ble_eq_true rfl) hrun ?_
        refine i_149_113 (x := 108) l0 ?_
        refine i_149_114 (v := Value.ref 79) (hR.k10 kq_108) rfl ?_
        refine i_149_117 (x := 108) l0 ?_
        refine i_149_118 (v := Value.ref 111) (hR.k10 kq_108) rfl ?_
        refine i_149_121 (x := 108) l0 ?_
        refine i_149_122 (v := Value.int (Int32.ofInt (S 108 8))) (hR.k10 kq_108) rfl ?_
        rw [q8]
        have hrun := s_abs (d := d + 4) (w := w) (a := sh) (by omega)
        refine i_149_125 (Nat.le_of_ble_eq_true rfl) hrun ?_
        refine i_149_128 ?_
        have hobj := hR.k6 kq_79
        have e111 : (uv V 111 O) 111 = O := uv_s
        obtain ⟨w, hrun, S2, V2, hv, hR, r1, r2, r3, r4, r5, r6⟩ := x_raiseE (d := d) (hb := 111) (n := sh.natAbs) hR kq_111 (by decide) (by decide) (by decide) hpw (by omega) (by rw [e111]; omega) (by rw [e111]; omega) (by rw [e111]; have : xbl O ≤ 6 := xbl_le (by omega); omega)
        rw [e111] at r5
        have khv : kd hv = 3 := by rcases r4 with rfl | rfl <;> decide +kernel
        have e109 : V2 109 = v := (r6 109 (by decide) (by decide) (by decide)).trans ((uv_n (by decide)).trans hv9)
        have k4 : S2 108 4 = _ := (r1 108 4 (by decide)).trans q4
        have k6 : S2 108 6 = _ := (r1 108 6 (by decide)).trans q6
        have k7 : S2 108 7 = _ := (r1 108 7 (by decide)).trans q7
        have k8 : S2 108 8 = _ := (r1 108 8 (by decide)).trans q8
        refine i_149_130 hobj (Nat.le_of_ble_eq_true rfl) hrun ?_
        refine i_149_133 (x := 16) l1 ?_
        refine i_149_134 (x := 108) l0 ?_
        refine i_149_135 (v := Value.int (Int32.ofInt (S2 108 6))) (hR.k10 kq_108) rfl ?_
        rw [k6]
        refine i_149_138 (fs2 := f4 16 (u1 (S2 16) 0 ng)) (hR.k4 kq_16) (o_bool (by omega)) (Nat.le_of_ble_eq_true rfl) rfl (h7k kq_16 (by decide)) ?_
        refine xgen (P := cX w0 L Z (u2 S2 16 0 ng) V2) (hR.p4 kq_16) (fun w hR => ?_)
        refine i_149_141 (x := 16) l1 ?_
        refine i_149_142 (x := Int32.ofInt (tw : Int)) l5 ?_
        refine i_149_144 (x := 108) l0 ?_
        refine i_149_145 (v := Value.int (Int32.ofInt ((u2 S2 16 0 ng) 108 8))) (hR.k10 kq_108) rfl ?_
        rw [show Int32.ofInt ((u2 S2 16 0 ng) 108 8) = Int32.ofInt (S2 108 8) by rw [u2_eq, if_neg (fun e => absurd e.2 (by decide))]]
        rw [k8]
        refine i_149_148 (c := Int32.ofInt ((tw : Int) * sh)) (o_mul (tw : Int) sh) ?_
        refine i_149_149 (fs2 := f4 16 (u1 ((u2 S2 16 0 ng) 16) 2 ((tw : Int) * sh))) (hR.k4 kq_16) (Nat.le_of_ble_eq_true rfl) rfl (h7k kq_16 (by decide)) ?_
        refine xgen (P := cX w0 L Z (u2 (u2 S2 16 0 ng) 16 2 ((tw : Int) * sh)) V2) (hR.p4 kq_16) (fun w hR => ?_)
        refine i_149_152 (x := 16) l1 ?_
        refine i_149_153 ?_
        refine i_149_154 (fs2 := f4 16 (u1 ((u2 (u2 S2 16 0 ng) 16 2 ((tw : Int) * sh)) 16) 3 0)) (hR.k4 kq_16) rfl (Nat.le_of_ble_eq_true rfl) rfl (h7k kq_16 (by decide)) ?_
        refine xgen (P := cX w0 L Z (u2 (u2 (u2 S2 16 0 ng) 16 2 ((tw : Int) * sh)) 16 3 0) V2) (hR.p4 kq_16) (fun w hR => ?_)
        refine i_149_157 (x := 108) l0 ?_
        refine i_149_158 (v := Value.int (Int32.ofInt ((u2 (u2 (u2 S2 16 0 ng) 16 2 ((tw : Int) * sh)) 16 3 0) 108 8))) (hR.k10 kq_108) rfl ?_
        rw [show Int32.ofInt ((u2 (u2 (u2 S2 16 0 ng) 16 2 ((tw : Int) * sh)) 16 3 0) 108 8) = Int32.ofInt (S2 108 8) by rw [u2_eq, if_neg (fun e => absurd e.2 (by decide)), u2_eq, if_neg (fun e => absurd e.2 (by decide)), u2_eq, if_neg (fun e => absurd e.2 (by decide))]]
        rw [k8]
        refine i_149_161 (z_lt (a := sh) ⟨by omega, by omega⟩ fun c2 => ?_) (z_ge (a := sh) ⟨by omega, by omega⟩ fun c2 => ?_)
        · refine i_149_183 ?_
          refine i_149_184 (x := Int32.ofInt p) l2 ?_
          refine i_149_185 ?_
          refine i_149_186 (c := Int32.ofInt (p + 3)) (o_add p 3) ?_
          refine i_149_187 (x := 108) l0 ?_
          refine i_149_188 (v := Value.ref 79) (hR.k10 kq_108) rfl ?_
          refine i_149_191 (v := Value.ref ((u2 (u2 (u2 S2 16 0 ng) 16 2 ((tw : Int) * sh)) 16 3 0) 79 0).toNat) (hR.k6 kq_79) rfl ?_
          rw [show ((u2 (u2 (u2 S2 16 0 ng) 16 2 ((tw : Int) * sh)) 16 3 0) 79 0).toNat = hv by rw [u2_eq, if_neg (fun e => absurd e.2 (by decide)), u2_eq, if_neg (fun e => absurd e.2 (by decide)), u2_eq, if_neg (fun e => absurd e.1 (by decide)), r3]; rfl]
          obtain ⟨fs, hobj⟩ := hR.nat khv
          have hrun := X_bits (d := d + 4) (h := hv) (u := O ^ sh.natAbs) hR khv (r5)
          refine i_149_194 hobj (Nat.le_of_ble_eq_true rfl) hrun ?_
          refine i_149_197 (c := Int32.ofInt ((p + 3) + (xbl (O ^ sh.natAbs) : Int))) (o_add (p + 3) (xbl (O ^ sh.natAbs) : Int)) ?_
          refine i_149_198 (x := 108) l0 ?_
          refine i_149_199 (v := Value.ref 109) (hR.k10 kq_108) rfl ?_
          obtain ⟨fs, hobj⟩ := hR.nat kq_109
          have hrun := X_bits (d := d + 4) (h := 109) (u := v) hR kq_109 (e109)
          refine i_149_202 hobj (Nat.le_of_ble_eq_true rfl) hrun ?_
          refine i_149_205 (c := Int32.ofInt (((p + 3) + (xbl (O ^ sh.natAbs) : Int)) - (xbl v : Int))) (o_sub ((p + 3) + (xbl (O ^ sh.natAbs) : Int)) (xbl v : Int)) ?_
          have hrun := s_max (d := d + 4) (w := w) (a := 0) (b := ((p + 3) + (xbl (O ^ sh.natAbs) : Int)) - (xbl v : Int)) ⟨by decide, by decide⟩ ⟨by omega, by omega⟩
          refine i_149_206 (Nat.le_of_ble_eq_true rfl) hrun ?_
          refine i_149_209 rfl ?_
          refine lgen1 (i := 6) (v := Value.int (Int32.ofInt (max (0 : Int) (((p + 3) + (xbl (O ^ sh.natAbs) : Int)) - (xbl v : Int))))) (fun lv lg ls => ?_)
          replace l5 := lg 5 _ rfl rfl l5
          replace l3 := lg 3 _ rfl rfl l3
          replace l0 := lg 0 _ rfl rfl l0
          replace l1 := lg 1 _ rfl rfl l1
          replace l2 := lg 2 _ rfl rfl l2
          have l6 := ls
          refine i_149_211 (x := 108) l0 ?_
          refine i_149_212 (v := Value.ref 111) (hR.k10 kq_108) rfl ?_
          refine i_149_215 (x := 108) l0 ?_
          refine i_149_216 (v := Value.ref 109) (hR.k10 kq_108) rfl ?_
          refine i_149_219 (x := Int32.ofInt (max (0 : Int) (((p + 3) + (xbl (O ^ sh.natAbs) : Int)) - (xbl v : Int)))) l6 ?_
          obtain ⟨pl, epl⟩ : ∃ pl : Nat, max (0 : Int) (((p + 3) + (xbl (O ^ sh.natAbs) : Int)) - (xbl v : Int)) = (pl : Int) := ⟨(max (0 : Int) (((p + 3) + (xbl (O ^ sh.natAbs) : Int)) - (xbl v : Int))).toNat, by omega⟩
          rw [epl]
          rw [epl] at l6
          obtain ⟨fs, hobj⟩ := hR.nat kq_111
          obtain ⟨w, hrun, hR⟩ := X_shift (d := d + 2) (h := 111) (h2 := 109) (u := v) (k := (pl : Int)) hR kq_111 kq_109 (e109) (by omega) (by omega)
          rw [shf_p] at hR
          have hXb := xbl_powle v pl
          have hT0 : O ^ sh.natAbs ≠ 0 := Nat.ne_of_gt (Nat.pow_pos hO0)
          have hqb : xbl (v * 2 ^ pl / O ^ sh.natAbs) ≤ 400000 := Nat.le_trans (xbl_mono (Nat.div_le_self _ _)) (by omega)
          refine i_149_221 hobj (Nat.le_of_ble_eq_true rfl) hrun ?_
          refine i_149_224 (x := 108) l0 ?_
          refine i_149_225 (v := Value.ref 86) (hR.k10 kq_108) rfl ?_
          refine i_149_228 (x := 108) l0 ?_
          refine i_149_229 (v := Value.ref 111) (hR.k10 kq_108) rfl ?_
          refine i_149_232 (x := 108) l0 ?_
          refine i_149_233 (v := Value.ref 79) (hR.k10 kq_108) rfl ?_
          refine i_149_236 (v := Value.ref ((u2 (u2 (u2 S2 16 0 ng) 16 2 ((tw : Int) * sh)) 16 3 0) 79 0).toNat) (hR.k6 kq_79) rfl ?_
          rw [show ((u2 (u2 (u2 S2 16 0 ng) 16 2 ((tw : Int) * sh)) 16 3 0) 79 0).toNat = hv by rw [u2_eq, if_neg (fun e => absurd e.2 (by decide)), u2_eq, if_neg (fun e => absurd e.2 (by decide)), u2_eq, if_neg (fun e => absurd e.1 (by decide)), r3]; rfl]
          have exx : (uv V2 111 (v * 2 ^ pl)) 111 = v * 2 ^ pl := uv_s
          have eyy : (uv V2 111 (v * 2 ^ pl)) hv = O ^ sh.natAbs := (uv_n (by omega)).trans (r5)
          have hobj := hR.k7 kq_86
          obtain ⟨w, hrun, z4, hR⟩ := X_divide (d := d + 1) (hx := 111) (hy := hv) hR kq_111 khv (by decide) (by decide) (by decide) (by omega) (by omega) (by omega) (by rw [eyy]; exact hT0) (by rw [exx]; omega) (by rw [eyy]; omega)
          rw [exx, eyy] at hR
          refine i_149_239 hobj (Nat.le_of_ble_eq_true rfl) hrun ?_
          refine i_149_242 (x := 16) l1 ?_
          refine i_149_243 (v := Value.ref 17) (hR.k4 kq_16) rfl ?_
          refine i_149_246 (x := 108) l0 ?_
          refine i_149_247 (v := Value.ref 86) (hR.k10 kq_108) rfl ?_
          refine i_149_250 (v := Value.ref 87) (hR.k7 kq_86) rfl ?_
          obtain ⟨fs, hobj⟩ := hR.nat kq_17
          obtain ⟨w, hrun, hR⟩ := X_set (d := d + 2) (h := 17) (h2 := 87) (u := (v * 2 ^ pl) / (O ^ sh.natAbs)) hR kq_17 kq_87 (by decide) ((uv_n (by omega)).trans ((uv_n (by omega)).trans (uv_s))) (by omega)
          refine i_149_253 hobj (Nat.le_of_ble_eq_true rfl) hrun ?_
          refine i_149_256 (x := 16) l1 ?_
          refine i_149_257 rfl ?_
          refine i_149_258 (v := Value.int (Int32.ofInt ((u2 (u2 (u2 S2 16 0 ng) 16 2 ((tw : Int) * sh)) 16 3 0) 16 2))) (hR.k4 kq_16) rfl ?_
          rw [show Int32.ofInt ((u2 (u2 (u2 S2 16 0 ng) 16 2 ((tw : Int) * sh)) 16 3 0) 16 2) = Int32.ofInt ((tw : Int) * sh) by rw [u2_eq, if_neg (fun e => absurd e.2 (by decide)), u2_eq, if_pos ⟨rfl, rfl⟩]]
          refine i_149_261 (x := Int32.ofInt (pl : Int)) l6 ?_
          refine i_149_263 (c := Int32.ofInt (((tw : Int) * sh) - (pl : Int))) (o_sub ((tw : Int) * sh) (pl : Int)) ?_
          refine i_149_264 (fs2 := f4 16 (u1 ((u2 (u2 (u2 S2 16 0 ng) 16 2 ((tw : Int) * sh)) 16 3 0) 16) 2 (((tw : Int) * sh) - (pl : Int)))) (hR.k4 kq_16) (Nat.le_of_ble_eq_true rfl) rfl (h7k kq_16 (by decide)) ?_
          refine xgen (P := cX w0 L Z (u2 (u2 (u2 (u2 S2 16 0 ng) 16 2 ((tw : Int) * sh)) 16 3 0) 16 2 (((tw : Int) * sh) - (pl : Int))) (uv (uv (uv (uv (uv V2 111 (v * 2 ^ pl)) 87 ((v * 2 ^ pl) / (O ^ sh.natAbs))) 91 z4) 89 ((v * 2 ^ pl) % (O ^ sh.natAbs))) 17 ((v * 2 ^ pl) / (O ^ sh.natAbs)))) (hR.p4 kq_16) (fun w hR => ?_)
          refine i_149_267 (x := 16) l1 ?_
          refine i_149_268 (x := 108) l0 ?_
          refine i_149_269 (v := Value.ref 86) (hR.k10 kq_108) rfl ?_
          refine i_149_272 (v := Value.ref 89) (hR.k7 kq_86) rfl ?_
          obtain ⟨a5, hsz, hz5⟩ := hR.size (h := 89) (u := (v * 2 ^ pl) % (O ^ sh.natAbs)) kq_89 ((uv_n (by omega)).trans (uv_s))
          refine i_149_275 (v := Value.int (Int32.ofInt (((xbl ((v * 2 ^ pl) % (O ^ sh.natAbs)) + 31) / 32 : Nat) : Int))) hsz rfl ?_
          refine i_149_278 (z_eq (a := (((xbl ((v * 2 ^ pl) % (O ^ sh.natAbs)) + 31) / 32 : Nat) : Int)) ⟨by omega, by omega⟩ fun c5 => ?_) (z_ne (a := (((xbl ((v * 2 ^ pl) % (O ^ sh.natAbs)) + 31) / 32 : Nat) : Int)) ⟨by omega, by omega⟩ fun c5 => ?_)
          · refine i_149_285 ?_
            refine i_149_286 (fs2 := f4 16 (u1 ((u2 (u2 (u2 (u2 S2 16 0 ng) 16 2 ((tw : Int) * sh)) 16 3 0) 16 2 (((tw : Int) * sh) - (pl : Int))) 16) 3 0)) (hR.k4 kq_16) rfl (Nat.le_of_ble_eq_true rfl) rfl (h7k kq_16 (by decide)) ?_
            refine xgen (P := cX w0 L Z (u2 (u2 (u2 (u2 (u2 S2 16 0 ng) 16 2 ((tw : Int) * sh)) 16 3 0) 16 2 (((tw : Int) * sh) - (pl : Int))) 16 3 0) (uv (uv (uv (uv (uv V2 111 (v * 2 ^ pl)) 87 ((v * 2 ^ pl) / (O ^ sh.natAbs))) 91 z4) 89 ((v * 2 ^ pl) % (O ^ sh.natAbs))) 17 ((v * 2 ^ pl) / (O ^ sh.natAbs)))) (hR.p4 kq_16) (fun w hR => ?_)
            refine i_149_289 ?_
            refine ⟨rfl, _, _, hR, (nC.up (nC.up (nC.up (nC.up (nC.up (nC.refl.trans ⟨fun b j hb => by unfold cKeep at hb; exact r1 b j (by omega), (r1 113 3 (by omega)), fun _ => r2⟩) (by unfold cKeep; omega) (by omega)) (by unfold cKeep; omega) (by omega)) (by unfold cKeep; omega) (by omega)) (by unfold cKeep; omega) (by omega)) (by unfold cKeep; omega) (by omega)), (nW.up (nW.up (nW.up (nW.up (nW.up (show nW V V2 from fun i i1 i2 => (r6 i (by omega) (by omega) (by omega)).trans (uv_n (by omega))) (by omega)) (by omega)) (by omega)) (by omega)) (by omega)), by rw [u2_eq, if_neg (fun e => absurd e.2 (by decide)), u2_eq, if_neg (fun e => absurd e.2 (by decide)), u2_eq, if_neg (fun e => absurd e.2 (by decide)), u2_eq, if_neg (fun e => absurd e.2 (by decide)), u2_eq, if_pos ⟨rfl, rfl⟩], tw, O, etw, by omega, ?_⟩
            unfold evS
            rw [if_neg (by omega), if_neg (by omega), if_neg (by omega), show max 0 (p + 3 + (xbl (O ^ sh.natAbs) : Int) - (xbl v : Int)) = (pl : Int) from epl, show ((pl : Nat) : Int).toNat = pl from rfl]
            have hrz := ‹(((xbl (v * 2 ^ pl % O ^ sh.natAbs) + 31) / 32 : Nat) : Int) = 0›
            exact ⟨uv_s, by rw [u2_eq, if_neg (fun e => absurd e.2 (by decide)), u2_eq, if_pos ⟨rfl, rfl⟩], by rw [u2_eq, if_pos ⟨rfl, rfl⟩, if_pos (show v * 2 ^ pl % O ^ sh.natAbs = 0 from xbl_nz.mp (by omega))]⟩
          · refine i_149_281 ?_
            refine i_149_282 ?_
            refine i_149_286 (fs2 := f4 16 (u1 ((u2 (u2 (u2 (u2 S2 16 0 ng) 16 2 ((tw : Int) * sh)) 16 3 0) 16 2 (((tw : Int) * sh) - (pl : Int))) 16) 3 1)) (hR.k4 kq_16) rfl (Nat.le_of_ble_eq_true rfl) rfl (h7k kq_16 (by decide)) ?_
            refine xgen (P := cX w0 L Z (u2 (u2 (u2 (u2 (u2 S2 16 0 ng) 16 2 ((tw : Int) * sh)) 16 3 0) 16 2 (((tw : Int) * sh) - (pl : Int))) 16 3 1) (uv (uv (uv (uv (uv V2 111 (v * 2 ^ pl)) 87 ((v * 2 ^ pl) / (O ^ sh.natAbs))) 91 z4) 89 ((v * 2 ^ pl) % (O ^ sh.natAbs))) 17 ((v * 2 ^ pl) / (O ^ sh.natAbs)))) (hR.p4 kq_16) (fun w hR => ?_)
            refine i_149_289 ?_
            refine ⟨rfl, _, _, hR, (nC.up (nC.up (nC.up (nC.up (nC.up (nC.refl.trans ⟨fun b j hb => by unfold cKeep at hb; exact r1 b j (by omega), (r1 113 3 (by omega)), fun _ => r2⟩) (by unfold cKeep; omega) (by omega)) (by unfold cKeep; omega) (by omega)) (by unfold cKeep; omega) (by omega)) (by unfold cKeep; omega) (by omega)) (by unfold cKeep; omega) (by omega)), (nW.up (nW.up (nW.up (nW.up (nW.up (show nW V V2 from fun i i1 i2 => (r6 i (by omega) (by omega) (by omega)).trans (uv_n (by omega))) (by omega)) (by omega)) (by omega)) (by omega)) (by omega)), by rw [u2_eq, if_neg (fun e => absurd e.2 (by decide)), u2_eq, if_neg (fun e => absurd e.2 (by decide)), u2_eq, if_neg (fun e => absurd e.2 (by decide)), u2_eq, if_neg (fun e => absurd e.2 (by decide)), u2_eq, if_pos ⟨rfl, rfl⟩], tw, O, etw, by omega, ?_⟩
            unfold evS
            rw [if_neg (by omega), if_neg (by omega), if_neg (by omega), show max 0 (p + 3 + (xbl (O ^ sh.natAbs) : Int) - (xbl v : Int)) = (pl : Int) from epl, show ((pl : Nat) : Int).toNat = pl from rfl]
            have hrz := ‹(((xbl (v * 2 ^ pl % O ^ sh.natAbs) + 31) / 32 : Nat) : Int) ≠ 0›
            exact ⟨uv_s, by rw [u2_eq, if_neg (fun e => absurd e.2 (by decide)), u2_eq, if_pos ⟨rfl, rfl⟩], by rw [u2_eq, if_pos ⟨rfl, rfl⟩, if_neg (show ¬ v * 2 ^ pl % O ^ sh.natAbs = 0 from fun e => hrz (by rw [e, xbl_zero]; rfl))]⟩
        · refine i_149_164 (x := 16) l1 ?_
          refine i_149_165 (v := Value.ref 17) (hR.k4 kq_16) rfl ?_
          refine i_149_168 (x := 108) l0 ?_
          refine i_149_169 (v := Value.ref 109) (hR.k10 kq_108) rfl ?_
          refine i_149_172 (x := 108) l0 ?_
          refine i_149_173 (v := Value.ref 79) (hR.k10 kq_108) rfl ?_
          refine i_149_176 (v := Value.ref ((u2 (u2 (u2 S2 16 0 ng) 16 2 ((tw : Int) * sh)) 16 3 0) 79 0).toNat) (hR.k6 kq_79) rfl ?_
          rw [show ((u2 (u2 (u2 S2 16 0 ng) 16 2 ((tw : Int) * sh)) 16 3 0) 79 0).toNat = hv by rw [u2_eq, if_neg (fun e => absurd e.2 (by decide)), u2_eq, if_neg (fun e => absurd e.2 (by decide)), u2_eq, if_neg (fun e => absurd e.1 (by decide)), r3]; rfl]
          obtain ⟨fs, hobj⟩ := hR.nat kq_17
          obtain ⟨w, hrun, hR⟩ := X_prod (d := d + 2) (h := 17) (ha := 109) (hb := hv) (u := v) (v2 := O ^ sh.natAbs) hR kq_17 kq_109 khv (by decide) (by omega) (e109) (r5) (by omega)
          refine i_149_179 hobj (Nat.le_of_ble_eq_true rfl) hrun ?_
          refine i_149_182 ?_
          refine ⟨rfl, _, _, hR, (nC.up (nC.up (nC.up (nC.refl.trans ⟨fun b j hb => by unfold cKeep at hb; exact r1 b j (by omega), (r1 113 3 (by omega)), fun _ => r2⟩) (by unfold cKeep; omega) (by omega)) (by unfold cKeep; omega) (by omega)) (by unfold cKeep; omega) (by omega)), (nW.up (show nW V V2 from fun i i1 i2 => (r6 i (by omega) (by omega) (by omega)).trans (uv_n (by omega))) (by omega)), by rw [u2_eq, if_neg (fun e => absurd e.2 (by decide)), u2_eq, if_neg (fun e => absurd e.2 (by decide)), u2_eq, if_pos ⟨rfl, rfl⟩], tw, O, etw, by omega, ?_⟩
          unfold evS
          rw [if_neg (by omega), if_neg (by omega), if_pos (by omega)]
          exact ⟨uv_s, by rw [u2_eq, if_neg (fun e => absurd e.2 (by decide)), u2_eq, if_pos ⟨rfl, rfl⟩], by rw [u2_eq, if_pos ⟨rfl, rfl⟩]⟩
      · refine i_149_76 (x := 16) l1 ?_
        refine i_149_77 (x := 108) l0 ?_
        refine i_149_78 (v := Value.int (Int32.ofInt (S 108 6))) (hR.k10 kq_108) rfl ?_
        rw [q6]
        refine i_149_81 ?_
        refine i_149_82 ?_
        have hobj := hR.k4 kq_16
        obtain ⟨w, hrun, hR⟩ := x_tb (d := d + 3) (h := 16) (sg := ng) (b := 1) (pw := (-30000)) hR kq_16 (by first | omega | exact bb_01 _) ⟨by omega, by omega⟩
        refine i_149_85 hobj (Nat.le_of_ble_eq_true rfl) hrun ?_
        refine i_149_88 ?_
        obtain ⟨tw, q, -, etw, htw⟩ := s_ntz (d := 0) (w := w) (n := rx) (by omega) (by omega)
        refine ⟨rfl, _, _, hR, (nC.up (nC.up (nC.up nC.refl (by unfold cKeep; omega) (by omega)) (by unfold cKeep; omega) (by omega)) (by unfold cKeep; omega) (by omega)), (nW.up nW.refl (by omega)), by rw [u2_eq, if_neg (fun e => absurd e.2 (by decide)), u2_eq, if_neg (fun e => absurd e.2 (by decide)), u2_eq, if_pos ⟨rfl, rfl⟩], tw, 2 * q + 1, etw, by omega, ?_⟩
        unfold evS
        rw [if_neg (by omega), if_pos (by omega)]
        exact ⟨uv_s, by rw [u2_eq, if_neg (fun e => absurd e.2 (by decide)), u2_eq, if_pos ⟨rfl, rfl⟩], by rw [u2_eq, if_pos ⟨rfl, rfl⟩]⟩
    · refine i_149_37 (x := 16) l1 ?_
      refine i_149_38 (x := 108) l0 ?_
      refine i_149_39 (v := Value.int (Int32.ofInt (S 108 6))) (hR.k10 kq_108) rfl ?_
      rw [q6]
      refine i_149_42 ?_
      refine i_149_43 ?_
      have hobj := hR.k4 kq_16
      obtain ⟨w, hrun, hR⟩ := x_tb (d := d + 3) (h := 16) (sg := ng) (b := 1) (pw := 30000) hR kq_16 (by first | omega | exact bb_01 _) ⟨by omega, by omega⟩
      refine i_149_46 hobj (Nat.le_of_ble_eq_true rfl) hrun ?_
      refine i_149_49 ?_
      obtain ⟨tw, q, -, etw, htw⟩ := s_ntz (d := 0) (w := w) (n := rx) (by omega) (by omega)
      refine ⟨rfl, _, _, hR, (nC.up (nC.up (nC.up nC.refl (by unfold cKeep; omega) (by omega)) (by unfold cKeep; omega) (by omega)) (by unfold cKeep; omega) (by omega)), (nW.up nW.refl (by omega)), by rw [u2_eq, if_neg (fun e => absurd e.2 (by decide)), u2_eq, if_neg (fun e => absurd e.2 (by decide)), u2_eq, if_pos ⟨rfl, rfl⟩], tw, 2 * q + 1, etw, by omega, ?_⟩
      unfold evS
      rw [if_pos (by omega)]
      exact ⟨uv_s, by rw [u2_eq, if_neg (fun e => absurd e.2 (by decide)), u2_eq, if_pos ⟨rfl, rfl⟩], by rw [u2_eq, if_pos ⟨rfl, rfl⟩]⟩
  obtain ⟨o, w', h1, rfl, h2⟩ := (key (lv_args 0 [Value.ref 108, Value.ref 16, Value.int (Int32.ofInt p)]) rfl rfl rfl).run
  exact ⟨w', h1, h2⟩
end
