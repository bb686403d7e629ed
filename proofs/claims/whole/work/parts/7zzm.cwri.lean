/-! writing: comesBack -/
def cUp (M G D : Nat) (ng : Int) : Bool := qUp 0 ng (M * G / D) (M * G % D) D
def cDi (M G D : Nat) (ng : Int) : Nat := if cUp M G D ng = true then D - M * G % D else M * G % D
def cCl (M G D : Nat) (ng p : Int) (ev : Bool) : Bool := !ev && !cUp M G D ng && decide (M = 2 ^ (p - 1).toNat)
/-- whether so many digits come back -/
def cbk (M G D : Nat) (ng p : Int) (ev : Bool) : Bool := decide (ncmp (shf (cDi M G D ng) (if cCl M G D ng p ev = true then 2 else 1)) G < 0) || (decide (ncmp (shf (cDi M G D ng) (if cCl M G D ng p ev = true then 2 else 1)) G = 0) && decide (M % 2 = 0))
theorem wD_pos {O : Nat} {k s : Int} (hO : 0 < O) : 0 < wD O k s := by
  unfold wD
  refine Nat.mul_pos ?_ (Nat.two_pow_pos _)
  split
  · exact Nat.one_pos
  · exact Nat.pow_pos hO
theorem bfn_z {M : Nat} : ((bfn M 0 % 2 : Nat) : Int) = ((M % 2 : Nat) : Int) := by
  rw [bfn_bit]
  show bb (nbit M ((0 : Nat) : Int)) = _
  rw [nbit_v, Nat.pow_zero, Nat.div_one]
theorem nb_1 {M : Nat} (h : nbit M 0 = true) : M % 2 = 1 := by
  have e := bfn_z (M := M)
  rw [bfn_bit, h] at e
  have : bb true = 1 := rfl
  omega
theorem nb_0 {M : Nat} (h : nbit M 0 = false) : M % 2 = 0 := by
  have e := bfn_z (M := M)
  rw [bfn_bit, h] at e
  have : bb false = 0 := rfl
  omega
theorem wSt.up {S S1 : Nat → Nat → Int} {V V1 : Nat → Nat} {t rx O tw : Nat} {F : Int} (h : wSt S V t rx O tw F) (h1 : ∀ b j, b ≠ 79 → S1 b j = S b j) (h2 : pwP S1) (h3 : V1 115 = V 115) : wSt S1 V1 t rx O tw F := by
  obtain ⟨a1, a2, a3, a4, a5, a6, a7⟩ := h
  exact ⟨h2, (h1 113 9 (by decide)).trans a2, (h1 113 10 (by decide)).trans a3, (h1 113 11 (by decide)).trans a4, (h1 113 12 (by decide)).trans a5, h3.trans a6, a7⟩
section
variable {w0 w : xW} {L Z : Nat} {S : Nat → Nat → Int} {V : Nat → Nat} {d t rx O tw : Nat} {F n s mode : Int} {ev : Bool}
theorem wG_bl {O : Nat} {k s : Int} (hO : 0 < O) (h : xbl (O ^ k.natAbs) ≤ 150000) (hs : -100000 ≤ s ∧ s ≤ 100000) : xbl (wG O k s) ≤ 250000 ∧ xbl (wD O k s) ≤ 250000 := by
  have h1 : xbl 1 = 1 := xbl_one
  constructor
  · unfold wG
    have g := xbl_powle (if 0 ≤ k then O ^ k.natAbs else 1) (max 0 s).toNat
    split at g <;> split <;> omega
  · unfold wD
    have g := xbl_powle (if 0 ≤ k then 1 else O ^ k.natAbs) (max 0 (-s)).toNat
    split at g <;> split <;> omega
set_option maxHeartbeats 8000000 in
theorem x_cback (hR : cX w0 L Z S V w) (ht : kd t = 2) (ht2 : 30 ≤ t ∧ t ≤ 75) (hW : wSt S V t rx O tw F) (hr : 2 ≤ rx ∧ rx ≤ 36) (bM : xbl (V (t + 1)) ≤ 4096) (hM : V (t + 1) ≠ 0) (hp : 2 ≤ S t 0 ∧ S t 0 ≤ 4096) (hx : (xbl (V (t + 1)) : Int) = S t 0) (hng : S t 2 = 0 ∨ S t 2 = 1) (bE : -20479 ≤ S t 3 ∧ S t 3 ≤ 16384) (hn : 1 ≤ n ∧ n ≤ 4200) (hn2 : (tw : Int) * n ≤ 10100) (hs : S t 3 - S t 0 + (tw : Int) * (n - F) = s) : ∃ w', xRun (d + 7) 155 [Value.ref 113, Value.int (Int32.ofInt n), Value.int (Int32.ofInt (bb ev))] w (.inl (some (.int (Int32.ofInt (bb (cbk (V (t + 1)) (wG O (n - F) s) (wD O (n - F) s) (S t 2) (S t 0) ev)))))) w' ∧ ∃ S' V', cX w0 L Z S' V' w' ∧ (∀ b j, b ≠ 79 → S' b j = S b j) ∧ pwP S' ∧ (∀ i, i ≠ 80 → i ≠ 82 → i ≠ 84 → i ≠ 87 → i ≠ 89 → i ≠ 91 → i ≠ 117 → i ≠ 119 → i ≠ 121 → i ≠ 123 → V' i = V i) := by
  have key : ∀ lv, xld lv 0 = some (Value.ref 113) → xld lv 1 = some (Value.int (Int32.ofInt n)) → xld lv 2 = some (Value.int (Int32.ofInt (bb ev))) → xEv (d + 7) 155 0 lv [] w (fun o w' => o = .inl (some (.int (Int32.ofInt (bb (cbk (V (t + 1)) (wG O (n - F) s) (wD O (n - F) s) (S t 2) (S t 0) ev))))) ∧ ∃ S' V', cX w0 L Z S' V' w' ∧ (∀ b j, b ≠ 79 → S' b j = S b j) ∧ pwP S' ∧ (∀ i, i ≠ 80 → i ≠ 82 → i ≠ 84 → i ≠ 87 → i ≠ 89 → i ≠ 91 → i ≠ 117 → i ≠ 119 → i ≠ 121 → i ≠ 123 → V' i = V i)) := by
    intro lv l0 l1 l2
    obtain ⟨q1, q9, q10, q11, q12, q15, etw, hO2, bF, btF⟩ := hW
    have hO0 : 0 < O := by omega
    have hOr : O ≤ rx := by rw [etw]; exact Nat.le_mul_of_pos_left _ (Nat.two_pow_pos _)
    have bs : -100000 ≤ s ∧ s ≤ 100000 := by
      rw [Int.mul_sub] at hs
      have : 0 ≤ (tw : Int) * n := Int.mul_nonneg (by omega) (by omega)
      omega
    refine i_155_0 (x := 113) l0 ?_
    refine i_155_1 (x := Int32.ofInt n) l1 ?_
    refine i_155_2 (x := 113) l0 ?_
    refine i_155_3 (v := Value.int (Int32.ofInt (S 113 12))) (hR.k11 kq_113) rfl ?_
    rw [q12]
    refine i_155_6 (c := Int32.ofInt (n - F)) (o_sub n F) ?_
    have hobj := hR.k11 kq_113
    have hOb : xbl (O ^ (n - F).natAbs) ≤ 150000 := by
      have g1 := xbl_npow O (n - F).natAbs
      have g2 : xbl O ≤ 6 := xbl_le (by omega)
      have g3 : (n - F).natAbs * xbl O ≤ 24700 * 6 := Nat.mul_le_mul (by omega) g2
      omega
    obtain ⟨w, hrun, S3, V3, hR, r1, r2, rG, rD, r117, rQ, rR, r6⟩ := x_scale (d := d) (t := t) (O := O) (tw := tw) (k := n - F) (s := s) hR ht ht2 q1 q9 q11 q15 hO0 (xbl_le (by omega)) (by omega) hOb bM hs bs
    have hD0 := wD_pos (O := O) (k := n - F) (s := s) hO0
    have gD := wG_bl (O := O) (k := n - F) (s := s) hO0 hOb (by omega)
    obtain ⟨G, eG⟩ : ∃ G, wG O (n - F) s = G := ⟨_, rfl⟩
    obtain ⟨D, eD⟩ : ∃ D, wD O (n - F) s = D := ⟨_, rfl⟩
    rw [eG] at rG r117 rQ rR gD
    rw [eD] at rD rQ rR hD0 gD
    try rw [eG, eD]
    obtain ⟨Q, eQ⟩ : ∃ Q, V (t + 1) * G / D = Q := ⟨_, rfl⟩
    obtain ⟨R, eR⟩ : ∃ R, V (t + 1) * G % D = R := ⟨_, rfl⟩
    rw [eQ] at rQ
    rw [eR] at rR
    have hRD : R < D := by rw [← eR]; exact Nat.mod_lt _ hD0
    have bR : xbl R ≤ 250000 := Nat.le_trans (xbl_mono (Nat.le_of_lt hRD)) gD.2
    have bDR : xbl (D - R) ≤ 250000 := Nat.le_trans (xbl_mono (Nat.sub_le _ _)) gD.2
    have hQb : xbl Q ≤ 255000 := by rw [← eQ]; exact Nat.le_trans (xbl_mono (Nat.div_le_self _ _)) (Nat.le_trans (xbl_prod _ _) (by omega))
    have k9 : S3 113 9 = (t : Int) := (r1 113 9 (by decide)).trans q9
    have k12 : S3 113 12 = F := (r1 113 12 (by decide)).trans q12
    have k10 : S3 113 10 = (rx : Int) := (r1 113 10 (by decide)).trans q10
    have kt : ∀ j, S3 t j = S t j := fun j => r1 t j (by omega)
    have eM : V3 (t + 1) = V (t + 1) := r6 (t + 1) (by omega) (by omega) (by omega) (by omega) (by omega) (by omega) (by omega) (by omega) (by omega)
    refine i_155_7 hobj (Nat.le_of_ble_eq_true rfl) hrun ?_
    refine i_155_10 (x := 113) l0 ?_
    refine i_155_11 ?_
    have hobj := hR.k11 kq_113
    obtain ⟨w, hrun, V4, hR, r7⟩ := x_qup (d := d + 1) (t := t) (mode := 0) hR ht k9 (by rw [kt]; exact hng) ⟨by decide, by decide⟩ (by rw [rR]; omega)
    rw [rQ, rR, rD, kt] at hrun
    rw [show Int32.ofInt (0 : Int) = 0 from rfl] at hrun
    obtain ⟨up, eup⟩ : ∃ b, qUp 0 (S t 2) Q R D = b := ⟨_, rfl⟩
    rw [eup] at hrun
    have v89 : V4 89 = R := (r7 89 (by decide)).trans rR
    have v87 : V4 87 = Q := (r7 87 (by decide)).trans rQ
    have v119 : V4 119 = D := (r7 119 (by decide)).trans rD
    have v121 : V4 121 = G := (r7 121 (by decide)).trans rG
    have vM : V4 (t + 1) = V (t + 1) := (r7 (t + 1) (by omega)).trans eM
    refine i_155_12 hobj (Nat.le_of_ble_eq_true rfl) hrun ?_
    refine i_155_15 rfl ?_
    refine lgen1 (i := 3) (v := Value.int (Int32.ofInt (bb up))) (fun lv lg ls => ?_)
    replace l0 := lg 0 _ rfl rfl l0
    replace l1 := lg 1 _ rfl rfl l1
    replace l2 := lg 2 _ rfl rfl l2
    have l3 := ls
    refine i_155_16 (x := 113) l0 ?_
    refine i_155_17 (v := Value.ref 86) (hR.k11 kq_113) rfl ?_
    refine i_155_20 (v := Value.ref 89) (hR.k7 kq_86) rfl ?_
    refine i_155_23 rfl ?_
    refine lgen1 (i := 4) (v := Value.ref 89) (fun lv lg ls => ?_)
    replace l3 := lg 3 _ rfl rfl l3
    replace l0 := lg 0 _ rfl rfl l0
    replace l1 := lg 1 _ rfl rfl l1
    replace l2 := lg 2 _ rfl rfl l2
    have l4 := ls
    refine i_155_25 (x := Int32.ofInt (bb up)) l3 ?_
    refine i_155_26 (zb_f fun c0 => ?_) (zb_t fun c0 => ?_)
    · refine i_155_44 (x := Int32.ofInt (bb ev)) l2 ?_
      refine i_155_45 (zb_t fun c1 => ?_) (zb_f fun c1 => ?_)
      · refine i_155_66 ?_
        refine i_155_67 rfl ?_
        refine lgen1 (i := 5) (v := Value.int 0) (fun lv lg ls => ?_)
        replace l4 := lg 4 _ rfl rfl l4
        replace l3 := lg 3 _ rfl rfl l3
        replace l0 := lg 0 _ rfl rfl l0
        replace l1 := lg 1 _ rfl rfl l1
        replace l2 := lg 2 _ rfl rfl l2
        have l5 := ls
        refine i_155_69 (x := 113) l0 ?_
        refine i_155_70 (v := Value.ref 123) (hR.k11 kq_113) rfl ?_
        refine i_155_73 (x := 89) l4 ?_
        refine i_155_75 (x := 0) l5 ?_
        refine i_155_77 (fun _ => ?_) (fun c => absurd c (by decide))
        refine i_155_84 ?_
        obtain ⟨fs, hobj⟩ := hR.nat kq_123
        obtain ⟨w, hrun, hR⟩ := X_shift (d := d + 3) (h := 123) (h2 := 89) (u := R) (k := 1) hR kq_123 kq_89 (v89) (by decide) (by omega)
        rw [show Int32.ofInt (1 : Int) = 1 from rfl] at hrun
        refine i_155_85 hobj (Nat.le_of_ble_eq_true rfl) hrun ?_
        refine i_155_88 (x := 113) l0 ?_
        refine i_155_89 (v := Value.ref 123) (hR.k11 kq_113) rfl ?_
        refine i_155_92 (x := 113) l0 ?_
        refine i_155_93 (v := Value.ref 121) (hR.k11 kq_113) rfl ?_
        obtain ⟨fs, hobj⟩ := hR.nat kq_123
        have hrun := X_ord (d := d + 6) (h := 123) (h2 := 121) (u := shf R 1) (u2 := G) hR kq_123 kq_121 (uv_s) ((uv_n (by omega)).trans (v121))
        have hcmp := ncmp_3 (shf R 1) (G)
        have hcq := ncmp_3 (shf R 1) (G)
        refine i_155_96 hobj (Nat.le_of_ble_eq_true rfl) hrun ?_
        refine i_155_99 rfl ?_
        refine lgen1 (i := 6) (v := Value.int (Int32.ofInt (ncmp (shf R 1) G))) (fun lv lg ls => ?_)
        replace l5 := lg 5 _ rfl rfl l5
        replace l4 := lg 4 _ rfl rfl l4
        replace l3 := lg 3 _ rfl rfl l3
        replace l0 := lg 0 _ rfl rfl l0
        replace l1 := lg 1 _ rfl rfl l1
        replace l2 := lg 2 _ rfl rfl l2
        have l6 := ls
        refine i_155_101 (x := Int32.ofInt (ncmp (shf R 1) G)) l6 ?_
        refine i_155_103 (z_lt (a := ncmp (shf R 1) G) ⟨by omega, by omega⟩ fun c2 => ?_) (z_ge (a := ncmp (shf R 1) G) ⟨by omega, by omega⟩ fun c2 => ?_)
        · refine i_155_125 ?_
          refine i_155_126 ?_
          refine i_155_130 rfl ?_
          have er : cbk (V (t + 1)) G D (S t 2) (S t 0) ev = true := by
            have e1 : cUp (V (t + 1)) G D (S t 2) = false := by unfold cUp; rw [eQ, eR, eup]; assumption
            have e2 : cDi (V (t + 1)) G D (S t 2) = R := by unfold cDi; rw [e1, eR]; rfl
            have e3 : cCl (V (t + 1)) G D (S t 2) (S t 0) ev = false := by unfold cCl; rw [e1]; simp_all
            unfold cbk
            rw [e2, e3]
            show (decide (ncmp (shf R 1) G < 0) || (decide (ncmp (shf R 1) G = 0) && decide (V (t + 1) % 2 = 0))) = true
            try have hm := nb_1 ‹nbit (V (t + 1)) 0 = true›
            try have hm := nb_0 ‹nbit (V (t + 1)) 0 = false›
            rw [Bool.or_eq_true, Bool.and_eq_true, decide_eq_true_eq, decide_eq_true_eq, decide_eq_true_eq]
            omega
          rw [er]
          exact ⟨rfl, S3, _, hR, r1, r2, fun i i1 i2 i3 i4 i5 i6 i7 i8 i9 i10 => (uv_n (by omega)).trans ((r7 i i10).trans (r6 i i1 i2 i3 i4 i5 i6 i7 i8 i9))⟩
        · refine i_155_106 (x := Int32.ofInt (ncmp (shf R 1) G)) l6 ?_
          refine i_155_108 (z_ne (a := ncmp (shf R 1) G) ⟨by omega, by omega⟩ fun c3 => ?_) (z_eq (a := ncmp (shf R 1) G) ⟨by omega, by omega⟩ fun c3 => ?_)
          · refine i_155_129 ?_
            refine i_155_130 rfl ?_
            have er : cbk (V (t + 1)) G D (S t 2) (S t 0) ev = false := by
              have e1 : cUp (V (t + 1)) G D (S t 2) = false := by unfold cUp; rw [eQ, eR, eup]; assumption
              have e2 : cDi (V (t + 1)) G D (S t 2) = R := by unfold cDi; rw [e1, eR]; rfl
              have e3 : cCl (V (t + 1)) G D (S t 2) (S t 0) ev = false := by unfold cCl; rw [e1]; simp_all
              unfold cbk
              rw [e2, e3]
              show (decide (ncmp (shf R 1) G < 0) || (decide (ncmp (shf R 1) G = 0) && decide (V (t + 1) % 2 = 0))) = false
              try have hm := nb_1 ‹nbit (V (t + 1)) 0 = true›
              try have hm := nb_0 ‹nbit (V (t + 1)) 0 = false›
              refine Bool.eq_false_iff.mpr ?_
              rw [ne_eq, Bool.or_eq_true, Bool.and_eq_true, decide_eq_true_eq, decide_eq_true_eq, decide_eq_true_eq]
              omega
            rw [er]
            exact ⟨rfl, S3, _, hR, r1, r2, fun i i1 i2 i3 i4 i5 i6 i7 i8 i9 i10 => (uv_n (by omega)).trans ((r7 i i10).trans (r6 i i1 i2 i3 i4 i5 i6 i7 i8 i9))⟩
          · refine i_155_111 (x := 113) l0 ?_
            refine i_155_112 (v := Value.ref (S3 113 9).toNat) (hR.k11 kq_113) rfl ?_
            rw [show (S3 113 9).toNat = t by rw [k9]; rfl]
            refine i_155_115 (v := Value.ref (t + 1)) (hR.k2 ht) rfl ?_
            refine i_155_118 ?_
            obtain ⟨fs, hobj⟩ := hR.nat (kd_rg ht)
            have hrun := X_bit (d := d + 5) (h := t + 1) (u := V (t + 1)) (p := 0) hR (kd_rg ht) ((uv_n (by omega)).trans (vM)) ⟨by omega, by omega⟩
            rw [bfn_bit] at hrun
            refine i_155_119 hobj (Nat.le_of_ble_eq_true rfl) hrun ?_
            refine i_155_122 (zb_t fun c4 => ?_) (zb_f fun c4 => ?_)
            · refine i_155_129 ?_
              refine i_155_130 rfl ?_
              have er : cbk (V (t + 1)) G D (S t 2) (S t 0) ev = false := by
                have e1 : cUp (V (t + 1)) G D (S t 2) = false := by unfold cUp; rw [eQ, eR, eup]; assumption
                have e2 : cDi (V (t + 1)) G D (S t 2) = R := by unfold cDi; rw [e1, eR]; rfl
                have e3 : cCl (V (t + 1)) G D (S t 2) (S t 0) ev = false := by unfold cCl; rw [e1]; simp_all
                unfold cbk
                rw [e2, e3]
                show (decide (ncmp (shf R 1) G < 0) || (decide (ncmp (shf R 1) G = 0) && decide (V (t + 1) % 2 = 0))) = false
                try have hm := nb_1 ‹nbit (V (t + 1)) 0 = true›
                try have hm := nb_0 ‹nbit (V (t + 1)) 0 = false›
                refine Bool.eq_false_iff.mpr ?_
                rw [ne_eq, Bool.or_eq_true, Bool.and_eq_true, decide_eq_true_eq, decide_eq_true_eq, decide_eq_true_eq]
                omega
              rw [er]
              exact ⟨rfl, S3, _, hR, r1, r2, fun i i1 i2 i3 i4 i5 i6 i7 i8 i9 i10 => (uv_n (by omega)).trans ((r7 i i10).trans (r6 i i1 i2 i3 i4 i5 i6 i7 i8 i9))⟩
            · refine i_155_125 ?_
              refine i_155_126 ?_
              refine i_155_130 rfl ?_
              have er : cbk (V (t + 1)) G D (S t 2) (S t 0) ev = true := by
                have e1 : cUp (V (t + 1)) G D (S t 2) = false := by unfold cUp; rw [eQ, eR, eup]; assumption
                have e2 : cDi (V (t + 1)) G D (S t 2) = R := by unfold cDi; rw [e1, eR]; rfl
                have e3 : cCl (V (t + 1)) G D (S t 2) (S t 0) ev = false := by unfold cCl; rw [e1]; simp_all
                unfold cbk
                rw [e2, e3]
                show (decide (ncmp (shf R 1) G < 0) || (decide (ncmp (shf R 1) G = 0) && decide (V (t + 1) % 2 = 0))) = true
                try have hm := nb_1 ‹nbit (V (t + 1)) 0 = true›
                try have hm := nb_0 ‹nbit (V (t + 1)) 0 = false›
                rw [Bool.or_eq_true, Bool.and_eq_true, decide_eq_true_eq, decide_eq_true_eq, decide_eq_true_eq]
                omega
              rw [er]
              exact ⟨rfl, S3, _, hR, r1, r2, fun i i1 i2 i3 i4 i5 i6 i7 i8 i9 i10 => (uv_n (by omega)).trans ((r7 i i10).trans (r6 i i1 i2 i3 i4 i5 i6 i7 i8 i9))⟩
      · refine i_155_48 (x := Int32.ofInt (bb up)) l3 ?_
        refine i_155_49 (zb_t fun c5 => absurd c5 (by simp_all)) (zb_f fun c5 => ?_)
        refine i_155_52 (x := 113) l0 ?_
        refine i_155_53 (v := Value.ref (S3 113 9).toNat) (hR.k11 kq_113) rfl ?_
        rw [show (S3 113 9).toNat = t by rw [k9]; rfl]
        have hobj := hR.k2 ht
        have gM : V4 (t + 1) = V (t + 1) := vM
        have hrun := x_isp2 (d := d + 4) (t := t) hR ht (by rw [gM]; exact hM) (by rw [gM, kt]; exact hx) (by rw [kt]; exact hp)
        rw [gM, kt] at hrun
        refine i_155_56 hobj (Nat.le_of_ble_eq_true rfl) hrun ?_
        refine i_155_59 (zb_f fun c6 => ?_) (zb_t fun c6 => ?_)
        · refine i_155_66 ?_
          refine i_155_67 rfl ?_
          refine lgen1 (i := 5) (v := Value.int 0) (fun lv lg ls => ?_)
          replace l4 := lg 4 _ rfl rfl l4
          replace l3 := lg 3 _ rfl rfl l3
          replace l0 := lg 0 _ rfl rfl l0
          replace l1 := lg 1 _ rfl rfl l1
          replace l2 := lg 2 _ rfl rfl l2
          have l5 := ls
          refine i_155_69 (x := 113) l0 ?_
          refine i_155_70 (v := Value.ref 123) (hR.k11 kq_113) rfl ?_
          refine i_155_73 (x := 89) l4 ?_
          refine i_155_75 (x := 0) l5 ?_
          refine i_155_77 (fun _ => ?_) (fun c => absurd c (by decide))
          refine i_155_84 ?_
          obtain ⟨fs, hobj⟩ := hR.nat kq_123
          obtain ⟨w, hrun, hR⟩ := X_shift (d := d + 3) (h := 123) (h2 := 89) (u := R) (k := 1) hR kq_123 kq_89 (v89) (by decide) (by omega)
          rw [show Int32.ofInt (1 : Int) = 1 from rfl] at hrun
          refine i_155_85 hobj (Nat.le_of_ble_eq_true rfl) hrun ?_
          refine i_155_88 (x := 113) l0 ?_
          refine i_155_89 (v := Value.ref 123) (hR.k11 kq_113) rfl ?_
          refine i_155_92 (x := 113) l0 ?_
          refine i_155_93 (v := Value.ref 121) (hR.k11 kq_113) rfl ?_
          obtain ⟨fs, hobj⟩ := hR.nat kq_123
          have hrun := X_ord (d := d + 6) (h := 123) (h2 := 121) (u := shf R 1) (u2 := G) hR kq_123 kq_121 (uv_s) ((uv_n (by omega)).trans (v121))
          have hcmp := ncmp_3 (shf R 1) (G)
          have hcq := ncmp_3 (shf R 1) (G)
          refine i_155_96 hobj (Nat.le_of_ble_eq_true rfl) hrun ?_
          refine i_155_99 rfl ?_
          refine lgen1 (i := 6) (v := Value.int (Int32.ofInt (ncmp (shf R 1) G))) (fun lv lg ls => ?_)
          replace l5 := lg 5 _ rfl rfl l5
          replace l4 := lg 4 _ rfl rfl l4
          replace l3 := lg 3 _ rfl rfl l3
          replace l0 := lg 0 _ rfl rfl l0
          replace l1 := lg 1 _ rfl rfl l1
          replace l2 := lg 2 _ rfl rfl l2
          have l6 := ls
          refine i_155_101 (x := Int32.ofInt (ncmp (shf R 1) G)) l6 ?_
          refine i_155_103 (z_lt (a := ncmp (shf R 1) G) ⟨by omega, by omega⟩ fun c7 => ?_) (z_ge (a := ncmp (shf R 1) G) ⟨by omega, by omega⟩ fun c7 => ?_)
          · refine i_155_125 ?_
            refine i_155_126 ?_
            refine i_155_130 rfl ?_
            have er : cbk (V (t + 1)) G D (S t 2) (S t 0) ev = true := by
              have e1 : cUp (V (t + 1)) G D (S t 2) = false := by unfold cUp; rw [eQ, eR, eup]; assumption
              have e2 : cDi (V (t + 1)) G D (S t 2) = R := by unfold cDi; rw [e1, eR]; rfl
              have e3 : cCl (V (t + 1)) G D (S t 2) (S t 0) ev = false := by unfold cCl; rw [e1]; simp_all
              unfold cbk
              rw [e2, e3]
              show (decide (ncmp (shf R 1) G < 0) || (decide (ncmp (shf R 1) G = 0) && decide (V (t + 1) % 2 = 0))) = true
              try have hm := nb_1 ‹nbit (V (t + 1)) 0 = true›
              try have hm := nb_0 ‹nbit (V (t + 1)) 0 = false›
              rw [Bool.or_eq_true, Bool.and_eq_true, decide_eq_true_eq, decide_eq_true_eq, decide_eq_true_eq]
              omega
            rw [er]
            exact ⟨rfl, S3, _, hR, r1, r2, fun i i1 i2 i3 i4 i5 i6 i7 i8 i9 i10 => (uv_n (by omega)).trans ((r7 i i10).trans (r6 i i1 i2 i3 i4 i5 i6 i7 i8 i9))⟩
          · refine i_155_106 (x := Int32.ofInt (ncmp (shf R 1) G)) l6 ?_
            refine i_155_108 (z_ne (a := ncmp (shf R 1) G) ⟨by omega, by omega⟩ fun c8 => ?_) (z_eq (a := ncmp (shf R 1) G) ⟨by omega, by omega⟩ fun c8 => ?_)
            · refine i_155_129 ?_
              refine i_155_130 rfl ?_
              have er : cbk (V (t + 1)) G D (S t 2) (S t 0) ev = false := by
                have e1 : cUp (V (t + 1)) G D (S t 2) = false := by unfold cUp; rw [eQ, eR, eup]; assumption
                have e2 : cDi (V (t + 1)) G D (S t 2) = R := by unfold cDi; rw [e1, eR]; rfl
                have e3 : cCl (V (t + 1)) G D (S t 2) (S t 0) ev = false := by unfold cCl; rw [e1]; simp_all
                unfold cbk
                rw [e2, e3]
                show (decide (ncmp (shf R 1) G < 0) || (decide (ncmp (shf R 1) G = 0) && decide (V (t + 1) % 2 = 0))) = false
                try have hm := nb_1 ‹nbit (V (t + 1)) 0 = true›
                try have hm := nb_0 ‹nbit (V (t + 1)) 0 = false›
                refine Bool.eq_false_iff.mpr ?_
                rw [ne_eq, Bool.or_eq_true, Bool.and_eq_true, decide_eq_true_eq, decide_eq_true_eq, decide_eq_true_eq]
                omega
              rw [er]
              exact ⟨rfl, S3, _, hR, r1, r2, fun i i1 i2 i3 i4 i5 i6 i7 i8 i9 i10 => (uv_n (by omega)).trans ((r7 i i10).trans (r6 i i1 i2 i3 i4 i5 i6 i7 i8 i9))⟩
            · refine i_155_111 (x := 113) l0 ?_
              refine i_155_112 (v := Value.ref (S3 113 9).toNat) (hR.k11 kq_113) rfl ?_
              rw [show (S3 113 9).toNat = t by rw [k9]; rfl]
              refine i_155_115 (v := Value.ref (t + 1)) (hR.k2 ht) rfl ?_
              refine i_155_118 ?_
              obtain ⟨fs, hobj⟩ := hR.nat (kd_rg ht)
              have hrun := X_bit (d := d + 5) (h := t + 1) (u := V (t + 1)) (p := 0) hR (kd_rg ht) ((uv_n (by omega)).trans (vM)) ⟨by omega, by omega⟩
              rw [bfn_bit] at hrun
              refine i_155_119 hobj (Nat.le_of_ble_eq_true rfl) hrun ?_
              refine i_155_122 (zb_t fun c9 => ?_) (zb_f fun c9 => ?_)
              · refine i_155_129 ?_
                refine i_155_130 rfl ?_
                have er : cbk (V (t + 1)) G D (S t 2) (S t 0) ev = false := by
                  have e1 : cUp (V (t + 1)) G D (S t 2) = false := by unfold cUp; rw [eQ, eR, eup]; assumption
                  have e2 : cDi (V (t + 1)) G D (S t 2) = R := by unfold cDi; rw [e1, eR]; rfl
                  have e3 : cCl (V (t + 1)) G D (S t 2) (S t 0) ev = false := by unfold cCl; rw [e1]; simp_all
                  unfold cbk
                  rw [e2, e3]
                  show (decide (ncmp (shf R 1) G < 0) || (decide (ncmp (shf R 1) G = 0) && decide (V (t + 1) % 2 = 0))) = false
                  try have hm := nb_1 ‹nbit (V (t + 1)) 0 = true›
                  try have hm := nb_0 ‹nbit (V (t + 1)) 0 = false›
                  refine Bool.eq_false_iff.mpr ?_
                  rw [ne_eq, Bool.or_eq_true, Bool.and_eq_true, decide_eq_true_eq, decide_eq_true_eq, decide_eq_true_eq]
                  omega
                rw [er]
                exact ⟨rfl, S3, _, hR, r1, r2, fun i i1 i2 i3 i4 i5 i6 i7 i8 i9 i10 => (uv_n (by omega)).trans ((r7 i i10).trans (r6 i i1 i2 i3 i4 i5 i6 i7 i8 i9))⟩
              · refine i_155_125 ?_
                refine i_155_126 ?_
                refine i_155_130 rfl ?_
                have er : cbk (V (t + 1)) G D (S t 2) (S t 0) ev = true := by
                  have e1 : cUp (V (t + 1)) G D (S t 2) = false := by unfold cUp; rw [eQ, eR, eup]; assumption
                  have e2 : cDi (V (t + 1)) G D (S t 2) = R := by unfold cDi; rw [e1, eR]; rfl
                  have e3 : cCl (V (t + 1)) G D (S t 2) (S t 0) ev = false := by unfold cCl; rw [e1]; simp_all
                  unfold cbk
                  rw [e2, e3]
                  show (decide (ncmp (shf R 1) G < 0) || (decide (ncmp (shf R 1) G = 0) && decide (V (t + 1) % 2 = 0))) = true
                  try have hm := nb_1 ‹nbit (V (t + 1)) 0 = true›
                  try have hm := nb_0 ‹nbit (V (t + 1)) 0 = false›
                  rw [Bool.or_eq_true, Bool.and_eq_true, decide_eq_true_eq, decide_eq_true_eq, decide_eq_true_eq]
                  omega
                rw [er]
                exact ⟨rfl, S3, _, hR, r1, r2, fun i i1 i2 i3 i4 i5 i6 i7 i8 i9 i10 => (uv_n (by omega)).trans ((r7 i i10).trans (r6 i i1 i2 i3 i4 i5 i6 i7 i8 i9))⟩
        · refine i_155_62 ?_
          refine i_155_63 ?_
          refine i_155_67 rfl ?_
          refine lgen1 (i := 5) (v := Value.int 1) (fun lv lg ls => ?_)
          replace l4 := lg 4 _ rfl rfl l4
          replace l3 := lg 3 _ rfl rfl l3
          replace l0 := lg 0 _ rfl rfl l0
          replace l1 := lg 1 _ rfl rfl l1
          replace l2 := lg 2 _ rfl rfl l2
          have l5 := ls
          refine i_155_69 (x := 113) l0 ?_
          refine i_155_70 (v := Value.ref 123) (hR.k11 kq_113) rfl ?_
          refine i_155_73 (x := 89) l4 ?_
          refine i_155_75 (x := 1) l5 ?_
          refine i_155_77 (fun c => absurd c (by decide)) (fun _ => ?_)
          refine i_155_80 ?_
          refine i_155_81 ?_
          obtain ⟨fs, hobj⟩ := hR.nat kq_123
          obtain ⟨w, hrun, hR⟩ := X_shift (d := d + 3) (h := 123) (h2 := 89) (u := R) (k := 2) hR kq_123 kq_89 (v89) (by decide) (by omega)
          rw [show Int32.ofInt (2 : Int) = 2 from rfl] at hrun
          refine i_155_85 hobj (Nat.le_of_ble_eq_true rfl) hrun ?_
          refine i_155_88 (x := 113) l0 ?_
          refine i_155_89 (v := Value.ref 123) (hR.k11 kq_113) rfl ?_
          refine i_155_92 (x := 113) l0 ?_
          refine i_155_93 (v := Value.ref 121) (hR.k11 kq_113) rfl ?_
          obtain ⟨fs, hobj⟩ := hR.nat kq_123
          have hrun := X_ord (d := d + 6) (h := 123) (h2 := 121) (u := shf R 2) (u2 := G) hR kq_123 kq_121 (uv_s) ((uv_n (by omega)).trans (v121))
          have hcmp := ncmp_3 (shf R 2) (G)
          have hcq := ncmp_3 (shf R 2) (G)
          refine i_155_96 hobj (Nat.le_of_ble_eq_true rfl) hrun ?_
          refine i_155_99 rfl ?_
          refine lgen1 (i := 6) (v := Value.int (Int32.ofInt (ncmp (shf R 2) G))) (fun lv lg ls => ?_)
          replace l5 := lg 5 _ rfl rfl l5
          replace l4 := lg 4 _ rfl rfl l4
          replace l3 := lg 3 _ rfl rfl l3
          replace l0 := lg 0 _ rfl rfl l0
          replace l1 := lg 1 _ rfl rfl l1
          replace l2 := lg 2 _ rfl rfl l2
          have l6 := ls
          refine i_155_101 (x := Int32.ofInt (ncmp (shf R 2) G)) l6 ?_
          refine i_155_103 (z_lt (a := ncmp (shf R 2) G) ⟨by omega, by omega⟩ fun c10 => ?_) (z_ge (a := ncmp (shf R 2) G) ⟨by omega, by omega⟩ fun c10 => ?_)
          · refine i_155_125 ?_
            refine i_155_126 ?_
            refine i_155_130 rfl ?_
            have er : cbk (V (t + 1)) G D (S t 2) (S t 0) ev = true := by
              have e1 : cUp (V (t + 1)) G D (S t 2) = false := by unfold cUp; rw [eQ, eR, eup]; assumption
              have e2 : cDi (V (t + 1)) G D (S t 2) = R := by unfold cDi; rw [e1, eR]; rfl
              have e3 : cCl (V (t + 1)) G D (S t 2) (S t 0) ev = true := by unfold cCl; rw [e1]; simp_all
              unfold cbk
              rw [e2, e3]
              show (decide (ncmp (shf R 2) G < 0) || (decide (ncmp (shf R 2) G = 0) && decide (V (t + 1) % 2 = 0))) = true
              try have hm := nb_1 ‹nbit (V (t + 1)) 0 = true›
              try have hm := nb_0 ‹nbit (V (t + 1)) 0 = false›
              rw [Bool.or_eq_true, Bool.and_eq_true, decide_eq_true_eq, decide_eq_true_eq, decide_eq_true_eq]
              omega
            rw [er]
            exact ⟨rfl, S3, _, hR, r1, r2, fun i i1 i2 i3 i4 i5 i6 i7 i8 i9 i10 => (uv_n (by omega)).trans ((r7 i i10).trans (r6 i i1 i2 i3 i4 i5 i6 i7 i8 i9))⟩
          · refine i_155_106 (x := Int32.ofInt (ncmp (shf R 2) G)) l6 ?_
            refine i_155_108 (z_ne (a := ncmp (shf R 2) G) ⟨by omega, by omega⟩ fun c11 => ?_) (z_eq (a := ncmp (shf R 2) G) ⟨by omega, by omega⟩ fun c11 => ?_)
            · refine i_155_129 ?_
              refine i_155_130 rfl ?_
              have er : cbk (V (t + 1)) G D (S t 2) (S t 0) ev = false := by
                have e1 : cUp (V (t + 1)) G D (S t 2) = false := by unfold cUp; rw [eQ, eR, eup]; assumption
                have e2 : cDi (V (t + 1)) G D (S t 2) = R := by unfold cDi; rw [e1, eR]; rfl
                have e3 : cCl (V (t + 1)) G D (S t 2) (S t 0) ev = true := by unfold cCl; rw [e1]; simp_all
                unfold cbk
                rw [e2, e3]
                show (decide (ncmp (shf R 2) G < 0) || (decide (ncmp (shf R 2) G = 0) && decide (V (t + 1) % 2 = 0))) = false
                try have hm := nb_1 ‹nbit (V (t + 1)) 0 = true›
                try have hm := nb_0 ‹nbit (V (t + 1)) 0 = false›
                refine Bool.eq_false_iff.mpr ?_
                rw [ne_eq, Bool.or_eq_true, Bool.and_eq_true, decide_eq_true_eq, decide_eq_true_eq, decide_eq_true_eq]
                omega
              rw [er]
              exact ⟨rfl, S3, _, hR, r1, r2, fun i i1 i2 i3 i4 i5 i6 i7 i8 i9 i10 => (uv_n (by omega)).trans ((r7 i i10).trans (r6 i i1 i2 i3 i4 i5 i6 i7 i8 i9))⟩
            · refine i_155_111 (x := 113) l0 ?_
              refine i_155_112 (v := Value.ref (S3 113 9).toNat) (hR.k11 kq_113) rfl ?_
              rw [show (S3 113 9).toNat = t by rw [k9]; rfl]
              refine i_155_115 (v := Value.ref (t + 1)) (hR.k2 ht) rfl ?_
              refine i_155_118 ?_
              obtain ⟨fs, hobj⟩ := hR.nat (kd_rg ht)
              have hrun := X_bit (d := d + 5) (h := t + 1) (u := V (t + 1)) (p := 0) hR (kd_rg ht) ((uv_n (by omega)).trans (vM)) ⟨by omega, by omega⟩
              rw [bfn_bit] at hrun
              refine i_155_119 hobj (Nat.le_of_ble_eq_true rfl) hrun ?_
              refine i_155_122 (zb_t fun c12 => ?_) (zb_f fun c12 => ?_)
              · refine i_155_129 ?_
                refine i_155_130 rfl ?_
                have er : cbk (V (t + 1)) G D (S t 2) (S t 0) ev = false := by
                  have e1 : cUp (V (t + 1)) G D (S t 2) = false := by unfold cUp; rw [eQ, eR, eup]; assumption
                  have e2 : cDi (V (t + 1)) G D (S t 2) = R := by unfold cDi; rw [e1, eR]; rfl
                  have e3 : cCl (V (t + 1)) G D (S t 2) (S t 0) ev = true := by unfold cCl; rw [e1]; simp_all
                  unfold cbk
                  rw [e2, e3]
                  show (decide (ncmp (shf R 2) G < 0) || (decide (ncmp (shf R 2) G = 0) && decide (V (t + 1) % 2 = 0))) = false
                  try have hm := nb_1 ‹nbit (V (t + 1)) 0 = true›
                  try have hm := nb_0 ‹nbit (V (t + 1)) 0 = false›
                  refine Bool.eq_false_iff.mpr ?_
                  rw [ne_eq, Bool.or_eq_true, Bool.and_eq_true, decide_eq_true_eq, decide_eq_true_eq, decide_eq_true_eq]
                  omega
                rw [er]
                exact ⟨rfl, S3, _, hR, r1, r2, fun i i1 i2 i3 i4 i5 i6 i7 i8 i9 i10 => (uv_n (by omega)).trans ((r7 i i10).trans (r6 i i1 i2 i3 i4 i5 i6 i7 i8 i9))⟩
              · refine i_155_125 ?_
                refine i_155_126 ?_
                refine i_155_130 rfl ?_
                have er : cbk (V (t + 1)) G D (S t 2) (S t 0) ev = true := by
                  have e1 : cUp (V (t + 1)) G D (S t 2) = false := by unfold cUp; rw [eQ, eR, eup]; assumption
                  have e2 : cDi (V (t + 1)) G D (S t 2) = R := by unfold cDi; rw [e1, eR]; rfl
                  have e3 : cCl (V (t + 1)) G D (S t 2) (S t 0) ev = true := by unfold cCl; rw [e1]; simp_all
                  unfold cbk
                  rw [e2, e3]
                  show (decide (ncmp (shf R 2) G < 0) || (decide (ncmp (shf R 2) G = 0) && decide (V (t + 1) % 2 = 0))) = true
                  try have hm := nb_1 ‹nbit (V (t + 1)) 0 = true›
                  try have hm := nb_0 ‹nbit (V (t + 1)) 0 = false›
                  rw [Bool.or_eq_true, Bool.and_eq_true, decide_eq_true_eq, decide_eq_true_eq, decide_eq_true_eq]
                  omega
                rw [er]
                exact ⟨rfl, S3, _, hR, r1, r2, fun i i1 i2 i3 i4 i5 i6 i7 i8 i9 i10 => (uv_n (by omega)).trans ((r7 i i10).trans (r6 i i1 i2 i3 i4 i5 i6 i7 i8 i9))⟩
    · refine i_155_29 (x := 113) l0 ?_
      refine i_155_30 (v := Value.ref 119) (hR.k11 kq_113) rfl ?_
      refine i_155_33 (x := 89) l4 ?_
      obtain ⟨fs, hobj⟩ := hR.nat kq_119
      obtain ⟨w, hrun, hR⟩ := X_sub (d := d + 5) (h := 119) (h2 := 89) (u := D) (u2 := R) hR kq_119 kq_89 (by decide) (v119) (v89) (by omega)
      refine i_155_35 hobj (Nat.le_of_ble_eq_true rfl) hrun ?_
      refine i_155_38 (x := 113) l0 ?_
      refine i_155_39 (v := Value.ref 119) (hR.k11 kq_113) rfl ?_
      refine i_155_42 rfl ?_
      refine lgen1 (i := 4) (v := Value.ref 119) (fun lv lg ls => ?_)
      replace l3 := lg 3 _ rfl rfl l3
      replace l0 := lg 0 _ rfl rfl l0
      replace l1 := lg 1 _ rfl rfl l1
      replace l2 := lg 2 _ rfl rfl l2
      have l4 := ls
      refine i_155_44 (x := Int32.ofInt (bb ev)) l2 ?_
      refine i_155_45 (zb_t fun c13 => ?_) (zb_f fun c13 => ?_)
      · refine i_155_66 ?_
        refine i_155_67 rfl ?_
        refine lgen1 (i := 5) (v := Value.int 0) (fun lv lg ls => ?_)
        replace l4 := lg 4 _ rfl rfl l4
        replace l3 := lg 3 _ rfl rfl l3
        replace l0 := lg 0 _ rfl rfl l0
        replace l1 := lg 1 _ rfl rfl l1
        replace l2 := lg 2 _ rfl rfl l2
        have l5 := ls
        refine i_155_69 (x := 113) l0 ?_
        refine i_155_70 (v := Value.ref 123) (hR.k11 kq_113) rfl ?_
        refine i_155_73 (x := 119) l4 ?_
        refine i_155_75 (x := 0) l5 ?_
        refine i_155_77 (fun _ => ?_) (fun c => absurd c (by decide))
        refine i_155_84 ?_
        obtain ⟨fs, hobj⟩ := hR.nat kq_123
        obtain ⟨w, hrun, hR⟩ := X_shift (d := d + 3) (h := 123) (h2 := 119) (u := D - R) (k := 1) hR kq_123 kq_119 (uv_s) (by decide) (by omega)
        rw [show Int32.ofInt (1 : Int) = 1 from rfl] at hrun
        refine i_155_85 hobj (Nat.le_of_ble_eq_true rfl) hrun ?_
        refine i_155_88 (x := 113) l0 ?_
        refine i_155_89 (v := Value.ref 123) (hR.k11 kq_113) rfl ?_
        refine i_155_92 (x := 113) l0 ?_
        refine i_155_93 (v := Value.ref 121) (hR.k11 kq_113) rfl ?_
        obtain ⟨fs, hobj⟩ := hR.nat kq_123
        have hrun := X_ord (d := d + 6) (h := 123) (h2 := 121) (u := shf (D - R) 1) (u2 := G) hR kq_123 kq_121 (uv_s) ((uv_n (by omega)).trans ((uv_n (by omega)).trans (v121)))
        have hcmp := ncmp_3 (shf (D - R) 1) (G)
        have hcq := ncmp_3 (shf (D - R) 1) (G)
        refine i_155_96 hobj (Nat.le_of_ble_eq_true rfl) hrun ?_
        refine i_155_99 rfl ?_
        refine lgen1 (i := 6) (v := Value.int (Int32.ofInt (ncmp (shf (D - R) 1) G))) (fun lv lg ls => ?_)
        replace l5 := lg 5 _ rfl rfl l5
        replace l4 := lg 4 _ rfl rfl l4
        replace l3 := lg 3 _ rfl rfl l3
        replace l0 := lg 0 _ rfl rfl l0
        replace l1 := lg 1 _ rfl rfl l1
        replace l2 := lg 2 _ rfl rfl l2
        have l6 := ls
        refine i_155_101 (x := Int32.ofInt (ncmp (shf (D - R) 1) G)) l6 ?_
        refine i_155_103 (z_lt (a := ncmp (shf (D - R) 1) G) ⟨by omega, by omega⟩ fun c14 => ?_) (z_ge (a := ncmp (shf (D - R) 1) G) ⟨by omega, by omega⟩ fun c14 => ?_)
        · refine i_155_125 ?_
          refine i_155_126 ?_
          refine i_155_130 rfl ?_
          have er : cbk (V (t + 1)) G D (S t 2) (S t 0) ev = true := by
            have e1 : cUp (V (t + 1)) G D (S t 2) = true := by unfold cUp; rw [eQ, eR, eup]; assumption
            have e2 : cDi (V (t + 1)) G D (S t 2) = D - R := by unfold cDi; rw [e1, eR]; rfl
            have e3 : cCl (V (t + 1)) G D (S t 2) (S t 0) ev = false := by unfold cCl; rw [e1]; simp_all
            unfold cbk
            rw [e2, e3]
            show (decide (ncmp (shf (D - R) 1) G < 0) || (decide (ncmp (shf (D - R) 1) G = 0) && decide (V (t + 1) % 2 = 0))) = true
            try have hm := nb_1 ‹nbit (V (t + 1)) 0 = true›
            try have hm := nb_0 ‹nbit (V (t + 1)) 0 = false›
            rw [Bool.or_eq_true, Bool.and_eq_true, decide_eq_true_eq, decide_eq_true_eq, decide_eq_true_eq]
            omega
          rw [er]
          exact ⟨rfl, S3, _, hR, r1, r2, fun i i1 i2 i3 i4 i5 i6 i7 i8 i9 i10 => (uv_n (by omega)).trans ((uv_n (by omega)).trans ((r7 i i10).trans (r6 i i1 i2 i3 i4 i5 i6 i7 i8 i9)))⟩
        · refine i_155_106 (x := Int32.ofInt (ncmp (shf (D - R) 1) G)) l6 ?_
          refine i_155_108 (z_ne (a := ncmp (shf (D - R) 1) G) ⟨by omega, by omega⟩ fun c15 => ?_) (z_eq (a := ncmp (shf (D - R) 1) G) ⟨by omega, by omega⟩ fun c15 => ?_)
          · refine i_155_129 ?_
            refine i_155_130 rfl ?_
            have er : cbk (V (t + 1)) G D (S t 2) (S t 0) ev = false := by
              have e1 : cUp (V (t + 1)) G D (S t 2) = true := by unfold cUp; rw [eQ, eR, eup]; assumption
              have e2 : cDi (V (t + 1)) G D (S t 2) = D - R := by unfold cDi; rw [e1, eR]; rfl
              have e3 : cCl (V (t + 1)) G D (S t 2) (S t 0) ev = false := by unfold cCl; rw [e1]; simp_all
              unfold cbk
              rw [e2, e3]
              show (decide (ncmp (shf (D - R) 1) G < 0) || (decide (ncmp (shf (D - R) 1) G = 0) && decide (V (t + 1) % 2 = 0))) = false
              try have hm := nb_1 ‹nbit (V (t + 1)) 0 = true›
              try have hm := nb_0 ‹nbit (V (t + 1)) 0 = false›
              refine Bool.eq_false_iff.mpr ?_
              rw [ne_eq, Bool.or_eq_true, Bool.and_eq_true, decide_eq_true_eq, decide_eq_true_eq, decide_eq_true_eq]
              omega
            rw [er]
            exact ⟨rfl, S3, _, hR, r1, r2, fun i i1 i2 i3 i4 i5 i6 i7 i8 i9 i10 => (uv_n (by omega)).trans ((uv_n (by omega)).trans ((r7 i i10).trans (r6 i i1 i2 i3 i4 i5 i6 i7 i8 i9)))⟩
          · refine i_155_111 (x := 113) l0 ?_
            refine i_155_112 (v := Value.ref (S3 113 9).toNat) (hR.k11 kq_113) rfl ?_
            rw [show (S3 113 9).toNat = t by rw [k9]; rfl]
            refine i_155_115 (v := Value.ref (t + 1)) (hR.k2 ht) rfl ?_
            refine i_155_118 ?_
            obtain ⟨fs, hobj⟩ := hR.nat (kd_rg ht)
            have hrun := X_bit (d := d + 5) (h := t + 1) (u := V (t + 1)) (p := 0) hR (kd_rg ht) ((uv_n (by omega)).trans ((uv_n (by omega)).trans (vM))) ⟨by omega, by omega⟩
            rw [bfn_bit] at hrun
            refine i_155_119 hobj (Nat.le_of_ble_eq_true rfl) hrun ?_
            refine i_155_122 (zb_t fun c16 => ?_) (zb_f fun c16 => ?_)
            · refine i_155_129 ?_
              refine i_155_130 rfl ?_
              have er : cbk (V (t + 1)) G D (S t 2) (S t 0) ev = false := by
                have e1 : cUp (V (t + 1)) G D (S t 2) = true := by unfold cUp; rw [eQ, eR, eup]; assumption
                have e2 : cDi (V (t + 1)) G D (S t 2) = D - R := by unfold cDi; rw [e1, eR]; rfl
                have e3 : cCl (V (t + 1)) G D (S t 2) (S t 0) ev = false := by unfold cCl; rw [e1]; simp_all
                unfold cbk
                rw [e2, e3]
                show (decide (ncmp (shf (D - R) 1) G < 0) || (decide (ncmp (shf (D - R) 1) G = 0) && decide (V (t + 1) % 2 = 0))) = false
                try have hm := nb_1 ‹nbit (V (t + 1)) 0 = true›
                try have hm := nb_0 ‹nbit (V (t + 1)) 0 = false›
                refine Bool.eq_false_iff.mpr ?_
                rw [ne_eq, Bool.or_eq_true, Bool.and_eq_true, decide_eq_true_eq, decide_eq_true_eq, decide_eq_true_eq]
                omega
              rw [er]
              exact ⟨rfl, S3, _, hR, r1, r2, fun i i1 i2 i3 i4 i5 i6 i7 i8 i9 i10 => (uv_n (by omega)).trans ((uv_n (by omega)).trans ((r7 i i10).trans (r6 i i1 i2 i3 i4 i5 i6 i7 i8 i9)))⟩
            · refine i_155_125 ?_
              refine i_155_126 ?_
              refine i_155_130 rfl ?_
              have er : cbk (V (t + 1)) G D (S t 2) (S t 0) ev = true := by
                have e1 : cUp (V (t + 1)) G D (S t 2) = true := by unfold cUp; rw [eQ, eR, eup]; assumption
                have e2 : cDi (V (t + 1)) G D (S t 2) = D - R := by unfold cDi; rw [e1, eR]; rfl
                have e3 : cCl (V (t + 1)) G D (S t 2) (S t 0) ev = false := by unfold cCl; rw [e1]; simp_all
                unfold cbk
                rw [e2, e3]
                show (decide (ncmp (shf (D - R) 1) G < 0) || (decide (ncmp (shf (D - R) 1) G = 0) && decide (V (t + 1) % 2 = 0))) = true
                try have hm := nb_1 ‹nbit (V (t + 1)) 0 = true›
                try have hm := nb_0 ‹nbit (V (t + 1)) 0 = false›
                rw [Bool.or_eq_true, Bool.and_eq_true, decide_eq_true_eq, decide_eq_true_eq, decide_eq_true_eq]
                omega
              rw [er]
              exact ⟨rfl, S3, _, hR, r1, r2, fun i i1 i2 i3 i4 i5 i6 i7 i8 i9 i10 => (uv_n (by omega)).trans ((uv_n (by omega)).trans ((r7 i i10).trans (r6 i i1 i2 i3 i4 i5 i6 i7 i8 i9)))⟩
      · refine i_155_48 (x := Int32.ofInt (bb up)) l3 ?_
        refine i_155_49 (zb_t fun c17 => ?_) (zb_f fun c17 => absurd c17 (by simp_all))
        refine i_155_66 ?_
        refine i_155_67 rfl ?_
        refine lgen1 (i := 5) (v := Value.int 0) (fun lv lg ls => ?_)
        replace l4 := lg 4 _ rfl rfl l4
        replace l3 := lg 3 _ rfl rfl l3
        replace l0 := lg 0 _ rfl rfl l0
        replace l1 := lg 1 _ rfl rfl l1
        replace l2 := lg 2 _ rfl rfl l2
        have l5 := ls
        refine i_155_69 (x := 113) l0 ?_
        refine i_155_70 (v := Value.ref 123) (hR.k11 kq_113) rfl ?_
        refine i_155_73 (x := 119) l4 ?_
        refine i_155_75 (x := 0) l5 ?_
        refine i_155_77 (fun _ => ?_) (fun c => absurd c (by decide))
        refine i_155_84 ?_
        obtain ⟨fs, hobj⟩ := hR.nat kq_123
        obtain ⟨w, hrun, hR⟩ := X_shift (d := d + 3) (h := 123) (h2 := 119) (u := D - R) (k := 1) hR kq_123 kq_119 (uv_s) (by decide) (by omega)
        rw [show Int32.ofInt (1 : Int) = 1 from rfl] at hrun
        refine i_155_85 hobj (Nat.le_of_ble_eq_true rfl) hrun ?_
        refine i_155_88 (x := 113) l0 ?_
        refine i_155_89 (v := Value.ref 123) (hR.k11 kq_113) rfl ?_
        refine i_155_92 (x := 113) l0 ?_
        refine i_155_93 (v := Value.ref 121) (hR.k11 kq_113) rfl ?_
        obtain ⟨fs, hobj⟩ := hR.nat kq_123
        have hrun := X_ord (d := d + 6) (h := 123) (h2 := 121) (u := shf (D - R) 1) (u2 := G) hR kq_123 kq_121 (uv_s) ((uv_n (by omega)).trans ((uv_n (by omega)).trans (v121)))
        have hcmp := ncmp_3 (shf (D - R) 1) (G)
        have hcq := ncmp_3 (shf (D - R) 1) (G)
        refine i_155_96 hobj (Nat.le_of_ble_eq_true rfl) hrun ?_
        refine i_155_99 rfl ?_
        refine lgen1 (i := 6) (v := Value.int (Int32.ofInt (ncmp (shf (D - R) 1) G))) (fun lv lg ls => ?_)
        replace l5 := lg 5 _ rfl rfl l5
        replace l4 := lg 4 _ rfl rfl l4
        replace l3 := lg 3 _ rfl rfl l3
        replace l0 := lg 0 _ rfl rfl l0
        replace l1 := lg 1 _ rfl rfl l1
        replace l2 := lg 2 _ rfl rfl l2
        have l6 := ls
        refine i_155_101 (x := Int32.ofInt (ncmp (shf (D - R) 1) G)) l6 ?_
        refine i_155_103 (z_lt (a := ncmp (shf (D - R) 1) G) ⟨by omega, by omega⟩ fun c18 => ?_) (z_ge (a := ncmp (shf (D - R) 1) G) ⟨by omega, by omega⟩ fun c18 => ?_)
        · refine i_155_125 ?_
          refine i_155_126 ?_
          refine i_155_130 rfl ?_
          have er : cbk (V (t + 1)) G D (S t 2) (S t 0) ev = true := by
            have e1 : cUp (V (t + 1)) G D (S t 2) = true := by unfold cUp; rw [eQ, eR, eup]; assumption
            have e2 : cDi (V (t + 1)) G D (S t 2) = D - R := by unfold cDi; rw [e1, eR]; rfl
            have e3 : cCl (V (t + 1)) G D (S t 2) (S t 0) ev = false := by unfold cCl; rw [e1]; simp_all
            unfold cbk
            rw [e2, e3]
            show (decide (ncmp (shf (D - R) 1) G < 0) || (decide (ncmp (shf (D - R) 1) G = 0) && decide (V (t + 1) % 2 = 0))) = true
            try have hm := nb_1 ‹nbit (V (t + 1)) 0 = true›
            try have hm := nb_0 ‹nbit (V (t + 1)) 0 = false›
            rw [Bool.or_eq_true, Bool.and_eq_true, decide_eq_true_eq, decide_eq_true_eq, decide_eq_true_eq]
            omega
          rw [er]
          exact ⟨rfl, S3, _, hR, r1, r2, fun i i1 i2 i3 i4 i5 i6 i7 i8 i9 i10 => (uv_n (by omega)).trans ((uv_n (by omega)).trans ((r7 i i10).trans (r6 i i1 i2 i3 i4 i5 i6 i7 i8 i9)))⟩
        · refine i_155_106 (x := Int32.ofInt (ncmp (shf (D - R) 1) G)) l6 ?_
          refine i_155_108 (z_ne (a := ncmp (shf (D - R) 1) G) ⟨by omega, by omega⟩ fun c19 => ?_) (z_eq (a := ncmp (shf (D - R) 1) G) ⟨by omega, by omega⟩ fun c19 => ?_)
          · refine i_155_129 ?_
            refine i_155_130 rfl ?_
            have er : cbk (V (t + 1)) G D (S t 2) (S t 0) ev = false := by
              have e1 : cUp (V (t + 1)) G D (S t 2) = true := by unfold cUp; rw [eQ, eR, eup]; assumption
              have e2 : cDi (V (t + 1)) G D (S t 2) = D - R := by unfold cDi; rw [e1, eR]; rfl
              have e3 : cCl (V (t + 1)) G D (S t 2) (S t 0) ev = false := by unfold cCl; rw [e1]; simp_all
              unfold cbk
              rw [e2, e3]
              show (decide (ncmp (shf (D - R) 1) G < 0) || (decide (ncmp (shf (D - R) 1) G = 0) && decide (V (t + 1) % 2 = 0))) = false
              try have hm := nb_1 ‹nbit (V (t + 1)) 0 = true›
              try have hm := nb_0 ‹nbit (V (t + 1)) 0 = false›
              refine Bool.eq_false_iff.mpr ?_
              rw [ne_eq, Bool.or_eq_true, Bool.and_eq_true, decide_eq_true_eq, decide_eq_true_eq, decide_eq_true_eq]
              omega
            rw [er]
            exact ⟨rfl, S3, _, hR, r1, r2, fun i i1 i2 i3 i4 i5 i6 i7 i8 i9 i10 => (uv_n (by omega)).trans ((uv_n (by omega)).trans ((r7 i i10).trans (r6 i i1 i2 i3 i4 i5 i6 i7 i8 i9)))⟩
          · refine i_155_111 (x := 113) l0 ?_
            refine i_155_112 (v := Value.ref (S3 113 9).toNat) (hR.k11 kq_113) rfl ?_
            rw [show (S3 113 9).toNat = t by rw [k9]; rfl]
            refine i_155_115 (v := Value.ref (t + 1)) (hR.k2 ht) rfl ?_
            refine i_155_118 ?_
            obtain ⟨fs, hobj⟩ := hR.nat (kd_rg ht)
            have hrun := X_bit (d := d + 5) (h := t + 1) (u := V (t + 1)) (p := 0) hR (kd_rg ht) ((uv_n (by omega)).trans ((uv_n (by omega)).trans (vM))) ⟨by omega, by omega⟩
            rw [bfn_bit] at hrun
            refine i_155_119 hobj (Nat.le_of_ble_eq_true rfl) hrun ?_
            refine i_155_122 (zb_t fun c20 => ?_) (zb_f fun c20 => ?_)
            · refine i_155_129 ?_
              refine i_155_130 rfl ?_
              have er : cbk (V (t + 1)) G D (S t 2) (S t 0) ev = false := by
                have e1 : cUp (V (t + 1)) G D (S t 2) = true := by unfold cUp; rw [eQ, eR, eup]; assumption
                have e2 : cDi (V (t + 1)) G D (S t 2) = D - R := by unfold cDi; rw [e1, eR]; rfl
                have e3 : cCl (V (t + 1)) G D (S t 2) (S t 0) ev = false := by unfold cCl; rw [e1]; simp_all
                unfold cbk
                rw [e2, e3]
                show (decide (ncmp (shf (D - R) 1) G < 0) || (decide (ncmp (shf (D - R) 1) G = 0) && decide (V (t + 1) % 2 = 0))) = false
                try have hm := nb_1 ‹nbit (V (t + 1)) 0 = true›
                try have hm := nb_0 ‹nbit (V (t + 1)) 0 = false›
                refine Bool.eq_false_iff.mpr ?_
                rw [ne_eq, Bool.or_eq_true, Bool.and_eq_true, decide_eq_true_eq, decide_eq_true_eq, decide_eq_true_eq]
                omega
              rw [er]
              exact ⟨rfl, S3, _, hR, r1, r2, fun i i1 i2 i3 i4 i5 i6 i7 i8 i9 i10 => (uv_n (by omega)).trans ((uv_n (by omega)).trans ((r7 i i10).trans (r6 i i1 i2 i3 i4 i5 i6 i7 i8 i9)))⟩
            · refine i_155_125 ?_
              refine i_155_126 ?_
              refine i_155_130 rfl ?_
              have er : cbk (V (t + 1)) G D (S t 2) (S t 0) ev = true := by
                have e1 : cUp (V (t + 1)) G D (S t 2) = true := by unfold cUp; rw [eQ, eR, eup]; assumption
                have e2 : cDi (V (t + 1)) G D (S t 2) = D - R := by unfold cDi; rw [e1, eR]; rfl
                have e3 : cCl (V (t + 1)) G D (S t 2) (S t 0) ev = false := by unfold cCl; rw [e1]; simp_all
                unfold cbk
                rw [e2, e3]
                show (decide (ncmp (shf (D - R) 1) G < 0) || (decide (ncmp (shf (D - R) 1) G = 0) && decide (V (t + 1) % 2 = 0))) = true
                try have hm := nb_1 ‹nbit (V (t + 1)) 0 = true›
                try have hm := nb_0 ‹nbit (V (t + 1)) 0 = false›
                rw [Bool.or_eq_true, Bool.and_eq_true, decide_eq_true_eq, decide_eq_true_eq, decide_eq_true_eq]
                omega
              rw [er]
              exact ⟨rfl, S3, _, hR, r1, r2, fun i i1 i2 i3 i4 i5 i6 i7 i8 i9 i10 => (uv_n (by omega)).trans ((uv_n (by omega)).trans ((r7 i i10).trans (r6 i i1 i2 i3 i4 i5 i6 i7 i8 i9)))⟩
  obtain ⟨o, w', h1, rfl, h2⟩ := (key (lv_args 0 [Value.ref 113, Value.int (Int32.ofInt n), Value.int (Int32.ofInt (bb ev))]) rfl rfl rfl).run
  exact ⟨w', h1, h2⟩
end
