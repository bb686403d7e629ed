/-! writing of the reference: parts, goesUpBy -/
/-- goesUpBy of the reference -/
def gB (left : Bool) (sg mode hv : Int) (v : Nat) : Bool := left && (if mode = 0 then decide (0 < hv) || (decide (hv = 0) && nbit v 0) else decide (mode = 4) || (decide (mode = 2) && decide (sg = 0)) || (decide (mode = 3) && decide (sg = 1)))
theorem bN_bl {B K : Nat} {k : Int} (h : xbl (B ^ k.natAbs) ≤ K) (h1 : 1 ≤ K) : xbl (bNu B k) ≤ K ∧ xbl (bDe B k) ≤ K := by
  unfold bNu bDe
  by_cases g : 0 ≤ k
  · rw [if_pos g, if_pos g, xbl_one]; exact ⟨h, h1⟩
  · rw [if_neg g, if_neg g, xbl_one]; exact ⟨h1, h⟩
section
variable {d rx : Nat} {w0 w : xW} {S : Nat → Nat → Int} {V : Nat → Nat} {r s e : Int} {N0 D0 : Nat} {lv : xLv} {Q : Option Value ⊕ Nat → xW → Prop}
set_option maxHeartbeats 4000000 in
theorem pt_T (hR : mR w0 S V w) (he : -30000 ≤ e ∧ e ≤ 30000) (hN : xbl N0 ≤ 105000) (hD : xbl D0 ≤ 105000) (hD0 : D0 ≠ 0) (h131 : V 131 = N0) (h141 : V 141 = D0) (l0 : xld lv 0 = some (Value.ref 128)) (l1 : xld lv 1 = some (Value.int (Int32.ofInt r))) (l4 : xld lv 4 = some (Value.int (Int32.ofInt e))) : xEv (d + 5) 267 85 lv [] w (fun o w' => o = .inl (some (.int (Int32.ofInt (bb (decide (N0 * 2 ^ (max 0 e).toNat % (D0 * 2 ^ (max 0 (-e)).toNat) ≠ 0)))))) ∧ ∃ S' V', mR w0 S' V' w' ∧ nS S S' ∧ nV V V' ∧ hid (N0 * 2 ^ (max 0 e).toNat % (D0 * 2 ^ (max 0 (-e)).toNat) ≠ 0 → S' 128 30 = ncmp (N0 * 2 ^ (max 0 e).toNat % (D0 * 2 ^ (max 0 (-e)).toNat) * 2) (D0 * 2 ^ (max 0 (-e)).toNat)) ∧ V' 129 = N0 * 2 ^ (max 0 e).toNat / (D0 * 2 ^ (max 0 (-e)).toNat)) := by
  refine i_267_85 (x := Int32.ofInt e) l4 ?_
  refine i_267_87 (z_lt (a := e) ⟨by omega, by omega⟩ fun c0 => ?_) (z_ge (a := e) ⟨by omega, by omega⟩ fun c0 => ?_)
  · refine i_267_102 (x := 128) l0 ?_
    refine i_267_103 (v := Value.ref 141) hR.c128 rfl ?_
    refine i_267_106 (x := Int32.ofInt e) l4 ?_
    refine i_267_108 (c := Int32.ofInt (-e)) (o_neg e) ?_
    obtain ⟨fs, hobj⟩ := hR.obj (h := 141) (iNw (h := 141) (by decide) (by decide) (by decide))
    obtain ⟨w, hrun, hR⟩ := r_up (d := d + 2) (v := D0) (c := 4700) (k := -e) hR (iNw (h := 141) (by decide) (by decide) (by decide)) (h141) rfl (by omega) (by omega)
    refine i_267_109 hobj (Nat.le_of_ble_eq_true rfl) hrun ?_
    refine i_267_112 (x := 128) l0 ?_
    refine i_267_113 (x := 128) l0 ?_
    refine i_267_114 (v := Value.ref 131) hR.c128 rfl ?_
    refine i_267_117 (x := 128) l0 ?_
    refine i_267_118 (v := Value.ref 141) hR.c128 rfl ?_
    refine i_267_121 (x := 128) l0 ?_
    refine i_267_122 (v := Value.ref 129) hR.c128 rfl ?_
    have hobj := hR.c128
    obtain ⟨X, eX⟩ : ∃ X, N0 = X := ⟨_, rfl⟩
    obtain ⟨Y, eY⟩ : ∃ Y, D0 * 2 ^ (-e : Int).toNat = Y := ⟨_, rfl⟩
    have hX : xbl X ≤ 140900 := by rw [← eX]; omega
    have hY : xbl Y ≤ 140900 := by rw [← eY]; have := xbl_powle D0 (-e : Int).toNat; omega
    have hY0 : Y ≠ 0 := by rw [← eY]; exact Nat.mul_ne_zero hD0 (Nat.ne_of_gt (Nat.two_pow_pos _))
    obtain ⟨w, z, hrun, hR⟩ := s_divide (d := d + 1) (hx := 131) (hy := 141) (t := 129) (x := X) (y := Y) hR (iNw (h := 131) (by decide) (by decide) (by decide)) (iNw (h := 141) (by decide) (by decide) (by decide)) (by omega) (by omega) (by omega) (by omega) (by omega) (by omega) (by omega) (((uv_n (by omega)).trans (h131)).trans eX) ((uv_s).trans eY) hY0 hX hY
    refine i_267_125 hobj (Nat.le_of_ble_eq_true rfl) hrun ?_
    refine i_267_128 (x := 128) l0 ?_
    refine i_267_129 (v := Value.ref 137) hR.c128 rfl ?_
    obtain ⟨n2, hsz, hn2, hz2⟩ := hR.size (h := 137) (v := X % Y) (iNw (h := 137) (by decide) (by decide) (by decide)) (uv_s)
    refine i_267_132 (v := Value.int (Int32.ofInt (n2 : Int))) hsz rfl ?_
    refine i_267_135 (z_ne (a := (n2 : Int)) ⟨by omega, by omega⟩ fun c2 => ?_) (z_eq (a := (n2 : Int)) ⟨by omega, by omega⟩ fun c2 => ?_)
    · refine i_267_140 (x := 128) l0 ?_
      refine i_267_141 (v := Value.ref 137) hR.c128 rfl ?_
      refine i_267_144 ?_
      obtain ⟨fs, hobj⟩ := hR.obj (h := 137) (iNw (h := 137) (by decide) (by decide) (by decide))
      obtain ⟨w, hrun, hR⟩ := r_up (d := d + 2) (v := X % Y) (c := 4700) (k := 1) hR (iNw (h := 137) (by decide) (by decide) (by decide)) (uv_s) rfl (by omega) (by have := xbl_mono (Nat.le_of_lt (Nat.mod_lt (X) (show 0 < Y by omega))); omega)
      rw [uvv] at hR
      refine i_267_145 hobj (Nat.le_of_ble_eq_true rfl) hrun ?_
      refine i_267_148 (x := 128) l0 ?_
      refine i_267_149 (x := 128) l0 ?_
      refine i_267_150 (v := Value.ref 137) hR.c128 rfl ?_
      refine i_267_153 (x := 128) l0 ?_
      refine i_267_154 (v := Value.ref 141) hR.c128 rfl ?_
      obtain ⟨fs, hobj⟩ := hR.obj (h := 137) (iNw (h := 137) (by decide) (by decide) (by decide))
      have hrun := r_cmp (d := d + 2) (v := (X % Y) * 2 ^ (1 : Int).toNat) (v2 := D0 * 2 ^ (-e : Int).toNat) hR (iNw (h := 137) (by decide) (by decide) (by decide)) (iNw (h := 141) (by decide) (by decide) (by decide)) (uv_s) ((uv_n (by omega)).trans ((uv_n (by omega)).trans ((uv_n (by omega)).trans (uv_s))))
      refine i_267_157 hobj (Nat.le_of_ble_eq_true rfl) hrun ?_
      refine i_267_160 (fs2 := mf (u1 (S 128) 30 (ncmp ((X % Y) * 2 ^ (1 : Int).toNat) (D0 * 2 ^ (-e : Int).toNat)))) hR.c128 (Nat.le_of_ble_eq_true rfl) (mfs_30 (v := ncmp ((X % Y) * 2 ^ (1 : Int).toNat) (D0 * 2 ^ (-e : Int).toNat))) (by decide) ?_
      refine xgen (P := mR w0 (u2 S 128 30 (ncmp ((X % Y) * 2 ^ (1 : Int).toNat) (D0 * 2 ^ (-e : Int).toNat))) (uv (uv (uv (uv V 141 (D0 * 2 ^ (-e : Int).toNat)) 139 z) 129 (X / Y)) 137 ((X % Y) * 2 ^ (1 : Int).toNat))) hR.fld2 (fun w hR => ?_)
      refine i_267_163 ?_
      refine i_267_164 rfl ?_
      have kX : X = N0 * 2 ^ (max 0 e).toNat := by rw [← eX, show max 0 e = 0 by omega]; rw [show (0 : Int).toNat = 0 from rfl, Nat.pow_zero, Nat.mul_one]
      have kY : Y = D0 * 2 ^ (max 0 (-e)).toNat := by rw [← eY, show max 0 (-e) = -e by omega]
      rw [← kX, ← kY]
      have hm : X % Y ≠ 0 := fun z => by have := hz2.mpr z; omega
      rw [show decide (X % Y ≠ 0) = true by simp [hm]]
      exact ⟨rfl, _, _, hR, (nS.up nS.refl (by decide) (by decide)), (nV.up (nV.up (nV.up (nV.up nV.refl (by omega)) (by omega)) (by omega)) (by omega)), fun c => by rw [u2_eq, if_pos ⟨rfl, rfl⟩, eY]; rfl, (uv_n (by omega)).trans (uv_s)⟩
    · refine i_267_138 ?_
      refine i_267_139 rfl ?_
      have kX : X = N0 * 2 ^ (max 0 e).toNat := by rw [← eX, show max 0 e = 0 by omega]; rw [show (0 : Int).toNat = 0 from rfl, Nat.pow_zero, Nat.mul_one]
      have kY : Y = D0 * 2 ^ (max 0 (-e)).toNat := by rw [← eY, show max 0 (-e) = -e by omega]
      rw [← kX, ← kY]
      have hm : X % Y = 0 := hz2.mp (by omega)
      rw [show decide (X % Y ≠ 0) = false by simp [hm]]
      exact ⟨rfl, _, _, hR, nS.refl, (nV.up (nV.up (nV.up (nV.up nV.refl (by omega)) (by omega)) (by omega)) (by omega)), fun c => absurd hm c, (uv_n (by omega)).trans (uv_s)⟩
  · refine i_267_90 (x := 128) l0 ?_
    refine i_267_91 (v := Value.ref 131) hR.c128 rfl ?_
    refine i_267_94 (x := Int32.ofInt e) l4 ?_
    obtain ⟨fs, hobj⟩ := hR.obj (h := 131) (iNw (h := 131) (by decide) (by decide) (by decide))
    obtain ⟨w, hrun, hR⟩ := r_up (d := d + 2) (v := N0) (c := 4700) (k := e) hR (iNw (h := 131) (by decide) (by decide) (by decide)) (h131) rfl (by omega) (by omega)
    refine i_267_96 hobj (Nat.le_of_ble_eq_true rfl) hrun ?_
    refine i_267_99 ?_
    refine i_267_112 (x := 128) l0 ?_
    refine i_267_113 (x := 128) l0 ?_
    refine i_267_114 (v := Value.ref 131) hR.c128 rfl ?_
    refine i_267_117 (x := 128) l0 ?_
    refine i_267_118 (v := Value.ref 141) hR.c128 rfl ?_
    refine i_267_121 (x := 128) l0 ?_
    refine i_267_122 (v := Value.ref 129) hR.c128 rfl ?_
    have hobj := hR.c128
    obtain ⟨X, eX⟩ : ∃ X, N0 * 2 ^ (e : Int).toNat = X := ⟨_, rfl⟩
    obtain ⟨Y, eY⟩ : ∃ Y, D0 = Y := ⟨_, rfl⟩
    have hX : xbl X ≤ 140900 := by rw [← eX]; have := xbl_powle N0 (e : Int).toNat; omega
    have hY : xbl Y ≤ 140900 := by rw [← eY]; omega
    have hY0 : Y ≠ 0 := by rw [← eY]; exact hD0
    obtain ⟨w, z, hrun, hR⟩ := s_divide (d := d + 1) (hx := 131) (hy := 141) (t := 129) (x := X) (y := Y) hR (iNw (h := 131) (by decide) (by decide) (by decide)) (iNw (h := 141) (by decide) (by decide) (by decide)) (by omega) (by omega) (by omega) (by omega) (by omega) (by omega) (by omega) ((uv_s).trans eX) (((uv_n (by omega)).trans (h141)).trans eY) hY0 hX hY
    refine i_267_125 hobj (Nat.le_of_ble_eq_true rfl) hrun ?_
    refine i_267_128 (x := 128) l0 ?_
    refine i_267_129 (v := Value.ref 137) hR.c128 rfl ?_
    obtain ⟨n4, hsz, hn4, hz4⟩ := hR.size (h := 137) (v := X % Y) (iNw (h := 137) (by decide) (by decide) (by decide)) (uv_s)
    refine i_267_132 (v := Value.int (Int32.ofInt (n4 : Int))) hsz rfl ?_
    refine i_267_135 (z_ne (a := (n4 : Int)) ⟨by omega, by omega⟩ fun c4 => ?_) (z_eq (a := (n4 : Int)) ⟨by omega, by omega⟩ fun c4 => ?_)
    · refine i_267_140 (x := 128) l0 ?_
      refine i_267_141 (v := Value.ref 137) hR.c128 rfl ?_
      refine i_267_144 ?_
      obtain ⟨fs, hobj⟩ := hR.obj (h := 137) (iNw (h := 137) (by decide) (by decide) (by decide))
      obtain ⟨w, hrun, hR⟩ := r_up (d := d + 2) (v := X % Y) (c := 4700) (k := 1) hR (iNw (h := 137) (by decide) (by decide) (by decide)) (uv_s) rfl (by omega) (by have := xbl_mono (Nat.le_of_lt (Nat.mod_lt (X) (show 0 < Y by omega))); omega)
      rw [uvv] at hR
      refine i_267_145 hobj (Nat.le_of_ble_eq_true rfl) hrun ?_
      refine i_267_148 (x := 128) l0 ?_
      refine i_267_149 (x := 128) l0 ?_
      refine i_267_150 (v := Value.ref 137) hR.c128 rfl ?_
      refine i_267_153 (x := 128) l0 ?_
      refine i_267_154 (v := Value.ref 141) hR.c128 rfl ?_
      obtain ⟨fs, hobj⟩ := hR.obj (h := 137) (iNw (h := 137) (by decide) (by decide) (by decide))
      have hrun := r_cmp (d := d + 2) (v := (X % Y) * 2 ^ (1 : Int).toNat) (v2 := D0) hR (iNw (h := 137) (by decide) (by decide) (by decide)) (iNw (h := 141) (by decide) (by decide) (by decide)) (uv_s) ((uv_n (by omega)).trans ((uv_n (by omega)).trans ((uv_n (by omega)).trans ((uv_n (by omega)).trans (h141)))))
      refine i_267_157 hobj (Nat.le_of_ble_eq_true rfl) hrun ?_
      refine i_267_160 (fs2 := mf (u1 (S 128) 30 (ncmp ((X % Y) * 2 ^ (1 : Int).toNat) D0))) hR.c128 (Nat.le_of_ble_eq_true rfl) (mfs_30 (v := ncmp ((X % Y) * 2 ^ (1 : Int).toNat) D0)) (by decide) ?_
      refine xgen (P := mR w0 (u2 S 128 30 (ncmp ((X % Y) * 2 ^ (1 : Int).toNat) D0)) (uv (uv (uv (uv V 131 (N0 * 2 ^ (e : Int).toNat)) 139 z) 129 (X / Y)) 137 ((X % Y) * 2 ^ (1 : Int).toNat))) hR.fld2 (fun w hR => ?_)
      refine i_267_163 ?_
      refine i_267_164 rfl ?_
      have kX : X = N0 * 2 ^ (max 0 e).toNat := by rw [← eX, show max 0 e = e by omega]
      have kY : Y = D0 * 2 ^ (max 0 (-e)).toNat := by rw [← eY, show max 0 (-e) = 0 by omega]; rw [show (0 : Int).toNat = 0 from rfl, Nat.pow_zero, Nat.mul_one]
      rw [← kX, ← kY]
      have hm : X % Y ≠ 0 := fun z => by have := hz4.mpr z; omega
      rw [show decide (X % Y ≠ 0) = true by simp [hm]]
      exact ⟨rfl, _, _, hR, (nS.up nS.refl (by decide) (by decide)), (nV.up (nV.up (nV.up (nV.up nV.refl (by omega)) (by omega)) (by omega)) (by omega)), fun c => by rw [u2_eq, if_pos ⟨rfl, rfl⟩, eY]; rfl, (uv_n (by omega)).trans (uv_s)⟩
    · refine i_267_138 ?_
      refine i_267_139 rfl ?_
      have kX : X = N0 * 2 ^ (max 0 e).toNat := by rw [← eX, show max 0 e = e by omega]
      have kY : Y = D0 * 2 ^ (max 0 (-e)).toNat := by rw [← eY, show max 0 (-e) = 0 by omega]; rw [show (0 : Int).toNat = 0 from rfl, Nat.pow_zero, Nat.mul_one]
      rw [← kX, ← kY]
      have hm : X % Y = 0 := hz4.mp (by omega)
      rw [show decide (X % Y ≠ 0) = false by simp [hm]]
      exact ⟨rfl, _, _, hR, nS.refl, (nV.up (nV.up (nV.up (nV.up nV.refl (by omega)) (by omega)) (by omega)) (by omega)), fun c => absurd hm c, (uv_n (by omega)).trans (uv_s)⟩
set_option maxHeartbeats 4000000 in
theorem s_parts (hR : mR w0 S V w) (hI : mI S V) (hr : 0 ≤ r ∧ r ≤ 15) (hk : S 154 r.toNat = 3) (hrx : 2 ≤ rx ∧ rx ≤ 36) (hs : -1000000 ≤ s ∧ s ≤ 1000000) (hb : xbl (rx ^ s.natAbs) ≤ 100000) : ∃ w', xRun (d + 5) 267 [Value.ref 128, Value.int (Int32.ofInt r), Value.int (Int32.ofInt (rx : Int)), Value.int (Int32.ofInt s)] w (.inl (some (.int (Int32.ofInt (bb (decide (V (160 + 2 * r.toNat) * fGn rx s (S 155 r.toNat - S 153 r.toNat) % fDn rx s (S 155 r.toNat - S 153 r.toNat) ≠ 0))))))) w' ∧ ∃ S' V', mR w0 S' V' w' ∧ nS S S' ∧ nV V V' ∧ hid (V (160 + 2 * r.toNat) * fGn rx s (S 155 r.toNat - S 153 r.toNat) % fDn rx s (S 155 r.toNat - S 153 r.toNat) ≠ 0 → S' 128 30 = ncmp (V (160 + 2 * r.toNat) * fGn rx s (S 155 r.toNat - S 153 r.toNat) % fDn rx s (S 155 r.toNat - S 153 r.toNat) * 2) (fDn rx s (S 155 r.toNat - S 153 r.toNat))) ∧ V' 129 = V (160 + 2 * r.toNat) * fGn rx s (S 155 r.toNat - S 153 r.toNat) / fDn rx s (S 155 r.toNat - S 153 r.toNat) := by
  obtain ⟨hp_r, hk_r, hn_r, ht_r, hx_r, -⟩ := hI.1 r.toNat (by omega)
  have hx1 : xbl 1 = 1 := xbl_one
  have hb2 : xbl (rx ^ ((s.natAbs : Int) : Int).toNat) ≤ 100000 := hb
  unfold fGn fDn
  have key : ∀ lv, xld lv 0 = some (Value.ref 128) → xld lv 1 = some (Value.int (Int32.ofInt r)) → xld lv 2 = some (Value.int (Int32.ofInt (rx : Int))) → xld lv 3 = some (Value.int (Int32.ofInt s)) → xEv (d + 5) 267 0 lv [] w (fun o w' => o = .inl (some (.int (Int32.ofInt (bb (decide (V (160 + 2 * r.toNat) * (bNu rx s * 2 ^ (max 0 (S 155 r.toNat - S 153 r.toNat)).toNat) % (bDe rx s * 2 ^ (max 0 (-(S 155 r.toNat - S 153 r.toNat))).toNat) ≠ 0)))))) ∧ ∃ S' V', mR w0 S' V' w' ∧ nS S S' ∧ nV V V' ∧ hid (V (160 + 2 * r.toNat) * (bNu rx s * 2 ^ (max 0 (S 155 r.toNat - S 153 r.toNat)).toNat) % (bDe rx s * 2 ^ (max 0 (-(S 155 r.toNat - S 153 r.toNat))).toNat) ≠ 0 → S' 128 30 = ncmp (V (160 + 2 * r.toNat) * (bNu rx s * 2 ^ (max 0 (S 155 r.toNat - S 153 r.toNat)).toNat) % (bDe rx s * 2 ^ (max 0 (-(S 155 r.toNat - S 153 r.toNat))).toNat) * 2) ((bDe rx s * 2 ^ (max 0 (-(S 155 r.toNat - S 153 r.toNat))).toNat))) ∧ V' 129 = V (160 + 2 * r.toNat) * (bNu rx s * 2 ^ (max 0 (S 155 r.toNat - S 153 r.toNat)).toNat) / (bDe rx s * 2 ^ (max 0 (-(S 155 r.toNat - S 153 r.toNat))).toNat)) := by
    intro lv l0 l1 l2 l3
    refine i_267_0 (x := 128) l0 ?_
    refine i_267_1 (x := Int32.ofInt r) l1 ?_
    have hobj := hR.c128
    obtain ⟨w, hrun, hR⟩ := s_exponent (d := d + 3) (r := r) hR (by omega) (by omega)
    refine i_267_2 hobj (Nat.le_of_ble_eq_true rfl) hrun ?_
    refine i_267_5 rfl ?_
    refine lgen1 (i := 4) (v := Value.int (Int32.ofInt (S 155 r.toNat - S 153 r.toNat))) (fun lv lg ls => ?_)
    replace l0 := lg 0 _ rfl rfl l0
    replace l1 := lg 1 _ rfl rfl l1
    replace l2 := lg 2 _ rfl rfl l2
    replace l3 := lg 3 _ rfl rfl l3
    have l4 := ls
    refine i_267_7 (x := 128) l0 ?_
    refine i_267_8 (v := Value.ref 141) hR.c128 rfl ?_
    refine i_267_11 ?_
    obtain ⟨fs, hobj⟩ := hR.obj (h := 141) (iNw (h := 141) (by decide) (by decide) (by decide))
    obtain ⟨fs, hobj⟩ := hR.obj (h := 141) (iNw (h := 141) (by decide) (by decide) (by decide))
    obtain ⟨w, hrun, hR⟩ := r_setl (d := d + 2) (x := 1) (v := 1) hR (iNw (h := 141) (by decide) (by decide) (by decide)) rfl
    refine i_267_12 hobj (Nat.le_of_ble_eq_true rfl) hrun ?_
    refine i_267_15 (x := Int32.ofInt s) l3 ?_
    refine i_267_16 (z_eq (a := s) ⟨by omega, by omega⟩ fun c0 => ?_) (z_ne (a := s) ⟨by omega, by omega⟩ fun c0 => ?_)
    · refine i_267_40 (x := Int32.ofInt s) l3 ?_
      refine i_267_41 (z_lt (a := s) ⟨by omega, by omega⟩ fun c1 => absurd c1 (by omega)) (z_ge (a := s) ⟨by omega, by omega⟩ fun c1 => ?_)
      refine i_267_44 (x := 128) l0 ?_
      refine i_267_45 (v := Value.ref 131) hR.c128 rfl ?_
      refine i_267_48 (x := 128) l0 ?_
      refine i_267_49 (v := Value.ref 157) hR.c128 rfl ?_
      refine i_267_52 (x := Int32.ofInt r) l1 ?_
      obtain ⟨gp, hgp, hgr⟩ := hR.part (j := (r).toNat) (by omega)
      refine i_267_53 (v := Value.ref (160 + 2 * r.toNat)) hgp (ix0 (by omega) (by omega)) (ix1 (by omega) (by omega) (by omega)) (by rw [ixn (by omega) (by omega)]; exact hgr) ?_
      refine i_267_54 (x := 128) l0 ?_
      refine i_267_55 (v := Value.ref 141) hR.c128 rfl ?_
      obtain ⟨fs, hobj⟩ := hR.obj (h := 131) (iNw (h := 131) (by decide) (by decide) (by decide))
      obtain ⟨w, hrun, hR⟩ := r_prod (d := d + 2) (v2 := V (160 + 2 * r.toNat)) (v3 := 1) (c := 4700) hR (iNw (h := 131) (by decide) (by decide) (by decide)) (iNp (r := r) (by omega) (by omega)) (iNw (h := 141) (by decide) (by decide) (by decide)) (by omega) (by omega) ((uv_n (by omega)).trans (rfl)) (uv_s) rfl (by omega)
      refine i_267_58 hobj (Nat.le_of_ble_eq_true rfl) hrun ?_
      refine i_267_61 (x := 128) l0 ?_
      refine i_267_62 (v := Value.ref 141) hR.c128 rfl ?_
      refine i_267_65 ?_
      obtain ⟨fs, hobj⟩ := hR.obj (h := 141) (iNw (h := 141) (by decide) (by decide) (by decide))
      obtain ⟨fs, hobj⟩ := hR.obj (h := 141) (iNw (h := 141) (by decide) (by decide) (by decide))
      obtain ⟨w, hrun, hR⟩ := r_setl (d := d + 2) (x := 1) (v := 1) hR (iNw (h := 141) (by decide) (by decide) (by decide)) rfl
      refine i_267_66 hobj (Nat.le_of_ble_eq_true rfl) hrun ?_
      refine i_267_69 ?_
      have kN : (V (160 + 2 * r.toNat)) * 1 = V (160 + 2 * r.toNat) * bNu rx s := by
        unfold bNu
        rw [if_pos (by omega), show s.natAbs = 0 by omega, Nat.pow_zero]
      have kD : 1 = bDe rx s := by
        unfold bDe
        rw [if_pos (by omega)]
      have hbb := bN_bl (B := rx) (k := s) hb (by decide)
      have hbN : xbl (V (160 + 2 * r.toNat) * bNu rx s) ≤ 105000 := by
        have := xbl_prod (V (160 + 2 * r.toNat)) (bNu rx s)
        omega
      have hbD : xbl (bDe rx s) ≤ 105000 := by omega
      refine (pt_T (d := d) (r := r) (N0 := V (160 + 2 * r.toNat) * bNu rx s) (D0 := bDe rx s) hR (e := S 155 r.toNat - S 153 r.toNat) (by omega) hbN hbD (Nat.ne_of_gt (bDe_pos (by omega))) (((uv_n (by omega)).trans (uv_s)).trans kN) ((uv_s).trans kD) l0 l1 l4).mono ?_
      intro o w' ⟨h1, S', V', hR', a1, a2, a3, a4⟩
      rw [Nat.mul_assoc] at h1 a3 a4
      exact ⟨h1, S', V', hR', a1, ((nV.up (nV.up (nV.up nV.refl (by omega)) (by omega)) (by omega))).trans a2, a3, a4⟩
    · refine i_267_19 (x := 128) l0 ?_
      refine i_267_20 (v := Value.ref 133) hR.c128 rfl ?_
      refine i_267_23 (x := Int32.ofInt (rx : Int)) l2 ?_
      refine i_267_24 (c := Int64.ofInt (rx : Int)) (q_i2l (a := (rx : Int)) ⟨by omega, by omega⟩) ?_
      obtain ⟨fs, hobj⟩ := hR.obj (h := 133) (iNw (h := 133) (by decide) (by decide) (by decide))
      obtain ⟨w, hrun, hR⟩ := r_setl (d := d + 2) (x := Int64.ofInt (rx : Int)) (v := rx) hR (iNw (h := 133) (by decide) (by decide) (by decide)) ((xul_o (by omega) (by omega)).trans rfl)
      refine i_267_25 hobj (Nat.le_of_ble_eq_true rfl) hrun ?_
      refine i_267_28 (x := 128) l0 ?_
      refine i_267_29 (x := 128) l0 ?_
      refine i_267_30 (v := Value.ref 133) hR.c128 rfl ?_
      refine i_267_33 (x := Int32.ofInt s) l3 ?_
      have hrun := s_abs (d := d + 3) (w := w) (a := s) (by omega)
      refine i_267_34 (Nat.le_of_ble_eq_true rfl) hrun ?_
      have hobj := hR.c128
      obtain ⟨w, u3, hrun, hR⟩ := s_raise (d := d + 1) (h := 133) (x := rx) (n := (s.natAbs : Int)) hR (iNw (h := 133) (by decide) (by decide) (by decide)) (by omega) (by omega) (uv_s) (by omega) (by omega) (by omega) (by rw [Int.toNat_natCast]; omega)
      refine i_267_37 hobj (Nat.le_of_ble_eq_true rfl) hrun ?_
      refine i_267_40 (x := Int32.ofInt s) l3 ?_
      refine i_267_41 (z_lt (a := s) ⟨by omega, by omega⟩ fun c3 => ?_) (z_ge (a := s) ⟨by omega, by omega⟩ fun c3 => ?_)
      · refine i_267_72 (x := 128) l0 ?_
        refine i_267_73 (v := Value.ref 131) hR.c128 rfl ?_
        refine i_267_76 (x := 128) l0 ?_
        refine i_267_77 (v := Value.ref 157) hR.c128 rfl ?_
        refine i_267_80 (x := Int32.ofInt r) l1 ?_
        obtain ⟨gp, hgp, hgr⟩ := hR.part (j := (r).toNat) (by omega)
        refine i_267_81 (v := Value.ref (160 + 2 * r.toNat)) hgp (ix0 (by omega) (by omega)) (ix1 (by omega) (by omega) (by omega)) (by rw [ixn (by omega) (by omega)]; exact hgr) ?_
        obtain ⟨fs, hobj⟩ := hR.obj (h := 131) (iNw (h := 131) (by decide) (by decide) (by decide))
        obtain ⟨w, hrun, hR⟩ := r_setn (d := d + 2) (v := V (160 + 2 * r.toNat)) (c := 4700) hR (iNw (h := 131) (by decide) (by decide) (by decide)) (iNp (r := r) (by omega) (by omega)) ((uv_n (by omega)).trans ((uv_n (by omega)).trans ((uv_n (by omega)).trans ((uv_n (by omega)).trans (rfl))))) rfl (by omega)
        refine i_267_82 hobj (Nat.le_of_ble_eq_true rfl) hrun ?_
        have kN : V (160 + 2 * r.toNat) = V (160 + 2 * r.toNat) * bNu rx s := by
          unfold bNu
          rw [if_neg (by omega), Nat.mul_one]
        have kD : rx ^ ((s.natAbs : Int) : Int).toNat = bDe rx s := by
          unfold bDe
          rw [if_neg (by omega), Int.toNat_natCast]
        have hbb := bN_bl (B := rx) (k := s) hb (by decide)
        have hbN : xbl (V (160 + 2 * r.toNat) * bNu rx s) ≤ 105000 := by
          have := xbl_prod (V (160 + 2 * r.toNat)) (bNu rx s)
          omega
        have hbD : xbl (bDe rx s) ≤ 105000 := by omega
        refine (pt_T (d := d) (r := r) (N0 := V (160 + 2 * r.toNat) * bNu rx s) (D0 := bDe rx s) hR (e := S 155 r.toNat - S 153 r.toNat) (by omega) hbN hbD (Nat.ne_of_gt (bDe_pos (by omega))) ((uv_s).trans kN) (((uv_n (by omega)).trans (uv_s)).trans kD) l0 l1 l4).mono ?_
        intro o w' ⟨h1, S', V', hR', a1, a2, a3, a4⟩
        rw [Nat.mul_assoc] at h1 a3 a4
        exact ⟨h1, S', V', hR', a1, ((nV.up (nV.up (nV.up (nV.up (nV.up nV.refl (by omega)) (by omega)) (by omega)) (by omega)) (by omega))).trans a2, a3, a4⟩
      · refine i_267_44 (x := 128) l0 ?_
        refine i_267_45 (v := Value.ref 131) hR.c128 rfl ?_
        refine i_267_48 (x := 128) l0 ?_
        refine i_267_49 (v := Value.ref 157) hR.c128 rfl ?_
        refine i_267_52 (x := Int32.ofInt r) l1 ?_
        obtain ⟨gp, hgp, hgr⟩ := hR.part (j := (r).toNat) (by omega)
        refine i_267_53 (v := Value.ref (160 + 2 * r.toNat)) hgp (ix0 (by omega) (by omega)) (ix1 (by omega) (by omega) (by omega)) (by rw [ixn (by omega) (by omega)]; exact hgr) ?_
        refine i_267_54 (x := 128) l0 ?_
        refine i_267_55 (v := Value.ref 141) hR.c128 rfl ?_
        obtain ⟨fs, hobj⟩ := hR.obj (h := 131) (iNw (h := 131) (by decide) (by decide) (by decide))
        obtain ⟨w, hrun, hR⟩ := r_prod (d := d + 2) (v2 := V (160 + 2 * r.toNat)) (v3 := rx ^ ((s.natAbs : Int) : Int).toNat) (c := 4700) hR (iNw (h := 131) (by decide) (by decide) (by decide)) (iNp (r := r) (by omega) (by omega)) (iNw (h := 141) (by decide) (by decide) (by decide)) (by omega) (by omega) ((uv_n (by omega)).trans ((uv_n (by omega)).trans ((uv_n (by omega)).trans ((uv_n (by omega)).trans (rfl))))) (uv_s) rfl (by omega)
        refine i_267_58 hobj (Nat.le_of_ble_eq_true rfl) hrun ?_
        refine i_267_61 (x := 128) l0 ?_
        refine i_267_62 (v := Value.ref 141) hR.c128 rfl ?_
        refine i_267_65 ?_
        obtain ⟨fs, hobj⟩ := hR.obj (h := 141) (iNw (h := 141) (by decide) (by decide) (by decide))
        obtain ⟨fs, hobj⟩ := hR.obj (h := 141) (iNw (h := 141) (by decide) (by decide) (by decide))
        obtain ⟨w, hrun, hR⟩ := r_setl (d := d + 2) (x := 1) (v := 1) hR (iNw (h := 141) (by decide) (by decide) (by decide)) rfl
        refine i_267_66 hobj (Nat.le_of_ble_eq_true rfl) hrun ?_
        refine i_267_69 ?_
        have kN : (V (160 + 2 * r.toNat)) * (rx ^ ((s.natAbs : Int) : Int).toNat) = V (160 + 2 * r.toNat) * bNu rx s := by
          unfold bNu
          rw [if_pos (by omega), Int.toNat_natCast]
        have kD : 1 = bDe rx s := by
          unfold bDe
          rw [if_pos (by omega)]
        have hbb := bN_bl (B := rx) (k := s) hb (by decide)
        have hbN : xbl (V (160 + 2 * r.toNat) * bNu rx s) ≤ 105000 := by
          have := xbl_prod (V (160 + 2 * r.toNat)) (bNu rx s)
          omega
        have hbD : xbl (bDe rx s) ≤ 105000 := by omega
        refine (pt_T (d := d) (r := r) (N0 := V (160 + 2 * r.toNat) * bNu rx s) (D0 := bDe rx s) hR (e := S 155 r.toNat - S 153 r.toNat) (by omega) hbN hbD (Nat.ne_of_gt (bDe_pos (by omega))) (((uv_n (by omega)).trans (uv_s)).trans kN) ((uv_s).trans kD) l0 l1 l4).mono ?_
        intro o w' ⟨h1, S', V', hR', a1, a2, a3, a4⟩
        rw [Nat.mul_assoc] at h1 a3 a4
        exact ⟨h1, S', V', hR', a1, ((nV.up (nV.up (nV.up (nV.up (nV.up (nV.up nV.refl (by omega)) (by omega)) (by omega)) (by omega)) (by omega)) (by omega))).trans a2, a3, a4⟩
  obtain ⟨o, w', h1, rfl, h2⟩ := (key (lv_args 0 [Value.ref 128, Value.int (Int32.ofInt r), Value.int (Int32.ofInt (rx : Int)), Value.int (Int32.ofInt s)]) rfl rfl rfl rfl).run
  exact ⟨w', h1, h2⟩
set_option maxHeartbeats 4000000 in
theorem s_goesBy {left : Bool} {sg mode : Int} (hR : mR w0 S V w) (hsg : sg = 0 ∨ sg = 1) (hmo : 0 ≤ mode ∧ mode ≤ 4) (h30 : S 128 30 = -1 ∨ S 128 30 = 0 ∨ S 128 30 = 1) : xRun (d + 3) 268 [Value.ref 128, Value.int (Int32.ofInt (bb left)), Value.int (Int32.ofInt sg), Value.int (Int32.ofInt mode)] w (.inl (some (.int (Int32.ofInt (bb (gB left sg mode (S 128 30) (V 129))))))) w := by
  have key : ∀ lv, xld lv 0 = some (Value.ref 128) → xld lv 1 = some (Value.int (Int32.ofInt (bb left))) → xld lv 2 = some (Value.int (Int32.ofInt sg)) → xld lv 3 = some (Value.int (Int32.ofInt mode)) → xEv (d + 3) 268 0 lv [] w (fun o w' => o = .inl (some (.int (Int32.ofInt (bb (gB left sg mode (S 128 30) (V 129)))))) ∧ w' = w) := by
    intro lv l0 l1 l2 l3
    refine i_268_0 (x := Int32.ofInt (bb left)) l1 ?_
    refine i_268_1 (zb_t fun c0 => ?_) (zb_f fun c0 => ?_)
    · refine i_268_6 (x := Int32.ofInt mode) l3 ?_
      refine i_268_7 (z_ne (a := mode) ⟨by omega, by omega⟩ fun c1 => ?_) (z_eq (a := mode) ⟨by omega, by omega⟩ fun c1 => ?_)
      · refine i_268_41 (x := Int32.ofInt mode) l3 ?_
        refine i_268_42 ?_
        refine i_268_43 (b_eq (a := mode) (b := 4) ⟨by omega, by omega⟩ ⟨by decide, by decide⟩ fun c2 => ?_) (b_ne (a := mode) (b := 4) ⟨by omega, by omega⟩ ⟨by decide, by decide⟩ fun c2 => ?_)
        · refine i_268_64 ?_
          refine i_268_65 ?_
          refine i_268_69 rfl ?_
          rw [show gB left sg mode (S 128 30) (V 129) = true from by unfold gB; simp_all]
          exact ⟨rfl, rfl⟩
        · refine i_268_46 (x := Int32.ofInt mode) l3 ?_
          refine i_268_47 ?_
          refine i_268_48 (b_ne (a := mode) (b := 2) ⟨by omega, by omega⟩ ⟨by decide, by decide⟩ fun c3 => ?_) (b_eq (a := mode) (b := 2) ⟨by omega, by omega⟩ ⟨by decide, by decide⟩ fun c3 => ?_)
          · refine i_268_55 (x := Int32.ofInt mode) l3 ?_
            refine i_268_56 ?_
            refine i_268_57 (b_ne (a := mode) (b := 3) ⟨by omega, by omega⟩ ⟨by decide, by decide⟩ fun c4 => ?_) (b_eq (a := mode) (b := 3) ⟨by omega, by omega⟩ ⟨by decide, by decide⟩ fun c4 => ?_)
            · refine i_268_68 ?_
              refine i_268_69 rfl ?_
              rw [show gB left sg mode (S 128 30) (V 129) = false from by unfold gB; simp_all]
              exact ⟨rfl, rfl⟩
            · refine i_268_60 (x := Int32.ofInt sg) l2 ?_
              refine i_268_61 (z_eq (a := sg) ⟨by omega, by omega⟩ fun c5 => ?_) (z_ne (a := sg) ⟨by omega, by omega⟩ fun c5 => ?_)
              · refine i_268_68 ?_
                refine i_268_69 rfl ?_
                rw [show gB left sg mode (S 128 30) (V 129) = false from by unfold gB; simp_all]
                exact ⟨rfl, rfl⟩
              · refine i_268_64 ?_
                refine i_268_65 ?_
                refine i_268_69 rfl ?_
                rw [show gB left sg mode (S 128 30) (V 129) = true from by unfold gB; simp_all]
                exact ⟨rfl, rfl⟩
          · refine i_268_51 (x := Int32.ofInt sg) l2 ?_
            refine i_268_52 (z_eq (a := sg) ⟨by omega, by omega⟩ fun c6 => ?_) (z_ne (a := sg) ⟨by omega, by omega⟩ fun c6 => ?_)
            · refine i_268_64 ?_
              refine i_268_65 ?_
              refine i_268_69 rfl ?_
              rw [show gB left sg mode (S 128 30) (V 129) = true from by unfold gB; simp_all]
              exact ⟨rfl, rfl⟩
            · refine i_268_55 (x := Int32.ofInt mode) l3 ?_
              refine i_268_56 ?_
              refine i_268_57 (b_ne (a := mode) (b := 3) ⟨by omega, by omega⟩ ⟨by decide, by decide⟩ fun c7 => ?_) (b_eq (a := mode) (b := 3) ⟨by omega, by omega⟩ ⟨by decide, by decide⟩ fun c7 => absurd c7 (by omega))
              refine i_268_68 ?_
              refine i_268_69 rfl ?_
              rw [show gB left sg mode (S 128 30) (V 129) = false from by unfold gB; simp_all]
              exact ⟨rfl, rfl⟩
      · refine i_268_10 (x := 128) l0 ?_
        refine i_268_11 (v := Value.int (Int32.ofInt (S 128 30))) hR.c128 rfl ?_
        refine i_268_14 (z_gt (a := S 128 30) ⟨by omega, by omega⟩ fun c8 => ?_) (z_le (a := S 128 30) ⟨by omega, by omega⟩ fun c8 => ?_)
        · refine i_268_35 ?_
          refine i_268_36 ?_
          refine i_268_40 rfl ?_
          rw [show gB left sg mode (S 128 30) (V 129) = true from by unfold gB; simp_all]
          exact ⟨rfl, rfl⟩
        · refine i_268_17 (x := 128) l0 ?_
          refine i_268_18 (v := Value.int (Int32.ofInt (S 128 30))) hR.c128 rfl ?_
          refine i_268_21 (z_ne (a := S 128 30) ⟨by omega, by omega⟩ fun c9 => ?_) (z_eq (a := S 128 30) ⟨by omega, by omega⟩ fun c9 => ?_)
          · refine i_268_39 ?_
            refine i_268_40 rfl ?_
            rw [show gB left sg mode (S 128 30) (V 129) = false from by unfold gB; simp_all]
            exact ⟨rfl, rfl⟩
          · refine i_268_24 (x := 128) l0 ?_
            refine i_268_25 (v := Value.ref 129) hR.c128 rfl ?_
            refine i_268_28 ?_
            obtain ⟨fs, hobj⟩ := hR.obj (h := 129) (iNw (h := 129) (by decide) (by decide) (by decide))
            have hrun := r_bit (d := d) (v := V 129) (k := 0) hR (iNw (h := 129) (by decide) (by decide) (by decide)) (rfl) (by omega) (by omega)
            refine i_268_29 hobj (Nat.le_of_ble_eq_true rfl) hrun ?_
            refine i_268_32 (zb_f fun c10 => ?_) (zb_t fun c10 => ?_)
            · refine i_268_39 ?_
              refine i_268_40 rfl ?_
              rw [show gB left sg mode (S 128 30) (V 129) = false from by unfold gB; simp_all]
              exact ⟨rfl, rfl⟩
            · refine i_268_35 ?_
              refine i_268_36 ?_
              refine i_268_40 rfl ?_
              rw [show gB left sg mode (S 128 30) (V 129) = true from by unfold gB; simp_all]
              exact ⟨rfl, rfl⟩
    · refine i_268_4 ?_
      refine i_268_5 rfl ?_
      rw [show gB left sg mode (S 128 30) (V 129) = false from by unfold gB; simp_all]
      exact ⟨rfl, rfl⟩
  obtain ⟨o, w', h1, rfl, h2⟩ := (key (lv_args 0 [Value.ref 128, Value.int (Int32.ofInt (bb left)), Value.int (Int32.ofInt sg), Value.int (Int32.ofInt mode)]) rfl rfl rfl rfl).run
  subst h2; exact h1
end
