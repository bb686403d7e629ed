/-! compare, look, end, octet of the reference -/
def rankI (k s : Int) : Int := if s = 0 then (if k = 1 then 2 else if k = 3 then 1 else 0) else -(if k = 1 then 2 else if k = 3 then 1 else 0)
def sCmp (S : Nat → Nat → Int) (V : Nat → Nat) (a b : Nat) : Int :=
  if rankI (S 154 a) (S 156 a) ≠ rankI (S 154 b) (S 156 b) then (if rankI (S 154 a) (S 156 a) < rankI (S 154 b) (S 156 b) then -1 else 1)
  else if S 154 a ≠ 3 then 0
  else if S 155 a ≠ S 155 b then (if (S 155 a < S 155 b) = (S 156 a = 0) then -1 else 1)
  else if S 156 a = 0 then ncmp (V (160 + 2 * a) * 2 ^ (S 155 a - S 153 a - min (S 155 a - S 153 a) (S 155 b - S 153 b)).toNat) (V (160 + 2 * b) * 2 ^ (S 155 b - S 153 b - min (S 155 a - S 153 a) (S 155 b - S 153 b)).toNat)
  else -ncmp (V (160 + 2 * a) * 2 ^ (S 155 a - S 153 a - min (S 155 a - S 153 a) (S 155 b - S 153 b)).toNat) (V (160 + 2 * b) * 2 ^ (S 155 b - S 153 b - min (S 155 a - S 153 a) (S 155 b - S 153 b)).toNat)
def sCz (S : Nat → Nat → Int) (V : Nat → Nat) (a b : Nat) : Int := if S 155 a ≠ S 155 b then (if S 155 a < S 155 b then -1 else 1) else ncmp (V (160 + 2 * a) * 2 ^ (S 155 a - S 153 a - min (S 155 a - S 153 a) (S 155 b - S 153 b)).toNat) (V (160 + 2 * b) * 2 ^ (S 155 b - S 153 b - min (S 155 a - S 153 a) (S 155 b - S 153 b)).toNat)
theorem s_rank {d : Nat} {w0 w : xW} {S : Nat → Nat → Int} {V : Nat → Nat} {r : Int} (hR : mR w0 S V w) (hr : 0 ≤ r ∧ r ≤ 15) (hn : S 156 r.toNat = 0 ∨ S 156 r.toNat = 1) (hk : 0 ≤ S 154 r.toNat ∧ S 154 r.toNat ≤ 3) : ∃ w', xRun (d + 1) 240 [Value.ref 128, Value.int (Int32.ofInt r)] w (.inl (some (.int (Int32.ofInt (rankI (S 154 r.toNat) (S 156 r.toNat)))))) w' ∧ mR w0 S V w' := by
  have key : xEv (d + 1) 240 0 (lv_args 0 [Value.ref 128, Value.int (Int32.ofInt r)]) [] w (fun o w' => o = .inl (some (.int (Int32.ofInt (rankI (S 154 r.toNat) (S 156 r.toNat))))) ∧ mR w0 S V w') := by
    refine i_240_0 (x := 128) rfl ?_
    refine i_240_1 (v := Value.ref 154) hR.c128 rfl ?_
    refine i_240_4 (x := Int32.ofInt r) rfl ?_
    refine i_240_5 (v := Value.int (Int32.ofInt (S 154 ((r).toNat)))) (hR.row a154) (ix0 (T := r) (by omega) (by omega)) (ix1 (T := r) (by omega) (by omega) (by omega)) (ra (T := r) (by omega) (by omega) rfl) ?_
    refine i_240_6 ?_
    refine i_240_7 (b_ne (a := S 154 ((r).toNat)) (b := 1) ⟨by omega, by omega⟩ ⟨by decide, by decide⟩ fun c0 => ?_) (b_eq (a := S 154 ((r).toNat)) (b := 1) ⟨by omega, by omega⟩ ⟨by decide, by decide⟩ fun c0 => ?_)
    · refine i_240_14 (x := 128) rfl ?_
      refine i_240_15 (v := Value.ref 154) hR.c128 rfl ?_
      refine i_240_18 (x := Int32.ofInt r) rfl ?_
      refine i_240_19 (v := Value.int (Int32.ofInt (S 154 ((r).toNat)))) (hR.row a154) (ix0 (T := r) (by omega) (by omega)) (ix1 (T := r) (by omega) (by omega) (by omega)) (ra (T := r) (by omega) (by omega) rfl) ?_
      refine i_240_20 ?_
      refine i_240_21 (b_ne (a := S 154 ((r).toNat)) (b := 3) ⟨by omega, by omega⟩ ⟨by decide, by decide⟩ fun c1 => ?_) (b_eq (a := S 154 ((r).toNat)) (b := 3) ⟨by omega, by omega⟩ ⟨by decide, by decide⟩ fun c1 => ?_)
      · refine i_240_28 ?_
        refine i_240_29 (lv2 := [(2, Value.int 0), (0, Value.ref 128), (1, Value.int (Int32.ofInt r))]) rfl ?_
        refine i_240_30 (x := 128) rfl ?_
        refine i_240_31 (v := Value.ref 156) hR.c128 rfl ?_
        refine i_240_34 (x := Int32.ofInt r) rfl ?_
        refine i_240_35z (v := Value.int (Int32.ofInt (S 156 ((r).toNat)))) (hR.row a156) (ix0 (T := r) (by omega) (by omega)) (ix1 (T := r) (by omega) (by omega) (by omega)) (ra (T := r) (by omega) (by omega) rfl) ?_
        refine i_240_36 (z_eq (a := S 156 ((r).toNat)) ⟨by omega, by omega⟩ fun c2 => ?_) (z_ne (a := S 156 ((r).toNat)) ⟨by omega, by omega⟩ fun c2 => ?_)
        · refine i_240_44 (x := 0) rfl ?_
          refine i_240_45 ?_
          have e : rankI (S 154 r.toNat) (S 156 r.toNat) = 0 := by unfold rankI; grind
          rw [e]
          exact ⟨rfl, hR⟩
        · refine i_240_39 (x := 0) rfl ?_
          refine i_240_40 (c := 0) (rfl) ?_
          refine i_240_41 ?_
          refine i_240_45 ?_
          have e : rankI (S 154 r.toNat) (S 156 r.toNat) = 0 := by unfold rankI; grind
          rw [e]
          exact ⟨rfl, hR⟩
      · refine i_240_24 ?_
        refine i_240_25 ?_
        refine i_240_29 (lv2 := [(2, Value.int 1), (0, Value.ref 128), (1, Value.int (Int32.ofInt r))]) rfl ?_
        refine i_240_30 (x := 128) rfl ?_
        refine i_240_31 (v := Value.ref 156) hR.c128 rfl ?_
        refine i_240_34 (x := Int32.ofInt r) rfl ?_
        refine i_240_35z (v := Value.int (Int32.ofInt (S 156 ((r).toNat)))) (hR.row a156) (ix0 (T := r) (by omega) (by omega)) (ix1 (T := r) (by omega) (by omega) (by omega)) (ra (T := r) (by omega) (by omega) rfl) ?_
        refine i_240_36 (z_eq (a := S 156 ((r).toNat)) ⟨by omega, by omega⟩ fun c3 => ?_) (z_ne (a := S 156 ((r).toNat)) ⟨by omega, by omega⟩ fun c3 => ?_)
        · refine i_240_44 (x := 1) rfl ?_
          refine i_240_45 ?_
          have e : rankI (S 154 r.toNat) (S 156 r.toNat) = 1 := by unfold rankI; grind
          rw [e]
          exact ⟨rfl, hR⟩
        · refine i_240_39 (x := 1) rfl ?_
          refine i_240_40 (c := (-1)) (rfl) ?_
          refine i_240_41 ?_
          refine i_240_45 ?_
          have e : rankI (S 154 r.toNat) (S 156 r.toNat) = (-1) := by unfold rankI; grind
          rw [e]
          exact ⟨rfl, hR⟩
    · refine i_240_10 ?_
      refine i_240_11 ?_
      refine i_240_29 (lv2 := [(2, Value.int 2), (0, Value.ref 128), (1, Value.int (Int32.ofInt r))]) rfl ?_
      refine i_240_30 (x := 128) rfl ?_
      refine i_240_31 (v := Value.ref 156) hR.c128 rfl ?_
      refine i_240_34 (x := Int32.ofInt r) rfl ?_
      refine i_240_35z (v := Value.int (Int32.ofInt (S 156 ((r).toNat)))) (hR.row a156) (ix0 (T := r) (by omega) (by omega)) (ix1 (T := r) (by omega) (by omega) (by omega)) (ra (T := r) (by omega) (by omega) rfl) ?_
      refine i_240_36 (z_eq (a := S 156 ((r).toNat)) ⟨by omega, by omega⟩ fun c4 => ?_) (z_ne (a := S 156 ((r).toNat)) ⟨by omega, by omega⟩ fun c4 => ?_)
      · refine i_240_44 (x := 2) rfl ?_
        refine i_240_45 ?_
        have e : rankI (S 154 r.toNat) (S 156 r.toNat) = 2 := by unfold rankI; grind
        rw [e]
        exact ⟨rfl, hR⟩
      · refine i_240_39 (x := 2) rfl ?_
        refine i_240_40 (c := (-2)) (rfl) ?_
        refine i_240_41 ?_
        refine i_240_45 ?_
        have e : rankI (S 154 r.toNat) (S 156 r.toNat) = (-2) := by unfold rankI; grind
        rw [e]
        exact ⟨rfl, hR⟩
  obtain ⟨o, w', h1, rfl, h2⟩ := key.run
  exact ⟨w', h1, h2⟩
theorem s_csz {d : Nat} {w0 w : xW} {S : Nat → Nat → Int} {V : Nat → Nat} {a b : Int} (hR : mR w0 S V w) (hI : mI S V) (ha : 0 ≤ a ∧ a ≤ 15) (hb : 0 ≤ b ∧ b ≤ 15) : ∃ w', xRun (d + 3) 241 [Value.ref 128, Value.int (Int32.ofInt a), Value.int (Int32.ofInt b)] w (.inl (some (.int (Int32.ofInt (sCz S V a.toNat b.toNat))))) w' ∧ ∃ V', mR w0 S V' w' ∧ nV V V' := by
  obtain ⟨hp_a, hk_a, hn_a, ht_a, hx_a, -⟩ := hI.1 a.toNat (by omega)
  obtain ⟨hp_b, hk_b, hn_b, ht_b, hx_b, -⟩ := hI.1 b.toNat (by omega)
  have hi_l := hI.2.1
  have hi_g := hI.2.2.1
  have hi_f := hI.2.2.2
  have key : xEv (d + 3) 241 0 (lv_args 0 [Value.ref 128, Value.int (Int32.ofInt a), Value.int (Int32.ofInt b)]) [] w (fun o w' => o = .inl (some (.int (Int32.ofInt (sCz S V a.toNat b.toNat)))) ∧ ∃ V', mR w0 S V' w' ∧ nV V V') := by
    refine i_241_0 (x := 128) rfl ?_
    refine i_241_1 (v := Value.ref 155) hR.c128 rfl ?_
    refine i_241_4 (x := Int32.ofInt a) rfl ?_
    refine i_241_5 (v := Value.int (Int32.ofInt (S 155 ((a).toNat)))) (hR.row a155) (ix0 (T := a) (by omega) (by omega)) (ix1 (T := a) (by omega) (by omega) (by omega)) (ra (T := a) (by omega) (by omega) rfl) ?_
    refine i_241_6 (x := 128) rfl ?_
    refine i_241_7 (v := Value.ref 155) hR.c128 rfl ?_
    refine i_241_10 (x := Int32.ofInt b) rfl ?_
    refine i_241_11 (v := Value.int (Int32.ofInt (S 155 ((b).toNat)))) (hR.row a155) (ix0 (T := b) (by omega) (by omega)) (ix1 (T := b) (by omega) (by omega) (by omega)) (ra (T := b) (by omega) (by omega) rfl) ?_
    refine i_241_12 (b_eq (a := S 155 ((a).toNat)) (b := S 155 ((b).toNat)) ⟨by omega, by omega⟩ ⟨by omega, by omega⟩ fun c0 => ?_) (b_ne (a := S 155 ((a).toNat)) (b := S 155 ((b).toNat)) ⟨by omega, by omega⟩ ⟨by omega, by omega⟩ fun c0 => ?_)
    · refine i_241_36 (x := 128) rfl ?_
      refine i_241_37 (x := Int32.ofInt a) rfl ?_
      have hobj := hR.c128
      obtain ⟨w, hrun, hR⟩ := s_exponent (d := d + 1) (r := a) hR (by omega) (by omega)
      refine i_241_38 hobj (Nat.le_of_ble_eq_true rfl) hrun ?_
      refine i_241_41 (x := 128) rfl ?_
      refine i_241_42 (x := Int32.ofInt b) rfl ?_
      have hobj := hR.c128
      obtain ⟨w, hrun, hR⟩ := s_exponent (d := d + 1) (r := b) hR (by omega) (by omega)
      refine i_241_43 hobj (Nat.le_of_ble_eq_true rfl) hrun ?_
      have hrun := s_min (d := d + 1) (w := w) (a := S 155 a.toNat - S 153 a.toNat) (b := S 155 b.toNat - S 153 b.toNat) ⟨by omega, by omega⟩ ⟨by omega, by omega⟩
      refine i_241_46 (Nat.le_of_ble_eq_true rfl) hrun ?_
      refine i_241_49 (lv2 := [(3, Value.int (Int32.ofInt (min (S 155 a.toNat - S 153 a.toNat) (S 155 b.toNat - S 153 b.toNat)))), (0, Value.ref 128), (1, Value.int (Int32.ofInt a)), (2, Value.int (Int32.ofInt b))]) rfl ?_
      refine i_241_50 (x := 128) rfl ?_
      refine i_241_51 (v := Value.ref 129) hR.c128 rfl ?_
      refine i_241_54 (x := 128) rfl ?_
      refine i_241_55 (v := Value.ref 157) hR.c128 rfl ?_
      refine i_241_58 (x := Int32.ofInt a) rfl ?_
      obtain ⟨gp, hgp, hgr⟩ := hR.part (j := (a).toNat) (by omega)
      refine i_241_59 (v := Value.ref (160 + 2 * a.toNat)) hgp (ix0 (by omega) (by omega)) (ix1 (by omega) (by omega) (by omega)) (by rw [ixn (by omega) (by omega)]; exact hgr) ?_
      obtain ⟨fs, hobj⟩ := hR.obj (h := 129) (iNw (h := 129) (by decide) (by decide) (by decide))
      obtain ⟨w, hrun, hR⟩ := r_setn (d := d) (v := V (160 + 2 * a.toNat)) (c := 4700) hR (iNw (h := 129) (by decide) (by decide) (by decide)) (iNp (r := a) (by omega) (by omega)) (rfl) rfl (by omega)
      refine i_241_60 hobj (Nat.le_of_ble_eq_true rfl) hrun ?_
      refine i_241_63 (x := 128) rfl ?_
      refine i_241_64 (v := Value.ref 129) hR.c128 rfl ?_
      refine i_241_67 (x := 128) rfl ?_
      refine i_241_68 (x := Int32.ofInt a) rfl ?_
      have hobj := hR.c128
      obtain ⟨w, hrun, hR⟩ := s_exponent (d := d + 1) (r := a) hR (by omega) (by omega)
      refine i_241_69 hobj (Nat.le_of_ble_eq_true rfl) hrun ?_
      refine i_241_72 (x := Int32.ofInt (min (S 155 a.toNat - S 153 a.toNat) (S 155 b.toNat - S 153 b.toNat))) rfl ?_
      refine i_241_73 (c := Int32.ofInt ((S 155 a.toNat - S 153 a.toNat) - (min (S 155 a.toNat - S 153 a.toNat) (S 155 b.toNat - S 153 b.toNat)))) (o_sub (S 155 a.toNat - S 153 a.toNat) (min (S 155 a.toNat - S 153 a.toNat) (S 155 b.toNat - S 153 b.toNat))) ?_
      obtain ⟨fs, hobj⟩ := hR.obj (h := 129) (iNw (h := 129) (by decide) (by decide) (by decide))
      obtain ⟨w, hrun, hR⟩ := r_up (d := d) (v := V (160 + 2 * a.toNat)) (c := 4700) (k := (S 155 a.toNat - S 153 a.toNat) - (min (S 155 a.toNat - S 153 a.toNat) (S 155 b.toNat - S 153 b.toNat))) hR (iNw (h := 129) (by decide) (by decide) (by decide)) (uv_s) rfl (by omega) (by omega)
      rw [uvv] at hR
      refine i_241_74 hobj (Nat.le_of_ble_eq_true rfl) hrun ?_
      refine i_241_77 (x := 128) rfl ?_
      refine i_241_78 (v := Value.ref 131) hR.c128 rfl ?_
      refine i_241_81 (x := 128) rfl ?_
      refine i_241_82 (v := Value.ref 157) hR.c128 rfl ?_
      refine i_241_85 (x := Int32.ofInt b) rfl ?_
      obtain ⟨gp, hgp, hgr⟩ := hR.part (j := (b).toNat) (by omega)
      refine i_241_86 (v := Value.ref (160 + 2 * b.toNat)) hgp (ix0 (by omega) (by omega)) (ix1 (by omega) (by omega) (by omega)) (by rw [ixn (by omega) (by omega)]; exact hgr) ?_
      obtain ⟨fs, hobj⟩ := hR.obj (h := 131) (iNw (h := 131) (by decide) (by decide) (by decide))
      obtain ⟨w, hrun, hR⟩ := r_setn (d := d) (v := V (160 + 2 * b.toNat)) (c := 4700) hR (iNw (h := 131) (by decide) (by decide) (by decide)) (iNp (r := b) (by omega) (by omega)) ((uv_n (by omega)).trans (rfl)) rfl (by omega)
      refine i_241_87 hobj (Nat.le_of_ble_eq_true rfl) hrun ?_
      refine i_241_90 (x := 128) rfl ?_
      refine i_241_91 (v := Value.ref 131) hR.c128 rfl ?_
      refine i_241_94 (x := 128) rfl ?_
      refine i_241_95 (x := Int32.ofInt b) rfl ?_
      have hobj := hR.c128
      obtain ⟨w, hrun, hR⟩ := s_exponent (d := d + 1) (r := b) hR (by omega) (by omega)
      refine i_241_96 hobj (Nat.le_of_ble_eq_true rfl) hrun ?_
      refine i_241_99 (x := Int32.ofInt (min (S 155 a.toNat - S 153 a.toNat) (S 155 b.toNat - S 153 b.toNat))) rfl ?_
      refine i_241_100 (c := Int32.ofInt ((S 155 b.toNat - S 153 b.toNat) - (min (S 155 a.toNat - S 153 a.toNat) (S 155 b.toNat - S 153 b.toNat)))) (o_sub (S 155 b.toNat - S 153 b.toNat) (min (S 155 a.toNat - S 153 a.toNat) (S 155 b.toNat - S 153 b.toNat))) ?_
      obtain ⟨fs, hobj⟩ := hR.obj (h := 131) (iNw (h := 131) (by decide) (by decide) (by decide))
      obtain ⟨w, hrun, hR⟩ := r_up (d := d) (v := V (160 + 2 * b.toNat)) (c := 4700) (k := (S 155 b.toNat - S 153 b.toNat) - (min (S 155 a.toNat - S 153 a.toNat) (S 155 b.toNat - S 153 b.toNat))) hR (iNw (h := 131) (by decide) (by decide) (by decide)) (uv_s) rfl (by omega) (by omega)
      rw [uvv] at hR
      refine i_241_101 hobj (Nat.le_of_ble_eq_true rfl) hrun ?_
      refine i_241_104 (x := 128) rfl ?_
      refine i_241_105 (v := Value.ref 129) hR.c128 rfl ?_
      refine i_241_108 (x := 128) rfl ?_
      refine i_241_109 (v := Value.ref 131) hR.c128 rfl ?_
      obtain ⟨fs, hobj⟩ := hR.obj (h := 129) (iNw (h := 129) (by decide) (by decide) (by decide))
      have hrun := r_cmp (d := d) (v := (V (160 + 2 * a.toNat)) * 2 ^ ((S 155 a.toNat - S 153 a.toNat) - (min (S 155 a.toNat - S 153 a.toNat) (S 155 b.toNat - S 153 b.toNat)) : Int).toNat) (v2 := (V (160 + 2 * b.toNat)) * 2 ^ ((S 155 b.toNat - S 153 b.toNat) - (min (S 155 a.toNat - S 153 a.toNat) (S 155 b.toNat - S 153 b.toNat)) : Int).toNat) hR (iNw (h := 129) (by decide) (by decide) (by decide)) (iNw (h := 131) (by decide) (by decide) (by decide)) ((uv_n (by omega)).trans (uv_s)) (uv_s)
      refine i_241_112 hobj (Nat.le_of_ble_eq_true rfl) hrun ?_
      refine i_241_115 ?_
      have e : sCz S V a.toNat b.toNat = ncmp ((V (160 + 2 * a.toNat)) * 2 ^ ((S 155 a.toNat - S 153 a.toNat) - (min (S 155 a.toNat - S 153 a.toNat) (S 155 b.toNat - S 153 b.toNat)) : Int).toNat) ((V (160 + 2 * b.toNat)) * 2 ^ ((S 155 b.toNat - S 153 b.toNat) - (min (S 155 a.toNat - S 153 a.toNat) (S 155 b.toNat - S 153 b.toNat)) : Int).toNat) := by unfold sCz; first | (rw [if_pos (by omega), if_pos (by omega)]; done) | (rw [if_pos (by omega), if_neg (by omega)]; done) | rw [if_neg (by omega)]
      rw [e]
      exact ⟨rfl, _, hR, (nV.up (nV.up nV.refl (by omega)) (by omega))⟩
    · refine i_241_15 (x := 128) rfl ?_
      refine i_241_16 (v := Value.ref 155) hR.c128 rfl ?_
      refine i_241_19 (x := Int32.ofInt a) rfl ?_
      refine i_241_20 (v := Value.int (Int32.ofInt (S 155 ((a).toNat)))) (hR.row a155) (ix0 (T := a) (by omega) (by omega)) (ix1 (T := a) (by omega) (by omega) (by omega)) (ra (T := a) (by omega) (by omega) rfl) ?_
      refine i_241_21 (x := 128) rfl ?_
      refine i_241_22 (v := Value.ref 155) hR.c128 rfl ?_
      refine i_241_25 (x := Int32.ofInt b) rfl ?_
      refine i_241_26 (v := Value.int (Int32.ofInt (S 155 ((b).toNat)))) (hR.row a155) (ix0 (T := b) (by omega) (by omega)) (ix1 (T := b) (by omega) (by omega) (by omega)) (ra (T := b) (by omega) (by omega) rfl) ?_
      refine i_241_27 (b_le (a := S 155 ((b).toNat)) (b := S 155 ((a).toNat)) ⟨by omega, by omega⟩ ⟨by omega, by omega⟩ fun c1 => ?_) (b_lt (a := S 155 ((a).toNat)) (b := S 155 ((b).toNat)) ⟨by omega, by omega⟩ ⟨by omega, by omega⟩ fun c1 => ?_)
      · refine i_241_34 ?_
        refine i_241_35 ?_
        have e : sCz S V a.toNat b.toNat = 1 := by unfold sCz; first | (rw [if_pos (by omega), if_pos (by omega)]; done) | (rw [if_pos (by omega), if_neg (by omega)]; done) | rw [if_neg (by omega)]
        rw [e]
        exact ⟨rfl, _, hR, nV.refl⟩
      · refine i_241_30 ?_
        refine i_241_31 ?_
        refine i_241_35 ?_
        have e : sCz S V a.toNat b.toNat = (-1) := by unfold sCz; first | (rw [if_pos (by omega), if_pos (by omega)]; done) | (rw [if_pos (by omega), if_neg (by omega)]; done) | rw [if_neg (by omega)]
        rw [e]
        exact ⟨rfl, _, hR, nV.refl⟩
  obtain ⟨o, w', h1, rfl, h2⟩ := key.run
  exact ⟨w', h1, h2⟩
