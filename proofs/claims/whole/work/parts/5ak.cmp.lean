/-! compare, look, end, octet of the reference, inside their checks -/
theorem mR.app {w0 w : xW} {S : Nat → Nat → Int} {V : Nat → Nat} {c : xC} (hR : mR w0 S V w) (hl : 194 ≤ w.length) : mR (w0 ++ [c]) S V (w ++ [c]) := by
  obtain ⟨⟨l1, l2, l3⟩, c1, c2, c3, c4⟩ := hR
  have lk : ∀ {k : Nat} {x : xC}, w[k]? = some x → (w ++ [c])[k]? = some x := fun {k x} h => by
    rw [List.getElem?_append_left (List.getElem?_eq_some_iff.mp h).1]; exact h
  refine ⟨⟨by rw [List.length_append, List.length_append, l1], by rw [xsz_push, xsz_push, l2], fun k hk => ?_⟩, lk c1, fun a t n h => lk (c2 a t n h), ?_, fun h hh => ?_⟩
  · by_cases h : k < w.length
    · rw [List.getElem?_append_left h, List.getElem?_append_left (by omega)]; exact l3 k hk
    · rw [List.getElem?_append_right (by omega), List.getElem?_append_right (by omega), l1]
  · obtain ⟨gp, p1, p2⟩ := c3
    exact ⟨gp, lk p1, p2⟩
  · obtain ⟨n, g, e1, e2, e3⟩ := c4 h hh
    exact ⟨n, g, lk e1, lk e2, e3⟩
theorem s_dis0 {d : Nat} {w : xW} : xRun (d + 1) 239 [.ref 128, .int 0] w (.inl none) w := by
  refine xRun.of ?_
  refine i_239_0 (x := 0) rfl ?_
  refine i_239_1 (fun c => absurd c (by decide)) (fun _ => ?_)
  refine i_239_4 ?_
  exact ⟨rfl, rfl⟩
theorem s_dis1 {d : Nat} {w0 w : xW} {S : Nat → Nat → Int} {V : Nat → Nat} (hR : mR w0 S V w) : ∃ w1, xRun (d + 6) 239 [.ref 128, .int 1] w (.inr w1.length) (w1 ++ [.inr (15, [])]) ∧ mR w0 (u2 S 128 19 (zor (S 128 19) 32)) V w1 := by
  have key : xEv (d + 6) 239 0 (lv_args 0 [.ref 128, .int 1]) [] w (fun o w' => ∃ w1, o = .inr w1.length ∧ w' = w1 ++ [.inr (15, [])] ∧ mR w0 (u2 S 128 19 (zor (S 128 19) 32)) V w1) := by
    refine i_239_0 (x := 1) rfl ?_
    refine i_239_1 (fun _ => ?_) (fun c => absurd c (by decide))
    refine i_239_5 (x := 128) rfl ?_
    refine i_239_6 rfl ?_
    refine i_239_7 (v := Value.int (Int32.ofInt (S 128 19))) hR.c128 rfl ?_
    refine i_239_10 ?_
    refine i_239_12 (c := Int32.ofInt (zor (S 128 19) 32)) (o_or (S 128 19) 32) ?_
    refine i_239_13 (fs2 := mf (u1 (S 128) 19 (zor (S 128 19) 32))) hR.c128 (Nat.le_of_ble_eq_true rfl) (mfs_19 (v := zor (S 128 19) 32)) (by decide) ?_
    refine xgen (P := mR w0 (u2 S 128 19 (zor (S 128 19) 32)) V) hR.fld2 (fun w hR => ?_)
    refine i_239_16 (by omega) (Nat.le_of_ble_eq_true rfl) ?_
    exact ⟨w, rfl, rfl, hR⟩
  obtain ⟨o, w', h1, w1, rfl, rfl, h2⟩ := key.run
  exact ⟨w1, h1, h2⟩
theorem s_there1 {d : Nat} {w : xW} : xRun (d + 1) 244 [.int 1] w (.inl none) w := by
  refine xRun.of ?_
  refine i_244_0 (x := 1) rfl ?_
  refine i_244_1 (fun _ => ?_) (fun c => absurd c (by decide))
  refine i_244_12 ?_
  exact ⟨rfl, rfl⟩
theorem s_there0 {d : Nat} {w : xW} : xRun (d + 6) 244 [.int 0] w (.inr w.length) (w ++ [.inr (16, [])]) := by
  refine xRun.of ?_
  refine i_244_0 (x := 0) rfl ?_
  refine i_244_1 (fun c => absurd c (by decide)) (fun _ => ?_)
  refine i_244_4 (by omega) (Nat.le_of_ble_eq_true rfl) ?_
  exact ⟨rfl, rfl⟩
theorem s_text1 {d : Nat} {w : xW} : xRun (d + 1) 261 [.int 1] w (.inl none) w := by
  refine xRun.of ?_
  refine i_261_0 (x := 1) rfl ?_
  refine i_261_1 (fun _ => ?_) (fun c => absurd c (by decide))
  refine i_261_12 ?_
  exact ⟨rfl, rfl⟩
theorem s_text0 {d : Nat} {w : xW} : xRun (d + 6) 261 [.int 0] w (.inr w.length) (w ++ [.inr (15, [])]) := by
  refine xRun.of ?_
  refine i_261_0 (x := 0) rfl ?_
  refine i_261_1 (fun c => absurd c (by decide)) (fun _ => ?_)
  refine i_261_4 (by omega) (Nat.le_of_ble_eq_true rfl) ?_
  exact ⟨rfl, rfl⟩
theorem rank_b {k s : Int} : -2 ≤ rankI k s ∧ rankI k s ≤ 2 := by unfold rankI; grind
theorem csz_b {S : Nat → Nat → Int} {V : Nat → Nat} {a b : Nat} : -1 ≤ sCz S V a b ∧ sCz S V a b ≤ 1 := by
  unfold sCz
  have := ncmp_i (V (160 + 2 * a) * 2 ^ (S 155 a - S 153 a - min (S 155 a - S 153 a) (S 155 b - S 153 b)).toNat) (V (160 + 2 * b) * 2 ^ (S 155 b - S 153 b - min (S 155 a - S 153 a) (S 155 b - S 153 b)).toNat)
  split
  · split <;> omega
  · omega
def sCm (S : Nat → Nat → Int) (V : Nat → Nat) (a b : Nat) : Int :=
  if rankI (S 154 a) (S 156 a) ≠ rankI (S 154 b) (S 156 b) then (if rankI (S 154 a) (S 156 a) < rankI (S 154 b) (S 156 b) then -1 else 1)
  else if S 154 a ≠ 3 then 0 else if S 156 a = 0 then sCz S V a b else -sCz S V a b
theorem s_cmp {d : Nat} {w0 w : xW} {S : Nat → Nat → Int} {V : Nat → Nat} {a b : Int} (hR : mR w0 S V w) (hI : mI S V) (ha : 0 ≤ a ∧ a ≤ 15) (hb : 0 ≤ b ∧ b ≤ 15) (ka : S 154 a.toNat ≠ 0) (kb : S 154 b.toNat ≠ 0) : ∃ w', xRun (d + 8) 238 [Value.ref 128, Value.int (Int32.ofInt a), Value.int (Int32.ofInt b)] w (.inl (some (.int (Int32.ofInt (sCm S V a.toNat b.toNat))))) w' ∧ ∃ V', mR w0 S V' w' ∧ nV V V' := by
  obtain ⟨hp_a, hk_a, hn_a, ht_a, hx_a, -⟩ := hI.1 a.toNat (by omega)
  obtain ⟨hp_b, hk_b, hn_b, ht_b, hx_b, -⟩ := hI.1 b.toNat (by omega)
  have hi_l := hI.2.1
  have hi_g := hI.2.2.1
  have hi_f := hI.2.2.2
  have hra := rank_b (k := S 154 a.toNat) (s := S 156 a.toNat)
  have hrb := rank_b (k := S 154 b.toNat) (s := S 156 b.toNat)
  have hcz := csz_b (S := S) (V := V) (a := a.toNat) (b := b.toNat)
  have key : xEv (d + 8) 238 0 (lv_args 0 [Value.ref 128, Value.int (Int32.ofInt a), Value.int (Int32.ofInt b)]) [] w (fun o w' => o = .inl (some (.int (Int32.ofInt (sCm S V a.toNat b.toNat)))) ∧ ∃ V', mR w0 S V' w' ∧ nV V V') := by
    refine i_238_0 (x := Int32.ofInt a) rfl ?_
    have hrun := s_reg1 (d := d + 5) (w := w) (r := a) (by omega) (by omega)
    refine i_238_1 (Nat.le_of_ble_eq_true rfl) hrun ?_
    refine i_238_4 (x := Int32.ofInt b) rfl ?_
    have hrun := s_reg1 (d := d + 5) (w := w) (r := b) (by omega) (by omega)
    refine i_238_5 (Nat.le_of_ble_eq_true rfl) hrun ?_
    refine i_238_8 (x := 128) rfl ?_
    refine i_238_9 (x := 128) rfl ?_
    refine i_238_10 (v := Value.ref 154) hR.c128 rfl ?_
    refine i_238_13 (x := Int32.ofInt a) rfl ?_
    refine i_238_14 (v := Value.int (Int32.ofInt (S 154 ((a).toNat)))) (hR.row a154) (ix0 (T := a) (by omega) (by omega)) (ix1 (T := a) (by omega) (by omega) (by omega)) (ra (T := a) (by omega) (by omega) rfl) ?_
    refine i_238_15 (z_eq (a := S 154 ((a).toNat)) ⟨by omega, by omega⟩ fun c0 => ?_) (z_ne (a := S 154 ((a).toNat)) ⟨by omega, by omega⟩ fun c0 => ?_)
    · refine i_238_27 ?_
      refine i_238_28 ?_
      have hobj := hR.c128
      obtain ⟨w, hrun, hR⟩ := s_dis1 (d := d + 1) hR
      refine j_238_32 hobj (Nat.le_of_ble_eq_true rfl) hrun (xDone.t (ci := 15) xgl rfl rfl ?_)
      exfalso; omega
    · refine i_238_18 (x := 128) rfl ?_
      refine i_238_19 (v := Value.ref 154) hR.c128 rfl ?_
      refine i_238_22 (x := Int32.ofInt b) rfl ?_
      refine i_238_23 (v := Value.int (Int32.ofInt (S 154 ((b).toNat)))) (hR.row a154) (ix0 (T := b) (by omega) (by omega)) (ix1 (T := b) (by omega) (by omega) (by omega)) (ra (T := b) (by omega) (by omega) rfl) ?_
      refine i_238_24 (z_ne (a := S 154 ((b).toNat)) ⟨by omega, by omega⟩ fun c1 => ?_) (z_eq (a := S 154 ((b).toNat)) ⟨by omega, by omega⟩ fun c1 => ?_)
      · refine i_238_31 ?_
        have hobj := hR.c128
        have hrun := s_dis0 (d := d + 6) (w := w)
        refine i_238_32 hobj (Nat.le_of_ble_eq_true rfl) hrun ?_
        refine i_238_35 (x := 128) rfl ?_
        refine i_238_36 (x := Int32.ofInt a) rfl ?_
        have hobj := hR.c128
        obtain ⟨w, hrun, hR⟩ := s_rank (d := d + 6) (r := a) hR (by omega) (by omega) (by omega)
        refine i_238_37 hobj (Nat.le_of_ble_eq_true rfl) hrun ?_
        refine i_238_40 (x := 128) rfl ?_
        refine i_238_41 (x := Int32.ofInt b) rfl ?_
        have hobj := hR.c128
        obtain ⟨w, hrun, hR⟩ := s_rank (d := d + 6) (r := b) hR (by omega) (by omega) (by omega)
        refine i_238_42 hobj (Nat.le_of_ble_eq_true rfl) hrun ?_
        refine i_238_45 (b_eq (a := rankI (S 154 a.toNat) (S 156 a.toNat)) (b := rankI (S 154 b.toNat) (S 156 b.toNat)) ⟨by omega, by omega⟩ ⟨by omega, by omega⟩ fun c2 => ?_) (b_ne (a := rankI (S 154 a.toNat) (S 156 a.toNat)) (b := rankI (S 154 b.toNat) (S 156 b.toNat)) ⟨by omega, by omega⟩ ⟨by omega, by omega⟩ fun c2 => ?_)
        · refine i_238_67 (x := 128) rfl ?_
          refine i_238_68 (v := Value.ref 154) hR.c128 rfl ?_
          refine i_238_71 (x := Int32.ofInt a) rfl ?_
          refine i_238_72 (v := Value.int (Int32.ofInt (S 154 ((a).toNat)))) (hR.row a154) (ix0 (T := a) (by omega) (by omega)) (ix1 (T := a) (by omega) (by omega) (by omega)) (ra (T := a) (by omega) (by omega) rfl) ?_
          refine i_238_73 ?_
          refine i_238_74 (b_eq (a := S 154 ((a).toNat)) (b := 3) ⟨by omega, by omega⟩ ⟨by decide, by decide⟩ fun c3 => ?_) (b_ne (a := S 154 ((a).toNat)) (b := 3) ⟨by omega, by omega⟩ ⟨by decide, by decide⟩ fun c3 => ?_)
          · refine i_238_79 (x := 128) rfl ?_
            refine i_238_80 (x := Int32.ofInt a) rfl ?_
            refine i_238_81 (x := Int32.ofInt b) rfl ?_
            have hobj := hR.c128
            obtain ⟨w, hrun, V1, hR, hnV⟩ := s_csz (d := d + 4) (a := a) (b := b) hR hI (by omega) (by omega)
            refine i_238_82 hobj (Nat.le_of_ble_eq_true rfl) hrun ?_
            refine i_238_85 (lv2 := [(3, Value.int (Int32.ofInt (sCz S V a.toNat b.toNat))), (0, Value.ref 128), (1, Value.int (Int32.ofInt a)), (2, Value.int (Int32.ofInt b))]) rfl ?_
            refine i_238_86 (x := 128) rfl ?_
            refine i_238_87 (v := Value.ref 156) hR.c128 rfl ?_
            refine i_238_90 (x := Int32.ofInt a) rfl ?_
            refine i_238_91z (v := Value.int (Int32.ofInt (S 156 ((a).toNat)))) (hR.row a156) (ix0 (T := a) (by omega) (by omega)) (ix1 (T := a) (by omega) (by omega) (by omega)) (ra (T := a) (by omega) (by omega) rfl) ?_
            refine i_238_92 (z_eq (a := S 156 ((a).toNat)) ⟨by omega, by omega⟩ fun c4 => ?_) (z_ne (a := S 156 ((a).toNat)) ⟨by omega, by omega⟩ fun c4 => ?_)
            · refine i_238_100 (x := Int32.ofInt (sCz S V a.toNat b.toNat)) rfl ?_
              refine i_238_101 ?_
              have e : sCm S V a.toNat b.toNat = sCz S V a.toNat b.toNat := by unfold sCm; first | (rw [if_pos (by omega), if_pos (by omega)]; done) | (rw [if_pos (by omega), if_neg (by omega)]; done) | (rw [if_neg (by omega), if_pos (by omega)]; done) | (rw [if_neg (by omega), if_neg (by omega), if_pos (by omega)]; done) | (rw [if_neg (by omega), if_neg (by omega), if_neg (by omega)]; done)
              rw [e]
              exact ⟨rfl, _, hR, hnV⟩
            · refine i_238_95 (x := Int32.ofInt (sCz S V a.toNat b.toNat)) rfl ?_
              refine i_238_96 (c := Int32.ofInt (-(sCz S V a.toNat b.toNat))) (o_neg (sCz S V a.toNat b.toNat)) ?_
              refine i_238_97 ?_
              refine i_238_101 ?_
              have e : sCm S V a.toNat b.toNat = -(sCz S V a.toNat b.toNat) := by unfold sCm; first | (rw [if_pos (by omega), if_pos (by omega)]; done) | (rw [if_pos (by omega), if_neg (by omega)]; done) | (rw [if_neg (by omega), if_pos (by omega)]; done) | (rw [if_neg (by omega), if_neg (by omega), if_pos (by omega)]; done) | (rw [if_neg (by omega), if_neg (by omega), if_neg (by omega)]; done)
              rw [e]
              exact ⟨rfl, _, hR, hnV⟩
          · refine i_238_77 ?_
            refine i_238_78 ?_
            have e : sCm S V a.toNat b.toNat = 0 := by unfold sCm; first | (rw [if_pos (by omega), if_pos (by omega)]; done) | (rw [if_pos (by omega), if_neg (by omega)]; done) | (rw [if_neg (by omega), if_pos (by omega)]; done) | (rw [if_neg (by omega), if_neg (by omega), if_pos (by omega)]; done) | (rw [if_neg (by omega), if_neg (by omega), if_neg (by omega)]; done)
            rw [e]
            exact ⟨rfl, _, hR, nV.refl⟩
        · refine i_238_48 (x := 128) rfl ?_
          refine i_238_49 (x := Int32.ofInt a) rfl ?_
          have hobj := hR.c128
          obtain ⟨w, hrun, hR⟩ := s_rank (d := d + 6) (r := a) hR (by omega) (by omega) (by omega)
          refine i_238_50 hobj (Nat.le_of_ble_eq_true rfl) hrun ?_
          refine i_238_53 (x := 128) rfl ?_
          refine i_238_54 (x := Int32.ofInt b) rfl ?_
          have hobj := hR.c128
          obtain ⟨w, hrun, hR⟩ := s_rank (d := d + 6) (r := b) hR (by omega) (by omega) (by omega)
          refine i_238_55 hobj (Nat.le_of_ble_eq_true rfl) hrun ?_
          refine i_238_58 (b_le (a := rankI (S 154 b.toNat) (S 156 b.toNat)) (b := rankI (S 154 a.toNat) (S 156 a.toNat)) ⟨by omega, by omega⟩ ⟨by omega, by omega⟩ fun c5 => ?_) (b_lt (a := rankI (S 154 a.toNat) (S 156 a.toNat)) (b := rankI (S 154 b.toNat) (S 156 b.toNat)) ⟨by omega, by omega⟩ ⟨by omega, by omega⟩ fun c5 => ?_)
          · refine i_238_65 ?_
            refine i_238_66 ?_
            have e : sCm S V a.toNat b.toNat = 1 := by unfold sCm; first | (rw [if_pos (by omega), if_pos (by omega)]; done) | (rw [if_pos (by omega), if_neg (by omega)]; done) | (rw [if_neg (by omega), if_pos (by omega)]; done) | (rw [if_neg (by omega), if_neg (by omega), if_pos (by omega)]; done) | (rw [if_neg (by omega), if_neg (by omega), if_neg (by omega)]; done)
            rw [e]
            exact ⟨rfl, _, hR, nV.refl⟩
          · refine i_238_61 ?_
            refine i_238_62 ?_
            refine i_238_66 ?_
            have e : sCm S V a.toNat b.toNat = (-1) := by unfold sCm; first | (rw [if_pos (by omega), if_pos (by omega)]; done) | (rw [if_pos (by omega), if_neg (by omega)]; done) | (rw [if_neg (by omega), if_pos (by omega)]; done) | (rw [if_neg (by omega), if_neg (by omega), if_pos (by omega)]; done) | (rw [if_neg (by omega), if_neg (by omega), if_neg (by omega)]; done)
            rw [e]
            exact ⟨rfl, _, hR, nV.refl⟩
      · refine i_238_27 ?_
        refine i_238_28 ?_
        have hobj := hR.c128
        obtain ⟨w, hrun, hR⟩ := s_dis1 (d := d + 1) hR
        refine j_238_32 hobj (Nat.le_of_ble_eq_true rfl) hrun (xDone.t (ci := 15) xgl rfl rfl ?_)
        exfalso; omega
  obtain ⟨o, w', h1, rfl, h2⟩ := key.run
  exact ⟨w', h1, h2⟩
theorem n_cmp {d : Nat} {w0 w : xW} {S : Nat → Nat → Int} {V : Nat → Nat} {a b : Int} (hR : mR w0 S V w) (hI : mI S V) (ha : 0 ≤ a ∧ a ≤ 15) (hb : 0 ≤ b ∧ b ≤ 15) (hk : S 154 a.toNat = 0 ∨ S 154 b.toNat = 0) : ∃ w1, xRun (d + 8) 238 [Value.ref 128, Value.int (Int32.ofInt a), Value.int (Int32.ofInt b)] w (.inr w1.length) (w1 ++ [.inr (15, [])]) ∧ mR w0 (u2 S 128 19 (zor (S 128 19) 32)) V w1 := by
  obtain ⟨hp_a, hk_a, hn_a, ht_a, hx_a, -⟩ := hI.1 a.toNat (by omega)
  obtain ⟨hp_b, hk_b, hn_b, ht_b, hx_b, -⟩ := hI.1 b.toNat (by omega)
  have hi_l := hI.2.1
  have hi_g := hI.2.2.1
  have hi_f := hI.2.2.2
  have key : xEv (d + 8) 238 0 (lv_args 0 [Value.ref 128, Value.int (Int32.ofInt a), Value.int (Int32.ofInt b)]) [] w (fun o w' => ∃ w1, o = .inr w1.length ∧ w' = w1 ++ [.inr (15, [])] ∧ mR w0 (u2 S 128 19 (zor (S 128 19) 32)) V w1) := by
    refine i_238_0 (x := Int32.ofInt a) rfl ?_
    have hrun := s_reg1 (d := d + 5) (w := w) (r := a) (by omega) (by omega)
    refine i_238_1 (Nat.le_of_ble_eq_true rfl) hrun ?_
    refine i_238_4 (x := Int32.ofInt b) rfl ?_
    have hrun := s_reg1 (d := d + 5) (w := w) (r := b) (by omega) (by omega)
    refine i_238_5 (Nat.le_of_ble_eq_true rfl) hrun ?_
    refine i_238_8 (x := 128) rfl ?_
    refine i_238_9 (x := 128) rfl ?_
    refine i_238_10 (v := Value.ref 154) hR.c128 rfl ?_
    refine i_238_13 (x := Int32.ofInt a) rfl ?_
    refine i_238_14 (v := Value.int (Int32.ofInt (S 154 ((a).toNat)))) (hR.row a154) (ix0 (T := a) (by omega) (by omega)) (ix1 (T := a) (by omega) (by omega) (by omega)) (ra (T := a) (by omega) (by omega) rfl) ?_
    refine i_238_15 (z_eq (a := S 154 ((a).toNat)) ⟨by omega, by omega⟩ fun c0 => ?_) (z_ne (a := S 154 ((a).toNat)) ⟨by omega, by omega⟩ fun c0 => ?_)
    · refine i_238_27 ?_
      refine i_238_28 ?_
      have hobj := hR.c128
      obtain ⟨w, hrun, hR⟩ := s_dis1 (d := d + 1) hR
      refine j_238_32 hobj (Nat.le_of_ble_eq_true rfl) hrun (xDone.t (ci := 15) xgl rfl rfl ?_)
      exact ⟨w, rfl, rfl, hR⟩
    · refine i_238_18 (x := 128) rfl ?_
      refine i_238_19 (v := Value.ref 154) hR.c128 rfl ?_
      refine i_238_22 (x := Int32.ofInt b) rfl ?_
      refine i_238_23 (v := Value.int (Int32.ofInt (S 154 ((b).toNat)))) (hR.row a154) (ix0 (T := b) (by omega) (by omega)) (ix1 (T := b) (by omega) (by omega) (by omega)) (ra (T := b) (by omega) (by omega) rfl) ?_
      refine i_238_24 (z_ne (a := S 154 ((b).toNat)) ⟨by omega, by omega⟩ fun c1 => ?_) (z_eq (a := S 154 ((b).toNat)) ⟨by omega, by omega⟩ fun c1 => ?_)
      · refine i_238_31 ?_
        have hobj := hR.c128
        have hrun := s_dis0 (d := d + 6) (w := w)
        refine i_238_32 hobj (Nat.le_of_ble_eq_true rfl) hrun ?_
        exfalso; omega
      · refine i_238_27 ?_
        refine i_238_28 ?_
        have hobj := hR.c128
        obtain ⟨w, hrun, hR⟩ := s_dis1 (d := d + 1) hR
        refine j_238_32 hobj (Nat.le_of_ble_eq_true rfl) hrun (xDone.t (ci := 15) xgl rfl rfl ?_)
        exact ⟨w, rfl, rfl, hR⟩
  obtain ⟨o, w', h1, w1, rfl, rfl, h2⟩ := key.run
  exact ⟨w1, h1, h2⟩
theorem b_cmp {d : Nat} {w : xW} {a b : Int} (b_a : -2147483648 ≤ a ∧ a < 2147483648) (b_b : -2147483648 ≤ b ∧ b < 2147483648) (h : ¬ ((0 ≤ a ∧ a ≤ 15) ∧ (0 ≤ b ∧ b ≤ 15))) : xRun (d + 8) 238 [Value.ref 128, Value.int (Int32.ofInt a), Value.int (Int32.ofInt b)] w (.inr w.length) (w ++ [.inr (14, [])]) := by
  refine xRun.of ?_
  refine i_238_0 (x := Int32.ofInt a) rfl ?_
  rcases Classical.em (0 ≤ a ∧ a ≤ 15) with hc1 | hc1
  · have hrun := s_reg1 (d := d + 5) (w := w) (r := a) (by omega) hc1
    refine i_238_1 (Nat.le_of_ble_eq_true rfl) hrun ?_
    refine i_238_4 (x := Int32.ofInt b) rfl ?_
    rcases Classical.em (0 ≤ b ∧ b ≤ 15) with hc2 | hc2
    · have hrun := s_reg1 (d := d + 5) (w := w) (r := b) (by omega) hc2
      refine i_238_5 (Nat.le_of_ble_eq_true rfl) hrun ?_
      exfalso; omega
    · have hrun := s_reg0 (d := d) (w := w) (r := b) (by omega) hc2
      refine j_238_5 (Nat.le_of_ble_eq_true rfl) hrun (xDone.t (ci := 14) xgl rfl rfl ?_)
      exact ⟨rfl, rfl⟩
  · have hrun := s_reg0 (d := d) (w := w) (r := a) (by omega) hc1
    refine j_238_1 (Nat.le_of_ble_eq_true rfl) hrun (xDone.t (ci := 14) xgl rfl rfl ?_)
    exact ⟨rfl, rfl⟩
def sLook (S : Nat → Nat → Int) (r : Nat) (wh : Int) : Int := if wh = 0 then S 153 r else if wh = 1 then S 154 r else if wh = 2 then S 156 r else S 155 r
theorem s_look {d : Nat} {w0 w : xW} {S : Nat → Nat → Int} {V : Nat → Nat} {r wh : Int} (hR : mR w0 S V w) (hI : mI S V) (hr : 0 ≤ r ∧ r ≤ 15) (hw : 0 ≤ wh ∧ wh ≤ 3) (h2 : wh = 2 → S 154 r.toNat ≠ 0) (h3 : wh = 3 → S 154 r.toNat = 3) : ∃ w', xRun (d + 8) 243 [Value.ref 128, Value.int (Int32.ofInt r), Value.int (Int32.ofInt wh)] w (.inl (some (.int (Int32.ofInt (sLook S r.toNat wh))))) w' ∧ mR w0 S V w' := by
  obtain ⟨hp_r, hk_r, hn_r, ht_r, hx_r, -⟩ := hI.1 r.toNat (by omega)
  have key : xEv (d + 8) 243 0 (lv_args 0 [Value.ref 128, Value.int (Int32.ofInt r), Value.int (Int32.ofInt wh)]) [] w (fun o w' => o = .inl (some (.int (Int32.ofInt (sLook S r.toNat wh)))) ∧ mR w0 S V w') := by
    refine i_243_0 (x := Int32.ofInt r) rfl ?_
    have hrun := s_reg1 (d := d + 5) (w := w) (r := r) (by omega) (by omega)
    refine i_243_1 (Nat.le_of_ble_eq_true rfl) hrun ?_
    refine i_243_4 (x := Int32.ofInt wh) rfl ?_
    refine i_243_5 ?_
    refine i_243_6 ?_
    have hrun := s_in (d := d + 6) (w := w) (v := wh) (lo := 0) (hi := 3) ⟨by omega, by omega⟩ ⟨by decide, by decide⟩ ⟨by decide, by decide⟩
    refine i_243_7 (Nat.le_of_ble_eq_true rfl) hrun ?_
    have hrun := s_ck1 (d := d + 6) (w := w) (b := (decide (0 ≤ wh ∧ wh ≤ 3))) (decide_eq_true (by omega))
    refine i_243_10 (Nat.le_of_ble_eq_true rfl) hrun ?_
    refine i_243_13 (x := Int32.ofInt wh) rfl ?_
    refine i_243_14 (z_ne (a := wh) ⟨by omega, by omega⟩ fun c0 => ?_) (z_eq (a := wh) ⟨by omega, by omega⟩ fun c0 => ?_)
    · refine i_243_24 (x := Int32.ofInt wh) rfl ?_
      refine i_243_25 ?_
      refine i_243_26 (b_ne (a := wh) (b := 1) ⟨by omega, by omega⟩ ⟨by decide, by decide⟩ fun c1 => ?_) (b_eq (a := wh) (b := 1) ⟨by omega, by omega⟩ ⟨by decide, by decide⟩ fun c1 => ?_)
      · refine i_243_36 (x := Int32.ofInt wh) rfl ?_
        refine i_243_37 ?_
        refine i_243_38 (b_ne (a := wh) (b := 2) ⟨by omega, by omega⟩ ⟨by decide, by decide⟩ fun c2 => ?_) (b_eq (a := wh) (b := 2) ⟨by omega, by omega⟩ ⟨by decide, by decide⟩ fun c2 => ?_)
        · refine i_243_58 (x := 128) rfl ?_
          refine i_243_59 (v := Value.ref 154) hR.c128 rfl ?_
          refine i_243_62 (x := Int32.ofInt r) rfl ?_
          refine i_243_63 (v := Value.int (Int32.ofInt (S 154 ((r).toNat)))) (hR.row a154) (ix0 (T := r) (by omega) (by omega)) (ix1 (T := r) (by omega) (by omega) (by omega)) (ra (T := r) (by omega) (by omega) rfl) ?_
          refine i_243_64 ?_
          refine i_243_65 (b_ne (a := S 154 ((r).toNat)) (b := 3) ⟨by omega, by omega⟩ ⟨by decide, by decide⟩ fun c3 => ?_) (b_eq (a := S 154 ((r).toNat)) (b := 3) ⟨by omega, by omega⟩ ⟨by decide, by decide⟩ fun c3 => ?_)
          · refine i_243_72 ?_
            have hrun := s_there0 (d := d + 1) (w := w)
            refine j_243_73 (Nat.le_of_ble_eq_true rfl) hrun (xDone.t (ci := 16) xgl rfl rfl ?_)
            exfalso; omega
          · refine i_243_68 ?_
            refine i_243_69 ?_
            have hrun := s_there1 (d := d + 6) (w := w)
            refine i_243_73 (Nat.le_of_ble_eq_true rfl) hrun ?_
            refine i_243_76 (x := Int32.ofInt wh) rfl ?_
            refine i_243_77 ?_
            refine i_243_78 (b_ne (a := wh) (b := 2) ⟨by omega, by omega⟩ ⟨by decide, by decide⟩ fun c4 => ?_) (b_eq (a := wh) (b := 2) ⟨by omega, by omega⟩ ⟨by decide, by decide⟩ fun c4 => absurd c4 (by omega))
            refine i_243_98 (x := 128) rfl ?_
            refine i_243_99 (v := Value.ref 155) hR.c128 rfl ?_
            refine i_243_102 (x := Int32.ofInt r) rfl ?_
            refine i_243_103 (v := Value.int (Int32.ofInt (S 155 ((r).toNat)))) (hR.row a155) (ix0 (T := r) (by omega) (by omega)) (ix1 (T := r) (by omega) (by omega) (by omega)) (ra (T := r) (by omega) (by omega) rfl) ?_
            refine i_243_104 ?_
            have e : sLook S r.toNat wh = S 155 ((r).toNat) := by unfold sLook; first | (rw [if_pos (by omega)]; done) | (rw [if_neg (by omega), if_pos (by omega)]; done) | (rw [if_neg (by omega), if_neg (by omega), if_pos (by omega)]; first | done | omega) | (rw [if_neg (by omega), if_neg (by omega), if_neg (by omega)]; done)
            rw [e]
            exact ⟨rfl, hR⟩
        · refine i_243_41 (x := 128) rfl ?_
          refine i_243_42 (v := Value.ref 154) hR.c128 rfl ?_
          refine i_243_45 (x := Int32.ofInt r) rfl ?_
          refine i_243_46 (v := Value.int (Int32.ofInt (S 154 ((r).toNat)))) (hR.row a154) (ix0 (T := r) (by omega) (by omega)) (ix1 (T := r) (by omega) (by omega) (by omega)) (ra (T := r) (by omega) (by omega) rfl) ?_
          refine i_243_47 (z_eq (a := S 154 ((r).toNat)) ⟨by omega, by omega⟩ fun c5 => ?_) (z_ne (a := S 154 ((r).toNat)) ⟨by omega, by omega⟩ fun c5 => ?_)
          · refine i_243_54 ?_
            refine i_243_55 ?_
            have hrun := s_there0 (d := d + 1) (w := w)
            refine j_243_73 (Nat.le_of_ble_eq_true rfl) hrun (xDone.t (ci := 16) xgl rfl rfl ?_)
            exfalso; omega
          · refine i_243_50 ?_
            refine i_243_51 ?_
            have hrun := s_there1 (d := d + 6) (w := w)
            refine i_243_73 (Nat.le_of_ble_eq_true rfl) hrun ?_
            refine i_243_76 (x := Int32.ofInt wh) rfl ?_
            refine i_243_77 ?_
            refine i_243_78 (b_ne (a := wh) (b := 2) ⟨by omega, by omega⟩ ⟨by decide, by decide⟩ fun c6 => absurd c6 (by omega)) (b_eq (a := wh) (b := 2) ⟨by omega, by omega⟩ ⟨by decide, by decide⟩ fun c6 => ?_)
            refine i_243_81 (x := 128) rfl ?_
            refine i_243_82 (v := Value.ref 156) hR.c128 rfl ?_
            refine i_243_85 (x := Int32.ofInt r) rfl ?_
            refine i_243_86z (v := Value.int (Int32.ofInt (S 156 ((r).toNat)))) (hR.row a156) (ix0 (T := r) (by omega) (by omega)) (ix1 (T := r) (by omega) (by omega) (by omega)) (ra (T := r) (by omega) (by omega) rfl) ?_
            refine i_243_87 (z_eq (a := S 156 ((r).toNat)) ⟨by omega, by omega⟩ fun c7 => ?_) (z_ne (a := S 156 ((r).toNat)) ⟨by omega, by omega⟩ fun c7 => ?_)
            · refine i_243_94 ?_
              refine i_243_95 ?_
              refine i_243_104 ?_
              have e : sLook S r.toNat wh = 0 := by unfold sLook; first | (rw [if_pos (by omega)]; done) | (rw [if_neg (by omega), if_pos (by omega)]; done) | (rw [if_neg (by omega), if_neg (by omega), if_pos (by omega)]; first | done | omega) | (rw [if_neg (by omega), if_neg (by omega), if_neg (by omega)]; done)
              rw [e]
              exact ⟨rfl, hR⟩
            · refine i_243_90 ?_
              refine i_243_91 ?_
              refine i_243_104 ?_
              have e : sLook S r.toNat wh = 1 := by unfold sLook; first | (rw [if_pos (by omega)]; done) | (rw [if_neg (by omega), if_pos (by omega)]; done) | (rw [if_neg (by omega), if_neg (by omega), if_pos (by omega)]; first | done | omega) | (rw [if_neg (by omega), if_neg (by omega), if_neg (by omega)]; done)
              rw [e]
              exact ⟨rfl, hR⟩
      · refine i_243_29 (x := 128) rfl ?_
        refine i_243_30 (v := Value.ref 154) hR.c128 rfl ?_
        refine i_243_33 (x := Int32.ofInt r) rfl ?_
        refine i_243_34 (v := Value.int (Int32.ofInt (S 154 ((r).toNat)))) (hR.row a154) (ix0 (T := r) (by omega) (by omega)) (ix1 (T := r) (by omega) (by omega) (by omega)) (ra (T := r) (by omega) (by omega) rfl) ?_
        refine i_243_35 ?_
        have e : sLook S r.toNat wh = S 154 ((r).toNat) := by unfold sLook; first | (rw [if_pos (by omega)]; done) | (rw [if_neg (by omega), if_pos (by omega)]; done) | (rw [if_neg (by omega), if_neg (by omega), if_pos (by omega)]; first | done | omega) | (rw [if_neg (by omega), if_neg (by omega), if_neg (by omega)]; done)
        rw [e]
        exact ⟨rfl, hR⟩
    · refine i_243_17 (x := 128) rfl ?_
      refine i_243_18 (v := Value.ref 153) hR.c128 rfl ?_
      refine i_243_21 (x := Int32.ofInt r) rfl ?_
      refine i_243_22 (v := Value.int (Int32.ofInt (S 153 ((r).toNat)))) (hR.row a153) (ix0 (T := r) (by omega) (by omega)) (ix1 (T := r) (by omega) (by omega) (by omega)) (ra (T := r) (by omega) (by omega) rfl) ?_
      refine i_243_23 ?_
      have e : sLook S r.toNat wh = S 153 ((r).toNat) := by unfold sLook; first | (rw [if_pos (by omega)]; done) | (rw [if_neg (by omega), if_pos (by omega)]; done) | (rw [if_neg (by omega), if_neg (by omega), if_pos (by omega)]; first | done | omega) | (rw [if_neg (by omega), if_neg (by omega), if_neg (by omega)]; done)
      rw [e]
      exact ⟨rfl, hR⟩
  obtain ⟨o, w', h1, rfl, h2⟩ := key.run
  exact ⟨w', h1, h2⟩
theorem b_look {d : Nat} {w : xW} {r wh : Int} (b_r : -2147483648 ≤ r ∧ r < 2147483648) (b_wh : -2147483648 ≤ wh ∧ wh < 2147483648) (h : ¬ ((0 ≤ r ∧ r ≤ 15) ∧ (0 ≤ wh ∧ wh ≤ 3))) : xRun (d + 8) 243 [Value.ref 128, Value.int (Int32.ofInt r), Value.int (Int32.ofInt wh)] w (.inr w.length) (w ++ [.inr (14, [])]) := by
  refine xRun.of ?_
  refine i_243_0 (x := Int32.ofInt r) rfl ?_
  rcases Classical.em (0 ≤ r ∧ r ≤ 15) with hc1 | hc1
  · have hrun := s_reg1 (d := d + 5) (w := w) (r := r) (by omega) hc1
    refine i_243_1 (Nat.le_of_ble_eq_true rfl) hrun ?_
    refine i_243_4 (x := Int32.ofInt wh) rfl ?_
    refine i_243_5 ?_
    refine i_243_6 ?_
    have hrun := s_in (d := d + 6) (w := w) (v := wh) (lo := 0) (hi := 3) ⟨by omega, by omega⟩ ⟨by decide, by decide⟩ ⟨by decide, by decide⟩
    refine i_243_7 (Nat.le_of_ble_eq_true rfl) hrun ?_
    rcases Classical.em (0 ≤ wh ∧ wh ≤ 3) with hc2 | hc2
    · have hrun := s_ck1 (d := d + 6) (w := w) (b := (decide (0 ≤ wh ∧ wh ≤ 3))) (decide_eq_true hc2)
      refine i_243_10 (Nat.le_of_ble_eq_true rfl) hrun ?_
      exfalso; omega
    · have hrun := s_ck0 (d := d + 1) (w := w) (b := (decide (0 ≤ wh ∧ wh ≤ 3))) (decide_eq_false hc2)
      refine j_243_10 (Nat.le_of_ble_eq_true rfl) hrun (xDone.t (ci := 14) xgl rfl rfl ?_)
      exact ⟨rfl, rfl⟩
  · have hrun := s_reg0 (d := d) (w := w) (r := r) (by omega) hc1
    refine j_243_1 (Nat.le_of_ble_eq_true rfl) hrun (xDone.t (ci := 14) xgl rfl rfl ?_)
    exact ⟨rfl, rfl⟩
theorem n_look {d : Nat} {w0 w : xW} {S : Nat → Nat → Int} {V : Nat → Nat} {r wh : Int} (hR : mR w0 S V w) (hI : mI S V) (hr : 0 ≤ r ∧ r ≤ 15) (hw : 0 ≤ wh ∧ wh ≤ 3) (hk : (wh = 2 ∧ S 154 r.toNat = 0) ∨ (wh = 3 ∧ S 154 r.toNat ≠ 3)) : xRun (d + 8) 243 [Value.ref 128, Value.int (Int32.ofInt r), Value.int (Int32.ofInt wh)] w (.inr w.length) (w ++ [.inr (16, [])]) := by
  obtain ⟨hp_r, hk_r, hn_r, ht_r, hx_r, -⟩ := hI.1 r.toNat (by omega)
  refine xRun.of ?_
  refine i_243_0 (x := Int32.ofInt r) rfl ?_
  have hrun := s_reg1 (d := d + 5) (w := w) (r := r) (by omega) (by omega)
  refine i_243_1 (Nat.le_of_ble_eq_true rfl) hrun ?_
  refine i_243_4 (x := Int32.ofInt wh) rfl ?_
  refine i_243_5 ?_
  refine i_243_6 ?_
  have hrun := s_in (d := d + 6) (w := w) (v := wh) (lo := 0) (hi := 3) ⟨by omega, by omega⟩ ⟨by decide, by decide⟩ ⟨by decide, by decide⟩
  refine i_243_7 (Nat.le_of_ble_eq_true rfl) hrun ?_
  have hrun := s_ck1 (d := d + 6) (w := w) (b := (decide (0 ≤ wh ∧ wh ≤ 3))) (decide_eq_true (by omega))
  refine i_243_10 (Nat.le_of_ble_eq_true rfl) hrun ?_
  refine i_243_13 (x := Int32.ofInt wh) rfl ?_
  refine i_243_14 (z_ne (a := wh) ⟨by omega, by omega⟩ fun c0 => ?_) (z_eq (a := wh) ⟨by omega, by omega⟩ fun c0 => ?_)
  · refine i_243_24 (x := Int32.ofInt wh) rfl ?_
    refine i_243_25 ?_
    refine i_243_26 (b_ne (a := wh) (b := 1) ⟨by omega, by omega⟩ ⟨by decide, by decide⟩ fun c1 => ?_) (b_eq (a := wh) (b := 1) ⟨by omega, by omega⟩ ⟨by decide, by decide⟩ fun c1 => ?_)
    · refine i_243_36 (x := Int32.ofInt wh) rfl ?_
      refine i_243_37 ?_
      refine i_243_38 (b_ne (a := wh) (b := 2) ⟨by omega, by omega⟩ ⟨by decide, by decide⟩ fun c2 => ?_) (b_eq (a := wh) (b := 2) ⟨by omega, by omega⟩ ⟨by decide, by decide⟩ fun c2 => ?_)
      · refine i_243_58 (x := 128) rfl ?_
        refine i_243_59 (v := Value.ref 154) hR.c128 rfl ?_
        refine i_243_62 (x := Int32.ofInt r) rfl ?_
        refine i_243_63 (v := Value.int (Int32.ofInt (S 154 ((r).toNat)))) (hR.row a154) (ix0 (T := r) (by omega) (by omega)) (ix1 (T := r) (by omega) (by omega) (by omega)) (ra (T := r) (by omega) (by omega) rfl) ?_
        refine i_243_64 ?_
        refine i_243_65 (b_ne (a := S 154 ((r).toNat)) (b := 3) ⟨by omega, by omega⟩ ⟨by decide, by decide⟩ fun c3 => ?_) (b_eq (a := S 154 ((r).toNat)) (b := 3) ⟨by omega, by omega⟩ ⟨by decide, by decide⟩ fun c3 => ?_)
        · refine i_243_72 ?_
          have hrun := s_there0 (d := d + 1) (w := w)
          refine j_243_73 (Nat.le_of_ble_eq_true rfl) hrun (xDone.t (ci := 16) xgl rfl rfl ?_)
          exact ⟨rfl, rfl⟩
        · refine i_243_68 ?_
          refine i_243_69 ?_
          have hrun := s_there1 (d := d + 6) (w := w)
          refine i_243_73 (Nat.le_of_ble_eq_true rfl) hrun ?_
          refine i_243_76 (x := Int32.ofInt wh) rfl ?_
          refine i_243_77 ?_
          refine i_243_78 (b_ne (a := wh) (b := 2) ⟨by omega, by omega⟩ ⟨by decide, by decide⟩ fun c4 => ?_) (b_eq (a := wh) (b := 2) ⟨by omega, by omega⟩ ⟨by decide, by decide⟩ fun c4 => absurd c4 (by omega))
          refine i_243_98 (x := 128) rfl ?_
          refine i_243_99 (v := Value.ref 155) hR.c128 rfl ?_
          refine i_243_102 (x := Int32.ofInt r) rfl ?_
          refine i_243_103 (v := Value.int (Int32.ofInt (S 155 ((r).toNat)))) (hR.row a155) (ix0 (T := r) (by omega) (by omega)) (ix1 (T := r) (by omega) (by omega) (by omega)) (ra (T := r) (by omega) (by omega) rfl) ?_
          refine i_243_104 ?_
          exfalso; omega
      · refine i_243_41 (x := 128) rfl ?_
        refine i_243_42 (v := Value.ref 154) hR.c128 rfl ?_
        refine i_243_45 (x := Int32.ofInt r) rfl ?_
        refine i_243_46 (v := Value.int (Int32.ofInt (S 154 ((r).toNat)))) (hR.row a154) (ix0 (T := r) (by omega) (by omega)) (ix1 (T := r) (by omega) (by omega) (by omega)) (ra (T := r) (by omega) (by omega) rfl) ?_
        refine i_243_47 (z_eq (a := S 154 ((r).toNat)) ⟨by omega, by omega⟩ fun c5 => ?_) (z_ne (a := S 154 ((r).toNat)) ⟨by omega, by omega⟩ fun c5 => ?_)
        · refine i_243_54 ?_
          refine i_243_55 ?_
          have hrun := s_there0 (d := d + 1) (w := w)
          refine j_243_73 (Nat.le_of_ble_eq_true rfl) hrun (xDone.t (ci := 16) xgl rfl rfl ?_)
          exact ⟨rfl, rfl⟩
        · refine i_243_50 ?_
          refine i_243_51 ?_
          have hrun := s_there1 (d := d + 6) (w := w)
          refine i_243_73 (Nat.le_of_ble_eq_true rfl) hrun ?_
          refine i_243_76 (x := Int32.ofInt wh) rfl ?_
          refine i_243_77 ?_
          refine i_243_78 (b_ne (a := wh) (b := 2) ⟨by omega, by omega⟩ ⟨by decide, by decide⟩ fun c6 => absurd c6 (by omega)) (b_eq (a := wh) (b := 2) ⟨by omega, by omega⟩ ⟨by decide, by decide⟩ fun c6 => ?_)
          refine i_243_81 (x := 128) rfl ?_
          refine i_243_82 (v := Value.ref 156) hR.c128 rfl ?_
          refine i_243_85 (x := Int32.ofInt r) rfl ?_
          refine i_243_86z (v := Value.int (Int32.ofInt (S 156 ((r).toNat)))) (hR.row a156) (ix0 (T := r) (by omega) (by omega)) (ix1 (T := r) (by omega) (by omega) (by omega)) (ra (T := r) (by omega) (by omega) rfl) ?_
          refine i_243_87 (z_eq (a := S 156 ((r).toNat)) ⟨by omega, by omega⟩ fun c7 => ?_) (z_ne (a := S 156 ((r).toNat)) ⟨by omega, by omega⟩ fun c7 => ?_)
          · refine i_243_94 ?_
            refine i_243_95 ?_
            refine i_243_104 ?_
            exfalso; omega
          · refine i_243_90 ?_
            refine i_243_91 ?_
            refine i_243_104 ?_
            exfalso; omega
    · refine i_243_29 (x := 128) rfl ?_
      refine i_243_30 (v := Value.ref 154) hR.c128 rfl ?_
      refine i_243_33 (x := Int32.ofInt r) rfl ?_
      refine i_243_34 (v := Value.int (Int32.ofInt (S 154 ((r).toNat)))) (hR.row a154) (ix0 (T := r) (by omega) (by omega)) (ix1 (T := r) (by omega) (by omega) (by omega)) (ra (T := r) (by omega) (by omega) rfl) ?_
      refine i_243_35 ?_
      exfalso; omega
  · refine i_243_17 (x := 128) rfl ?_
    refine i_243_18 (v := Value.ref 153) hR.c128 rfl ?_
    refine i_243_21 (x := Int32.ofInt r) rfl ?_
    refine i_243_22 (v := Value.int (Int32.ofInt (S 153 ((r).toNat)))) (hR.row a153) (ix0 (T := r) (by omega) (by omega)) (ix1 (T := r) (by omega) (by omega) (by omega)) (ra (T := r) (by omega) (by omega) rfl) ?_
    refine i_243_23 ?_
    exfalso; omega
theorem s_end {d : Nat} {w0 w : xW} {S : Nat → Nat → Int} {V : Nat → Nat} {n : Int} (hR : mR w0 S V w) (hn : 0 ≤ n ∧ n ≤ S 128 24) (ht : 0 ≤ S 128 24 ∧ S 128 24 ≤ 4096) : ∃ w', xRun (d + 8) 256 [Value.ref 128, Value.int (Int32.ofInt n)] w (.inl (some (.int (Int32.ofInt (S 128 24 - n))))) w' ∧ mR w0 (u2 S 128 24 n) V w' := by
  have key : xEv (d + 8) 256 0 (lv_args 0 [Value.ref 128, Value.int (Int32.ofInt n)]) [] w (fun o w' => o = .inl (some (.int (Int32.ofInt (S 128 24 - n)))) ∧ mR w0 (u2 S 128 24 n) V w') := by
    refine i_256_0 (x := Int32.ofInt n) rfl ?_
    refine i_256_1 ?_
    refine i_256_2 (x := 128) rfl ?_
    refine i_256_3 (v := Value.int (Int32.ofInt (S 128 24))) hR.c128 rfl ?_
    have hrun := s_in (d := d + 6) (w := w) (v := n) (lo := 0) (hi := S 128 24) ⟨by omega, by omega⟩ ⟨by decide, by decide⟩ ⟨by omega, by omega⟩
    refine i_256_6 (Nat.le_of_ble_eq_true rfl) hrun ?_
    have hrun := s_ck1 (d := d + 6) (w := w) (b := (decide (0 ≤ n ∧ n ≤ S 128 24))) (decide_eq_true (by omega))
    refine i_256_9 (Nat.le_of_ble_eq_true rfl) hrun ?_
    refine i_256_12 (x := 128) rfl ?_
    refine i_256_13 (v := Value.int (Int32.ofInt (S 128 24))) hR.c128 rfl ?_
    refine i_256_16 (x := Int32.ofInt n) rfl ?_
    refine i_256_17 (c := Int32.ofInt ((S 128 24) - n)) (o_sub (S 128 24) n) ?_
    refine i_256_18 (lv2 := [(2, Value.int (Int32.ofInt ((S 128 24) - n))), (0, Value.ref 128), (1, Value.int (Int32.ofInt n))]) rfl ?_
    refine i_256_19 (x := 128) rfl ?_
    refine i_256_20 (x := Int32.ofInt n) rfl ?_
    refine i_256_21 (fs2 := mf (u1 (S 128) 24 n)) hR.c128 (Nat.le_of_ble_eq_true rfl) (mfs_24 (v := n)) (by decide) ?_
    refine xgen (P := mR w0 (u2 S 128 24 n) V) hR.fld2 (fun w hR => ?_)
    refine i_256_24 (x := Int32.ofInt ((S 128 24) - n)) rfl ?_
    refine i_256_25 ?_
    exact ⟨rfl, hR⟩
  obtain ⟨o, w', h1, rfl, h2⟩ := key.run
  exact ⟨w', h1, h2⟩
