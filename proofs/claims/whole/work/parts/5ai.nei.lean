/-! neighbour of the reference -/
def o3 (q : Int × Int × Nat) (sg f : Int) : OO := (q.1, sg, q.2.1, q.2.2, q.1, f)
def sNei (S : Nat → Nat → Int) (V : Nat → Nat) (r : Nat) (up : Int) : OO :=
  if S 154 r = 0 then (0, 0, 0, 0, 0, S 128 19)
  else if S 154 r = 2 then o3 (put3 1 (if S 128 20 = 0 then S 128 17 - 1 else S 128 17 - S 153 r) (S 153 r)) (1 - up) (S 128 19)
  else if up ≠ S 156 r then (if S 154 r = 1 then (1, S 156 r, 0, 0, 1, S 128 19) else o3 (sFar S V r) (S 156 r) (S 128 19))
  else o3 (sNea S V r) (S 156 r) (S 128 19)
theorem oP_f {S S' : Nat → Nat → Int} {V V' : Nat → Nat} {r : Nat} {q : Int × Int × Nat} {sg : Int} (h : fP S S' V V' r q) (hs : sg = 0 ∨ sg = 1) : oP S (u2 S' 156 r sg) V V' r (o3 q sg (S 128 19)) := by
  obtain ⟨h1, h2, h3, h4⟩ := h
  refine ⟨?_, fun _ => by simp [u2_e, o3], by simp [u2_e]; exact hs, ⟨fun h => ?_, fun h => ?_⟩, ?_, fun a j a0 a1 a2 a3 => ?_, fun j g1 g2 => ?_, h4⟩
  · rw [u2_e, if_neg (by omega)]; exact h1
  · rw [u2_e, if_neg (by omega)]; exact h2.1 h
  · exact fun hb => mB_eq (S := S') (by rw [u2_e, if_neg (by omega)]) rfl (h2.2 h hb)
  · rw [u2_e, if_neg (by omega)]; exact h3 _ _ (by omega) (by omega)
  · rw [u2_e, if_neg a3]; exact h3 a j a1 a2
  · rw [u2_e, if_neg (by omega)]; exact h3 _ _ (by omega) (by omega)
theorem oP_same {S : Nat → Nat → Int} {V : Nat → Nat} {r : Nat} {o : OO} (h1 : S 154 r = o.1) (h2 : o.1 ≠ 0 → S 156 r = o.2.1) (h3 : S 156 r = 0 ∨ S 156 r = 1) (h4 : o.1 ≠ 3) (h5 : S 128 19 = o.2.2.2.2.2) : oP S S V V r o :=
  ⟨h1, h2, h3, ⟨fun h => absurd h h4, fun _ h => h⟩, h5, fun _ _ _ _ _ _ => rfl, fun _ _ _ => rfl, fun _ _ _ => rfl⟩
theorem u2_row {S : Nat → Nat → Int} {a r b j : Nat} {v : Int} (h : b ≠ a) : u2 S a r v b j = S b j := by rw [u2_e, if_neg (fun e => h e.1)]
set_option maxHeartbeats 8000000 in
theorem s_nei {d : Nat} {w0 w : xW} {S : Nat → Nat → Int} {V : Nat → Nat} {r up : Int} (hR : mR w0 S V w) (hI : mI S V) (hr : 0 ≤ r ∧ r ≤ 15) (hu : up = 0 ∨ up = 1) : ∃ w', xRun (d + 8) 233 [Value.ref 128, Value.int (Int32.ofInt r), Value.int (Int32.ofInt up)] w (.inl (some (.int (Int32.ofInt (sNei S V r.toNat up).2.2.2.2.1)))) w' ∧ ∃ S' V', mR w0 S' V' w' ∧ oP S S' V V' r.toNat (sNei S V r.toNat up) := by
  obtain ⟨hp_r, hk_r, hn_r, ht_r, hx_r, -⟩ := hI.1 r.toNat (by omega)
  have hi_l := hI.2.1
  have hi_g := hI.2.2.1
  have hi_f := hI.2.2.2
  have key : xEv (d + 8) 233 0 (lv_args 0 [Value.ref 128, Value.int (Int32.ofInt r), Value.int (Int32.ofInt up)]) [] w (fun o w' => o = .inl (some (.int (Int32.ofInt (sNei S V r.toNat up).2.2.2.2.1))) ∧ ∃ S' V', mR w0 S' V' w' ∧ oP S S' V V' r.toNat (sNei S V r.toNat up)) := by
    refine i_233_0 (x := Int32.ofInt r) rfl ?_
    have hrun := s_reg1 (d := d + 5) (w := w) (r := r) (by omega) (by omega)
    refine i_233_1 (Nat.le_of_ble_eq_true rfl) hrun ?_
    refine i_233_4 (x := 128) rfl ?_
    refine i_233_5 (v := Value.ref 154) hR.c128 rfl ?_
    refine i_233_8 (x := Int32.ofInt r) rfl ?_
    refine i_233_9 (v := Value.int (Int32.ofInt (S 154 ((r).toNat)))) (hR.row a154) (ix0 (T := r) (by omega) (by omega)) (ix1 (T := r) (by omega) (by omega) (by omega)) (ra (T := r) (by omega) (by omega) rfl) ?_
    refine i_233_10 (z_ne (a := S 154 ((r).toNat)) ⟨by omega, by omega⟩ fun c0 => ?_) (z_eq (a := S 154 ((r).toNat)) ⟨by omega, by omega⟩ fun c0 => ?_)
    · refine i_233_15 (x := 128) rfl ?_
      refine i_233_16 (v := Value.ref 153) hR.c128 rfl ?_
      refine i_233_19 (x := Int32.ofInt r) rfl ?_
      refine i_233_20 (v := Value.int (Int32.ofInt (S 153 ((r).toNat)))) (hR.row a153) (ix0 (T := r) (by omega) (by omega)) (ix1 (T := r) (by omega) (by omega) (by omega)) (ra (T := r) (by omega) (by omega) rfl) ?_
      refine i_233_21 (lv2 := [(3, Value.int (Int32.ofInt (S 153 ((r).toNat)))), (0, Value.ref 128), (1, Value.int (Int32.ofInt r)), (2, Value.int (Int32.ofInt up))]) rfl ?_
      refine i_233_22 (x := 128) rfl ?_
      refine i_233_23 (v := Value.ref 156) hR.c128 rfl ?_
      refine i_233_26 (x := Int32.ofInt r) rfl ?_
      refine i_233_27z (v := Value.int (Int32.ofInt (S 156 ((r).toNat)))) (hR.row a156) (ix0 (T := r) (by omega) (by omega)) (ix1 (T := r) (by omega) (by omega) (by omega)) (ra (T := r) (by omega) (by omega) rfl) ?_
      refine i_233_28 (lv2 := [(4, Value.int (Int32.ofInt (S 156 ((r).toNat)))), (3, Value.int (Int32.ofInt (S 153 ((r).toNat)))), (0, Value.ref 128), (1, Value.int (Int32.ofInt r)), (2, Value.int (Int32.ofInt up))]) rfl ?_
      refine i_233_30 (x := 128) rfl ?_
      refine i_233_31 (v := Value.ref 154) hR.c128 rfl ?_
      refine i_233_34 (x := Int32.ofInt r) rfl ?_
      refine i_233_35 (v := Value.int (Int32.ofInt (S 154 ((r).toNat)))) (hR.row a154) (ix0 (T := r) (by omega) (by omega)) (ix1 (T := r) (by omega) (by omega) (by omega)) (ra (T := r) (by omega) (by omega) rfl) ?_
      refine i_233_36 ?_
      refine i_233_37 (b_ne (a := S 154 ((r).toNat)) (b := 2) ⟨by omega, by omega⟩ ⟨by decide, by decide⟩ fun c1 => ?_) (b_eq (a := S 154 ((r).toNat)) (b := 2) ⟨by omega, by omega⟩ ⟨by decide, by decide⟩ fun c1 => ?_)
      · refine i_233_96 (x := Int32.ofInt up) rfl ?_
        refine i_233_97 (x := Int32.ofInt (S 156 ((r).toNat))) rfl ?_
        refine i_233_99 (b_eq (a := up) (b := S 156 ((r).toNat)) ⟨by omega, by omega⟩ ⟨by omega, by omega⟩ fun c2 => ?_) (b_ne (a := up) (b := S 156 ((r).toNat)) ⟨by omega, by omega⟩ ⟨by omega, by omega⟩ fun c2 => ?_)
        · refine i_233_106 ?_
          refine i_233_107 (lv2 := [(5, Value.int 0), (4, Value.int (Int32.ofInt (S 156 ((r).toNat)))), (3, Value.int (Int32.ofInt (S 153 ((r).toNat)))), (0, Value.ref 128), (1, Value.int (Int32.ofInt r)), (2, Value.int (Int32.ofInt up))]) rfl ?_
          refine i_233_109 (x := 128) rfl ?_
          refine i_233_110 (v := Value.ref 154) hR.c128 rfl ?_
          refine i_233_113 (x := Int32.ofInt r) rfl ?_
          refine i_233_114 (v := Value.int (Int32.ofInt (S 154 ((r).toNat)))) (hR.row a154) (ix0 (T := r) (by omega) (by omega)) (ix1 (T := r) (by omega) (by omega) (by omega)) (ra (T := r) (by omega) (by omega) rfl) ?_
          refine i_233_115 ?_
          refine i_233_116 (b_ne (a := S 154 ((r).toNat)) (b := 1) ⟨by omega, by omega⟩ ⟨by decide, by decide⟩ fun c3 => ?_) (b_eq (a := S 154 ((r).toNat)) (b := 1) ⟨by omega, by omega⟩ ⟨by decide, by decide⟩ fun c3 => ?_)
          · refine i_233_126 (x := 0) rfl ?_
            refine i_233_128 (fun _ => ?_) (fun c => absurd c (by decide))
            refine i_233_139 (x := 128) rfl ?_
            refine i_233_140 (x := Int32.ofInt r) rfl ?_
            have hobj := hR.c128
            obtain ⟨w, hrun, S2, V2, hR, hP⟩ := s_nea (d := d + 2) (r := r) hR hI (by omega) (by omega)
            refine i_233_141 hobj (Nat.le_of_ble_eq_true rfl) hrun ?_
            refine i_233_144 (x := 128) rfl ?_
            refine i_233_145 (v := Value.ref 156) hR.c128 rfl ?_
            refine i_233_148 (x := Int32.ofInt r) rfl ?_
            refine i_233_149 (x := Int32.ofInt (S 156 ((r).toNat))) rfl ?_
            refine i_233_151z (v := Value.int (Int32.ofInt (S 156 ((r).toNat)))) (hR.row a156) (ix0 (T := r) (by omega) (by omega)) (ix1 (T := r) (by omega) (by omega) (by omega)) (by decide) (nrb (b := S 156 ((r).toNat)) (by omega)) ?_
            rw [ixn (T := r) (by omega) (by omega)]
            refine xgen (P := mR w0 (u2 S2 156 ((r).toNat) (S 156 ((r).toNat))) V2) (hR.arr a156 rfl) (fun w hR => ?_)
            refine i_233_152 (x := 128) rfl ?_
            refine i_233_153 (v := Value.ref 154) hR.c128 rfl ?_
            refine i_233_156 (x := Int32.ofInt r) rfl ?_
            refine i_233_157 (v := Value.int (Int32.ofInt ((sNea S V r.toNat).1))) (hR.row a154) (ix0 (T := r) (by omega) (by omega)) (ix1 (T := r) (by omega) (by omega) (by omega)) (ra (T := r) (by omega) (by omega) ((u2_row (by decide)).trans hP.1)) ?_
            refine i_233_158 ?_
            have eo : sNei S V r.toNat up = o3 (sNea S V r.toNat) (S 156 ((r).toNat)) (S 128 19) := by unfold sNei; first | (rw [if_pos (by omega)]; done) | (rw [if_neg (by omega), if_pos (by omega)]; done) | (rw [if_neg (by omega), if_neg (by omega), if_pos (by omega), if_pos (by omega)]; done) | (rw [if_neg (by omega), if_neg (by omega), if_pos (by omega), if_neg (by omega)]; done) | (rw [if_neg (by omega), if_neg (by omega), if_neg (by omega)]; done)
            rw [eo]
            exact ⟨rfl, _, _, hR, oP_f hP (by omega)⟩
          · refine i_233_119 (x := 0) rfl ?_
            refine i_233_121 (fun _ => ?_) (fun c => absurd c (by decide))
            refine i_233_126 (x := 0) rfl ?_
            refine i_233_128 (fun _ => ?_) (fun c => absurd c (by decide))
            refine i_233_139 (x := 128) rfl ?_
            refine i_233_140 (x := Int32.ofInt r) rfl ?_
            have hobj := hR.c128
            obtain ⟨w, hrun, S2, V2, hR, hP⟩ := s_nea (d := d + 2) (r := r) hR hI (by omega) (by omega)
            refine i_233_141 hobj (Nat.le_of_ble_eq_true rfl) hrun ?_
            refine i_233_144 (x := 128) rfl ?_
            refine i_233_145 (v := Value.ref 156) hR.c128 rfl ?_
            refine i_233_148 (x := Int32.ofInt r) rfl ?_
            refine i_233_149 (x := Int32.ofInt (S 156 ((r).toNat))) rfl ?_
            refine i_233_151z (v := Value.int (Int32.ofInt (S 156 ((r).toNat)))) (hR.row a156) (ix0 (T := r) (by omega) (by omega)) (ix1 (T := r) (by omega) (by omega) (by omega)) (by decide) (nrb (b := S 156 ((r).toNat)) (by omega)) ?_
            rw [ixn (T := r) (by omega) (by omega)]
            refine xgen (P := mR w0 (u2 S2 156 ((r).toNat) (S 156 ((r).toNat))) V2) (hR.arr a156 rfl) (fun w hR => ?_)
            refine i_233_152 (x := 128) rfl ?_
            refine i_233_153 (v := Value.ref 154) hR.c128 rfl ?_
            refine i_233_156 (x := Int32.ofInt r) rfl ?_
            refine i_233_157 (v := Value.int (Int32.ofInt ((sNea S V r.toNat).1))) (hR.row a154) (ix0 (T := r) (by omega) (by omega)) (ix1 (T := r) (by omega) (by omega) (by omega)) (ra (T := r) (by omega) (by omega) ((u2_row (by decide)).trans hP.1)) ?_
            refine i_233_158 ?_
            have eo : sNei S V r.toNat up = o3 (sNea S V r.toNat) (S 156 ((r).toNat)) (S 128 19) := by unfold sNei; first | (rw [if_pos (by omega)]; done) | (rw [if_neg (by omega), if_pos (by omega)]; done) | (rw [if_neg (by omega), if_neg (by omega), if_pos (by omega), if_pos (by omega)]; done) | (rw [if_neg (by omega), if_neg (by omega), if_pos (by omega), if_neg (by omega)]; done) | (rw [if_neg (by omega), if_neg (by omega), if_neg (by omega)]; done)
            rw [eo]
            exact ⟨rfl, _, _, hR, oP_f hP (by omega)⟩
        · refine i_233_102 ?_
          refine i_233_103 ?_
          refine i_233_107 (lv2 := [(5, Value.int 1), (4, Value.int (Int32.ofInt (S 156 ((r).toNat)))), (3, Value.int (Int32.ofInt (S 153 ((r).toNat)))), (0, Value.ref 128), (1, Value.int (Int32.ofInt r)), (2, Value.int (Int32.ofInt up))]) rfl ?_
          refine i_233_109 (x := 128) rfl ?_
          refine i_233_110 (v := Value.ref 154) hR.c128 rfl ?_
          refine i_233_113 (x := Int32.ofInt r) rfl ?_
          refine i_233_114 (v := Value.int (Int32.ofInt (S 154 ((r).toNat)))) (hR.row a154) (ix0 (T := r) (by omega) (by omega)) (ix1 (T := r) (by omega) (by omega) (by omega)) (ra (T := r) (by omega) (by omega) rfl) ?_
          refine i_233_115 ?_
          refine i_233_116 (b_ne (a := S 154 ((r).toNat)) (b := 1) ⟨by omega, by omega⟩ ⟨by decide, by decide⟩ fun c4 => ?_) (b_eq (a := S 154 ((r).toNat)) (b := 1) ⟨by omega, by omega⟩ ⟨by decide, by decide⟩ fun c4 => ?_)
          · refine i_233_126 (x := 1) rfl ?_
            refine i_233_128 (fun c => absurd c (by decide)) (fun _ => ?_)
            refine i_233_131 (x := 128) rfl ?_
            refine i_233_132 (x := Int32.ofInt r) rfl ?_
            have hobj := hR.c128
            obtain ⟨w, hrun, S2, V2, hR, hP⟩ := s_far (d := d + 3) (r := r) hR hI (by omega) (by omega)
            refine i_233_133 hobj (Nat.le_of_ble_eq_true rfl) hrun ?_
            refine i_233_136 ?_
            refine i_233_144 (x := 128) rfl ?_
            refine i_233_145 (v := Value.ref 156) hR.c128 rfl ?_
            refine i_233_148 (x := Int32.ofInt r) rfl ?_
            refine i_233_149 (x := Int32.ofInt (S 156 ((r).toNat))) rfl ?_
            refine i_233_151z (v := Value.int (Int32.ofInt (S 156 ((r).toNat)))) (hR.row a156) (ix0 (T := r) (by omega) (by omega)) (ix1 (T := r) (by omega) (by omega) (by omega)) (by decide) (nrb (b := S 156 ((r).toNat)) (by omega)) ?_
            rw [ixn (T := r) (by omega) (by omega)]
            refine xgen (P := mR w0 (u2 S2 156 ((r).toNat) (S 156 ((r).toNat))) V2) (hR.arr a156 rfl) (fun w hR => ?_)
            refine i_233_152 (x := 128) rfl ?_
            refine i_233_153 (v := Value.ref 154) hR.c128 rfl ?_
            refine i_233_156 (x := Int32.ofInt r) rfl ?_
            refine i_233_157 (v := Value.int (Int32.ofInt ((sFar S V r.toNat).1))) (hR.row a154) (ix0 (T := r) (by omega) (by omega)) (ix1 (T := r) (by omega) (by omega) (by omega)) (ra (T := r) (by omega) (by omega) ((u2_row (by decide)).trans hP.1)) ?_
            refine i_233_158 ?_
            have eo : sNei S V r.toNat up = o3 (sFar S V r.toNat) (S 156 ((r).toNat)) (S 128 19) := by unfold sNei; first | (rw [if_pos (by omega)]; done) | (rw [if_neg (by omega), if_pos (by omega)]; done) | (rw [if_neg (by omega), if_neg (by omega), if_pos (by omega), if_pos (by omega)]; done) | (rw [if_neg (by omega), if_neg (by omega), if_pos (by omega), if_neg (by omega)]; done) | (rw [if_neg (by omega), if_neg (by omega), if_neg (by omega)]; done)
            rw [eo]
            exact ⟨rfl, _, _, hR, oP_f hP (by omega)⟩
          · refine i_233_119 (x := 1) rfl ?_
            refine i_233_121 (fun c => absurd c (by decide)) (fun _ => ?_)
            refine i_233_124 ?_
            refine i_233_125 ?_
            have eo : sNei S V r.toNat up = (1, S 156 r.toNat, 0, 0, 1, S 128 19) := by unfold sNei; first | (rw [if_pos (by omega)]; done) | (rw [if_neg (by omega), if_pos (by omega)]; done) | (rw [if_neg (by omega), if_neg (by omega), if_pos (by omega), if_pos (by omega)]; done) | (rw [if_neg (by omega), if_neg (by omega), if_pos (by omega), if_neg (by omega)]; done) | (rw [if_neg (by omega), if_neg (by omega), if_neg (by omega)]; done)
            rw [eo]
            exact ⟨rfl, _, _, hR, oP_same (by omega) (fun _ => rfl) hn_r (show (1 : Int) ≠ 3 by decide) rfl⟩
      · refine i_233_40 (x := 128) rfl ?_
        refine i_233_41 (v := Value.ref 151) hR.c128 rfl ?_
        refine i_233_44 ?_
        obtain ⟨fs, hobj⟩ := hR.obj (h := 151) (iNw (h := 151) (by decide) (by decide) (by decide))
        obtain ⟨w, hrun, hR⟩ := r_setl (d := d + 5) (x := (1 : Int64)) (v := 1) hR (iNw (h := 151) (by decide) (by decide) (by decide)) rfl
        refine i_233_45 hobj (Nat.le_of_ble_eq_true rfl) hrun ?_
        refine i_233_48 (x := 128) rfl ?_
        refine i_233_49 (x := Int32.ofInt r) rfl ?_
        refine i_233_50 (x := 128) rfl ?_
        refine i_233_51 (v := Value.ref 151) hR.c128 rfl ?_
        refine i_233_54 (x := 128) rfl ?_
        refine i_233_55 (v := Value.int (Int32.ofInt (S 128 20))) hR.c128 rfl ?_
        refine i_233_58 (z_eq (a := S 128 20) ⟨by omega, by omega⟩ fun c5 => ?_) (z_ne (a := S 128 20) ⟨by omega, by omega⟩ fun c5 => ?_)
        · refine i_233_70 (x := 128) rfl ?_
          refine i_233_71 (v := Value.int (Int32.ofInt (S 128 17))) hR.c128 rfl ?_
          refine i_233_74 ?_
          refine i_233_75 (c := Int32.ofInt ((S 128 17) - 1)) (o_sub (S 128 17) 1) ?_
          have hobj := hR.c128
          obtain ⟨w, S2, V2, hrun, hR, hP⟩ := t_put (d := d + 4) (S1 := S) (h := 151) (q := 1) (r := r) (e := (S 128 17) - 1) hR (nV.up nV.refl (by omega)) (iNw (h := 151) (by decide) (by decide) (by decide)) (by decide) (by decide) (by omega) (by omega) (by omega) (uv_s) (by decide) (by decide)
          have f18 : S2 128 18 = S 128 18 := hP.2.2.1 _ _ (by omega) (by omega)
          refine i_233_76 hobj (Nat.le_of_ble_eq_true rfl) hrun ?_
          refine i_233_79 (x := 128) rfl ?_
          refine i_233_80 (v := Value.ref 156) hR.c128 rfl ?_
          refine i_233_83 (x := Int32.ofInt r) rfl ?_
          refine i_233_84 (x := Int32.ofInt up) rfl ?_
          refine i_233_85 (z_ne (a := up) ⟨by omega, by omega⟩ fun c6 => ?_) (z_eq (a := up) ⟨by omega, by omega⟩ fun c6 => ?_)
          · refine i_233_92 ?_
            refine i_233_93z (v := Value.int (Int32.ofInt 0)) (hR.row a156) (ix0 (T := r) (by omega) (by omega)) (ix1 (T := r) (by omega) (by omega) (by omega)) (by decide) (nrb (b := 0) (by omega)) ?_
            rw [ixn (T := r) (by omega) (by omega)]
            refine xgen (P := mR w0 (u2 S2 156 ((r).toNat) 0) V2) (hR.arr a156 rfl) (fun w hR => ?_)
            refine i_233_94 ?_
            refine i_233_95 ?_
            have eo : sNei S V r.toNat up = o3 (put3 1 ((S 128 17) - 1) (S 153 r.toNat)) 0 (S 128 19) := by unfold sNei; rw [if_neg (by omega), if_pos (by omega)]; first | (rw [if_pos (by omega)]; first | done | (congr 1; omega)) | (rw [if_neg (by omega)]; first | done | (congr 1; omega))
            rw [eo]
            exact ⟨rfl, _, _, hR, oP_f hP (by omega)⟩
          · refine i_233_88 ?_
            refine i_233_89 ?_
            refine i_233_93z (v := Value.int (Int32.ofInt 1)) (hR.row a156) (ix0 (T := r) (by omega) (by omega)) (ix1 (T := r) (by omega) (by omega) (by omega)) (by decide) (nrb (b := 1) (by omega)) ?_
            rw [ixn (T := r) (by omega) (by omega)]
            refine xgen (P := mR w0 (u2 S2 156 ((r).toNat) 1) V2) (hR.arr a156 rfl) (fun w hR => ?_)
            refine i_233_94 ?_
            refine i_233_95 ?_
            have eo : sNei S V r.toNat up = o3 (put3 1 ((S 128 17) - 1) (S 153 r.toNat)) 1 (S 128 19) := by unfold sNei; rw [if_neg (by omega), if_pos (by omega)]; first | (rw [if_pos (by omega)]; first | done | (congr 1; omega)) | (rw [if_neg (by omega)]; first | done | (congr 1; omega))
            rw [eo]
            exact ⟨rfl, _, _, hR, oP_f hP (by omega)⟩
        · refine i_233_61 (x := 128) rfl ?_
          refine i_233_62 (v := Value.int (Int32.ofInt (S 128 17))) hR.c128 rfl ?_
          refine i_233_65 (x := Int32.ofInt (S 153 ((r).toNat))) rfl ?_
          refine i_233_66 (c := Int32.ofInt ((S 128 17) - (S 153 ((r).toNat)))) (o_sub (S 128 17) (S 153 ((r).toNat))) ?_
          refine i_233_67 ?_
          have hobj := hR.c128
          obtain ⟨w, S2, V2, hrun, hR, hP⟩ := t_put (d := d + 4) (S1 := S) (h := 151) (q := 1) (r := r) (e := (S 128 17) - (S 153 ((r).toNat))) hR (nV.up nV.refl (by omega)) (iNw (h := 151) (by decide) (by decide) (by decide)) (by decide) (by decide) (by omega) (by omega) (by omega) (uv_s) (by decide) (by decide)
          have f18 : S2 128 18 = S 128 18 := hP.2.2.1 _ _ (by omega) (by omega)
          refine i_233_76 hobj (Nat.le_of_ble_eq_true rfl) hrun ?_
          refine i_233_79 (x := 128) rfl ?_
          refine i_233_80 (v := Value.ref 156) hR.c128 rfl ?_
          refine i_233_83 (x := Int32.ofInt r) rfl ?_
          refine i_233_84 (x := Int32.ofInt up) rfl ?_
          refine i_233_85 (z_ne (a := up) ⟨by omega, by omega⟩ fun c7 => ?_) (z_eq (a := up) ⟨by omega, by omega⟩ fun c7 => ?_)
          · refine i_233_92 ?_
            refine i_233_93z (v := Value.int (Int32.ofInt 0)) (hR.row a156) (ix0 (T := r) (by omega) (by omega)) (ix1 (T := r) (by omega) (by omega) (by omega)) (by decide) (nrb (b := 0) (by omega)) ?_
            rw [ixn (T := r) (by omega) (by omega)]
            refine xgen (P := mR w0 (u2 S2 156 ((r).toNat) 0) V2) (hR.arr a156 rfl) (fun w hR => ?_)
            refine i_233_94 ?_
            refine i_233_95 ?_
            have eo : sNei S V r.toNat up = o3 (put3 1 ((S 128 17) - (S 153 ((r).toNat))) (S 153 r.toNat)) 0 (S 128 19) := by unfold sNei; rw [if_neg (by omega), if_pos (by omega)]; first | (rw [if_pos (by omega)]; first | done | (congr 1; omega)) | (rw [if_neg (by omega)]; first | done | (congr 1; omega))
            rw [eo]
            exact ⟨rfl, _, _, hR, oP_f hP (by omega)⟩
          · refine i_233_88 ?_
            refine i_233_89 ?_
            refine i_233_93z (v := Value.int (Int32.ofInt 1)) (hR.row a156) (ix0 (T := r) (by omega) (by omega)) (ix1 (T := r) (by omega) (by omega) (by omega)) (by decide) (nrb (b := 1) (by omega)) ?_
            rw [ixn (T := r) (by omega) (by omega)]
            refine xgen (P := mR w0 (u2 S2 156 ((r).toNat) 1) V2) (hR.arr a156 rfl) (fun w hR => ?_)
            refine i_233_94 ?_
            refine i_233_95 ?_
            have eo : sNei S V r.toNat up = o3 (put3 1 ((S 128 17) - (S 153 ((r).toNat))) (S 153 r.toNat)) 1 (S 128 19) := by unfold sNei; rw [if_neg (by omega), if_pos (by omega)]; first | (rw [if_pos (by omega)]; first | done | (congr 1; omega)) | (rw [if_neg (by omega)]; first | done | (congr 1; omega))
            rw [eo]
            exact ⟨rfl, _, _, hR, oP_f hP (by omega)⟩
    · refine i_233_13 ?_
      refine i_233_14 ?_
      have eo : sNei S V r.toNat up = (0, 0, 0, 0, 0, S 128 19) := by unfold sNei; first | (rw [if_pos (by omega)]; done) | (rw [if_neg (by omega), if_pos (by omega)]; done) | (rw [if_neg (by omega), if_neg (by omega), if_pos (by omega), if_pos (by omega)]; done) | (rw [if_neg (by omega), if_neg (by omega), if_pos (by omega), if_neg (by omega)]; done) | (rw [if_neg (by omega), if_neg (by omega), if_neg (by omega)]; done)
      rw [eo]
      exact ⟨rfl, _, _, hR, oP_same (by omega) (fun h => absurd rfl h) hn_r (show (0 : Int) ≠ 3 by decide) rfl⟩
  obtain ⟨o, w', h1, rfl, h2⟩ := key.run
  exact ⟨w', h1, h2⟩
theorem b_nei {d : Nat} {w : xW} {r up : Int} (b_r : -2147483648 ≤ r ∧ r < 2147483648) (h : ¬ (0 ≤ r ∧ r ≤ 15)) : xRun (d + 8) 233 [Value.ref 128, Value.int (Int32.ofInt r), Value.int (Int32.ofInt up)] w (.inr w.length) (w ++ [.inr (14, [])]) := by
  refine xRun.of ?_
  refine i_233_0 (x := Int32.ofInt r) rfl ?_
  rcases Classical.em (0 ≤ r ∧ r ≤ 15) with hc1 | hc1
  · have hrun := s_reg1 (d := d + 5) (w := w) (r := r) (by omega) hc1
    refine i_233_1 (Nat.le_of_ble_eq_true rfl) hrun ?_
    exfalso; omega
  · have hrun := s_reg0 (d := d) (w := w) (r := r) (by omega) hc1
    refine j_233_1 (Nat.le_of_ble_eq_true rfl) hrun (xDone.t (ci := 14) xgl rfl rfl ?_)
    exact ⟨rfl, rfl⟩
