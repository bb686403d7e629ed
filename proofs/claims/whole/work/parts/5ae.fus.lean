/-! fused of the reference, inside its checks -/
section
variable {p l g gr f mode ka sa : Int} {ma : Nat} {ea kb sb : Int} {mb : Nat} {eb : Int}
theorem sum2_33 : sum2 p l g gr f mode 3 sa ma ea 3 sb mb eb = sumS p l g gr f mode ((0 + if sa = 0 then ma * 2 ^ (ea - min ea eb).toNat else 0) + if sb = 0 then mb * 2 ^ (eb - min ea eb).toNat else 0) ((0 + if sa = 0 then 0 else ma * 2 ^ (ea - min ea eb).toNat) + if sb = 0 then 0 else mb * 2 ^ (eb - min ea eb).toNat) (min ea eb) 0 0 0 := by
  unfold sum2 base2 cP cN zP zN
  simp
theorem sum2_3z (h : kb ≠ 3) : sum2 p l g gr f mode 3 sa ma ea kb sb mb eb = sumS p l g gr f mode (0 + if sa = 0 then ma * 2 ^ (ea - ea).toNat else 0) (0 + if sa = 0 then 0 else ma * 2 ^ (ea - ea).toNat) ea 0 (if sb = 0 then 1 else 0) (if sb = 0 then 0 else 1) := by
  unfold sum2 base2 cP cN zP zN
  by_cases h1 : sb = 0 <;> simp [h, h1] <;> rfl
theorem sum2_z3 (h : ka ≠ 3) : sum2 p l g gr f mode ka sa ma ea 3 sb mb eb = sumS p l g gr f mode (0 + if sb = 0 then mb * 2 ^ (eb - eb).toNat else 0) (0 + if sb = 0 then 0 else mb * 2 ^ (eb - eb).toNat) eb 0 (if sa = 0 then 1 else 0) (if sa = 0 then 0 else 1) := by
  unfold sum2 base2 cP cN zP zN
  by_cases h1 : sa = 0 <;> simp [h, h1] <;> rfl
theorem sum2_zz (h : ka ≠ 3) (h2 : kb ≠ 3) : sum2 p l g gr f mode ka sa ma ea kb sb mb eb = sumS p l g gr f mode 0 0 eb 1 (if sb = 0 then 1 else if sa = 0 then 1 else 0) (if sb = 0 then if sa = 0 then 0 else 1 else 1) := by
  unfold sum2 base2 cP cN zP zN
  by_cases h1 : sa = 0 <;> by_cases h3 : sb = 0 <;> simp [h, h1, h2, h3] <;> rfl
end
theorem sFus_m {S : Nat → Nat → Int} {V : Nat → Nat} {r a b c : Nat} {mode s k : Int} (h1 : ¬ (S 154 a = 0 ∨ S 154 b = 0 ∨ S 154 c = 0)) (h2 : ¬ (S 154 a = 1 ∨ S 154 b = 1)) (h3 : S 154 c ≠ 1) (hs : xorI (S 156 a) (S 156 b) = s) (hk : (if S 154 a = 2 ∨ S 154 b = 2 then 2 else 3) = k) : sFus S V r a b c mode = sum2 (S 153 r) (S 128 17) (S 128 18) (S 128 20) (S 128 19) mode k s (V (160 + 2 * a) * V (160 + 2 * b)) (S 155 a - S 153 a + (S 155 b - S 153 b)) (S 154 c) (S 156 c) (V (160 + 2 * c)) (S 155 c - S 153 c) := by
  unfold sFus
  rw [if_neg h1, if_neg (fun h => h2 h.1), if_neg h2, if_neg h3, hs, hk]
  rfl
set_option maxHeartbeats 80000000 in
theorem s_fus {d : Nat} {w0 w : xW} {S : Nat → Nat → Int} {V : Nat → Nat} {r a b c mode : Int} (hR : mR w0 S V w) (hI : mI S V) (hr : 0 ≤ r ∧ r ≤ 15) (ha : 0 ≤ a ∧ a ≤ 15) (hb : 0 ≤ b ∧ b ≤ 15) (hc : 0 ≤ c ∧ c ≤ 15) (hmo : 0 ≤ mode ∧ mode ≤ 4) : ∃ w', xRun (d + 8) 221 [Value.ref 128, Value.int (Int32.ofInt r), Value.int (Int32.ofInt a), Value.int (Int32.ofInt b), Value.int (Int32.ofInt c), Value.int (Int32.ofInt mode)] w (.inl (some (.int (Int32.ofInt (sFus S V r.toNat a.toNat b.toNat c.toNat mode).2.2.2.2.1)))) w' ∧ ∃ S' V', mR w0 S' V' w' ∧ oP S S' V V' r.toNat (sFus S V r.toNat a.toNat b.toNat c.toNat mode) := by
  obtain ⟨hp_r, -⟩ := hI.1 r.toNat (by omega)
  obtain ⟨hp_a, hk_a, hn_a, ht_a, hx_a, -⟩ := hI.1 a.toNat (by omega)
  obtain ⟨hp_b, hk_b, hn_b, ht_b, hx_b, -⟩ := hI.1 b.toNat (by omega)
  obtain ⟨hp_c, hk_c, hn_c, ht_c, hx_c, -⟩ := hI.1 c.toNat (by omega)
  have hi_l := hI.2.1
  have hi_g := hI.2.2.1
  have hi_f := hI.2.2.2
  have key : xEv (d + 8) 221 0 (lv_args 0 [Value.ref 128, Value.int (Int32.ofInt r), Value.int (Int32.ofInt a), Value.int (Int32.ofInt b), Value.int (Int32.ofInt c), Value.int (Int32.ofInt mode)]) [] w (fun o w' => o = .inl (some (.int (Int32.ofInt (sFus S V r.toNat a.toNat b.toNat c.toNat mode).2.2.2.2.1))) ∧ ∃ S' V', mR w0 S' V' w' ∧ oP S S' V V' r.toNat (sFus S V r.toNat a.toNat b.toNat c.toNat mode)) := by
    refine i_221_0 (x := Int32.ofInt r) rfl ?_
    have hrun := s_reg1 (d := d + 5) (w := w) (r := r) (by omega) (by omega)
    refine i_221_1 (Nat.le_of_ble_eq_true rfl) hrun ?_
    refine i_221_4 (x := Int32.ofInt a) rfl ?_
    have hrun := s_reg1 (d := d + 5) (w := w) (r := a) (by omega) (by omega)
    refine i_221_5 (Nat.le_of_ble_eq_true rfl) hrun ?_
    refine i_221_8 (x := Int32.ofInt b) rfl ?_
    have hrun := s_reg1 (d := d + 5) (w := w) (r := b) (by omega) (by omega)
    refine i_221_9 (Nat.le_of_ble_eq_true rfl) hrun ?_
    refine i_221_12 (x := Int32.ofInt c) rfl ?_
    have hrun := s_reg1 (d := d + 5) (w := w) (r := c) (by omega) (by omega)
    refine i_221_14 (Nat.le_of_ble_eq_true rfl) hrun ?_
    refine i_221_17 (x := Int32.ofInt mode) rfl ?_
    have hrun := s_mode1 (d := d + 5) (w := w) (r := mode) (by omega) (by omega)
    refine i_221_19 (Nat.le_of_ble_eq_true rfl) hrun ?_
    refine i_221_22 (x := 128) rfl ?_
    refine i_221_23 (v := Value.ref 156) hR.c128 rfl ?_
    refine i_221_26 (x := Int32.ofInt a) rfl ?_
    refine i_221_27z (v := Value.int (Int32.ofInt (S 156 ((a).toNat)))) (hR.row a156) (ix0 (T := a) (by omega) (by omega)) (ix1 (T := a) (by omega) (by omega) (by omega)) (ra (T := a) (by omega) (by omega) rfl) ?_
    refine i_221_28 (x := 128) rfl ?_
    refine i_221_29 (v := Value.ref 156) hR.c128 rfl ?_
    refine i_221_32 (x := Int32.ofInt b) rfl ?_
    refine i_221_33z (v := Value.int (Int32.ofInt (S 156 ((b).toNat)))) (hR.row a156) (ix0 (T := b) (by omega) (by omega)) (ix1 (T := b) (by omega) (by omega) (by omega)) (ra (T := b) (by omega) (by omega) rfl) ?_
    refine i_221_34 (b_eq (a := S 156 ((a).toNat)) (b := S 156 ((b).toNat)) ⟨by omega, by omega⟩ ⟨by omega, by omega⟩ fun c0 => ?_) (b_ne (a := S 156 ((a).toNat)) (b := S 156 ((b).toNat)) ⟨by omega, by omega⟩ ⟨by omega, by omega⟩ fun c0 => ?_)
    · refine i_221_41 ?_
      refine i_221_42 (lv2 := [(6, Value.int 0), (0, Value.ref 128), (1, Value.int (Int32.ofInt r)), (2, Value.int (Int32.ofInt a)), (3, Value.int (Int32.ofInt b)), (4, Value.int (Int32.ofInt c)), (5, Value.int (Int32.ofInt mode))]) rfl ?_
      refine i_221_44 (x := 128) rfl ?_
      refine i_221_45 (v := Value.ref 154) hR.c128 rfl ?_
      refine i_221_48 (x := Int32.ofInt a) rfl ?_
      refine i_221_49 (v := Value.int (Int32.ofInt (S 154 ((a).toNat)))) (hR.row a154) (ix0 (T := a) (by omega) (by omega)) (ix1 (T := a) (by omega) (by omega) (by omega)) (ra (T := a) (by omega) (by omega) rfl) ?_
      refine i_221_50 ?_
      refine i_221_51 (b_eq (a := S 154 ((a).toNat)) (b := 1) ⟨by omega, by omega⟩ ⟨by decide, by decide⟩ fun c1 => ?_) (b_ne (a := S 154 ((a).toNat)) (b := 1) ⟨by omega, by omega⟩ ⟨by decide, by decide⟩ fun c1 => ?_)
      · refine i_221_64 ?_
        refine i_221_65 ?_
        refine i_221_69 (lv2 := [(7, Value.int 1), (6, Value.int 0), (0, Value.ref 128), (1, Value.int (Int32.ofInt r)), (2, Value.int (Int32.ofInt a)), (3, Value.int (Int32.ofInt b)), (4, Value.int (Int32.ofInt c)), (5, Value.int (Int32.ofInt mode))]) rfl ?_
        refine i_221_71 (x := 128) rfl ?_
        refine i_221_72 (v := Value.ref 154) hR.c128 rfl ?_
        refine i_221_75 (x := Int32.ofInt a) rfl ?_
        refine i_221_76 (v := Value.int (Int32.ofInt (S 154 ((a).toNat)))) (hR.row a154) (ix0 (T := a) (by omega) (by omega)) (ix1 (T := a) (by omega) (by omega) (by omega)) (ra (T := a) (by omega) (by omega) rfl) ?_
        refine i_221_77 ?_
        refine i_221_78 (b_eq (a := S 154 ((a).toNat)) (b := 2) ⟨by omega, by omega⟩ ⟨by decide, by decide⟩ fun c2 => absurd c2 (by omega)) (b_ne (a := S 154 ((a).toNat)) (b := 2) ⟨by omega, by omega⟩ ⟨by decide, by decide⟩ fun c2 => ?_)
        refine i_221_81 (x := 128) rfl ?_
        refine i_221_82 (v := Value.ref 154) hR.c128 rfl ?_
        refine i_221_85 (x := Int32.ofInt b) rfl ?_
        refine i_221_86 (v := Value.int (Int32.ofInt (S 154 ((b).toNat)))) (hR.row a154) (ix0 (T := b) (by omega) (by omega)) (ix1 (T := b) (by omega) (by omega) (by omega)) (ra (T := b) (by omega) (by omega) rfl) ?_
        refine i_221_87 ?_
        refine i_221_88 (b_ne (a := S 154 ((b).toNat)) (b := 2) ⟨by omega, by omega⟩ ⟨by decide, by decide⟩ fun c3 => ?_) (b_eq (a := S 154 ((b).toNat)) (b := 2) ⟨by omega, by omega⟩ ⟨by decide, by decide⟩ fun c3 => ?_)
        · refine i_221_95 ?_
          refine i_221_96 (lv2 := [(8, Value.int 0), (7, Value.int 1), (6, Value.int 0), (0, Value.ref 128), (1, Value.int (Int32.ofInt r)), (2, Value.int (Int32.ofInt a)), (3, Value.int (Int32.ofInt b)), (4, Value.int (Int32.ofInt c)), (5, Value.int (Int32.ofInt mode))]) rfl ?_
          refine i_221_98 (x := 128) rfl ?_
          refine i_221_99 (v := Value.ref 154) hR.c128 rfl ?_
          refine i_221_102 (x := Int32.ofInt a) rfl ?_
          refine i_221_103 (v := Value.int (Int32.ofInt (S 154 ((a).toNat)))) (hR.row a154) (ix0 (T := a) (by omega) (by omega)) (ix1 (T := a) (by omega) (by omega) (by omega)) (ra (T := a) (by omega) (by omega) rfl) ?_
          refine i_221_104 (z_eq (a := S 154 ((a).toNat)) ⟨by omega, by omega⟩ fun c4 => absurd c4 (by omega)) (z_ne (a := S 154 ((a).toNat)) ⟨by omega, by omega⟩ fun c4 => ?_)
          refine i_221_107 (x := 128) rfl ?_
          refine i_221_108 (v := Value.ref 154) hR.c128 rfl ?_
          refine i_221_111 (x := Int32.ofInt b) rfl ?_
          refine i_221_112 (v := Value.int (Int32.ofInt (S 154 ((b).toNat)))) (hR.row a154) (ix0 (T := b) (by omega) (by omega)) (ix1 (T := b) (by omega) (by omega) (by omega)) (ra (T := b) (by omega) (by omega) rfl) ?_
          refine i_221_113 (z_eq (a := S 154 ((b).toNat)) ⟨by omega, by omega⟩ fun c5 => ?_) (z_ne (a := S 154 ((b).toNat)) ⟨by omega, by omega⟩ fun c5 => ?_)
          · refine i_221_126 (x := 128) rfl ?_
            refine i_221_127 (x := Int32.ofInt r) rfl ?_
            refine i_221_128 ?_
            refine i_221_129 ?_
            have hobj := hR.c128
            obtain ⟨w, hrun, hR⟩ := s_special (d := d + 6) (r := r) (k := 0) (s := 0) hR (by omega) (by omega) (by omega)
            refine i_221_130 hobj (Nat.le_of_ble_eq_true rfl) hrun ?_
            refine i_221_133 ?_
            have eo : sFus S V r.toNat a.toNat b.toNat c.toNat mode = oS 0 0 (S 128 19) := by clear hR hrun; unfold sFus; first | rw [if_pos (by omega)] | (rw [if_neg (by omega), if_pos (by unfold xorI; first | rw [if_pos (by omega)]; omega | rw [if_neg (by omega)]; omega | omega)]; done) | (rw [if_neg (by omega), if_neg (by unfold xorI; first | (rw [if_pos (by omega)]; omega) | (rw [if_neg (by omega)]; omega) | omega), if_pos (by omega)]; first | done | (congr 1; unfold xorI; first | exact if_pos (by omega) | exact if_neg (by omega))) | (rw [if_neg (by omega), if_neg (by omega), if_neg (by omega), if_pos (by omega)])
            rw [eo]
            exact ⟨rfl, _, _, hR, oP_special (by omega) (by decide) nS.refl nV.refl rfl⟩
          · refine i_221_116 (x := 128) rfl ?_
            refine i_221_117 (v := Value.ref 154) hR.c128 rfl ?_
            refine i_221_120 (x := Int32.ofInt c) rfl ?_
            refine i_221_122 (v := Value.int (Int32.ofInt (S 154 ((c).toNat)))) (hR.row a154) (ix0 (T := c) (by omega) (by omega)) (ix1 (T := c) (by omega) (by omega) (by omega)) (ra (T := c) (by omega) (by omega) rfl) ?_
            refine i_221_123 (z_ne (a := S 154 ((c).toNat)) ⟨by omega, by omega⟩ fun c6 => ?_) (z_eq (a := S 154 ((c).toNat)) ⟨by omega, by omega⟩ fun c6 => ?_)
            · refine i_221_134 (x := 1) rfl ?_
              refine i_221_136 (fun c => absurd c (by decide)) (fun _ => ?_)
              refine i_221_139 (x := 0) rfl ?_
              refine i_221_141 (fun c => absurd c (by decide)) (fun _ => ?_)
              refine i_221_144 (x := 128) rfl ?_
              refine i_221_145 (v := Value.ref 154) hR.c128 rfl ?_
              refine i_221_148 (x := Int32.ofInt c) rfl ?_
              refine i_221_150 (v := Value.int (Int32.ofInt (S 154 ((c).toNat)))) (hR.row a154) (ix0 (T := c) (by omega) (by omega)) (ix1 (T := c) (by omega) (by omega) (by omega)) (ra (T := c) (by omega) (by omega) rfl) ?_
              refine i_221_151 ?_
              refine i_221_152 (b_ne (a := S 154 ((c).toNat)) (b := 1) ⟨by omega, by omega⟩ ⟨by decide, by decide⟩ fun c7 => ?_) (b_eq (a := S 154 ((c).toNat)) (b := 1) ⟨by omega, by omega⟩ ⟨by decide, by decide⟩ fun c7 => ?_)
              · refine i_221_173 (x := 1) rfl ?_
                refine i_221_175 (fun c => absurd c (by decide)) (fun _ => ?_)
                refine i_221_178 (x := 128) rfl ?_
                refine i_221_179 (x := Int32.ofInt r) rfl ?_
                refine i_221_180 ?_
                refine i_221_181 (x := 0) rfl ?_
                have hobj := hR.c128
                obtain ⟨w, hrun, hR⟩ := s_special (d := d + 6) (r := r) (k := 1) (s := 0) hR (by omega) (by omega) (by omega)
                refine i_221_183 hobj (Nat.le_of_ble_eq_true rfl) hrun ?_
                refine i_221_186 ?_
                have eo : sFus S V r.toNat a.toNat b.toNat c.toNat mode = oS 1 0 (S 128 19) := by clear hR hrun; unfold sFus; first | rw [if_pos (by omega)] | (rw [if_neg (by omega), if_pos (by unfold xorI; first | rw [if_pos (by omega)]; omega | rw [if_neg (by omega)]; omega | omega)]; done) | (rw [if_neg (by omega), if_neg (by unfold xorI; first | (rw [if_pos (by omega)]; omega) | (rw [if_neg (by omega)]; omega) | omega), if_pos (by omega)]; first | done | (congr 1; unfold xorI; first | exact if_pos (by omega) | exact if_neg (by omega))) | (rw [if_neg (by omega), if_neg (by omega), if_neg (by omega), if_pos (by omega)])
                rw [eo]
                exact ⟨rfl, _, _, hR, oP_special (by omega) (by decide) nS.refl nV.refl rfl⟩
              · refine i_221_155 (x := 128) rfl ?_
                refine i_221_156 (v := Value.ref 156) hR.c128 rfl ?_
                refine i_221_159 (x := Int32.ofInt c) rfl ?_
                refine i_221_161z (v := Value.int (Int32.ofInt (S 156 ((c).toNat)))) (hR.row a156) (ix0 (T := c) (by omega) (by omega)) (ix1 (T := c) (by omega) (by omega) (by omega)) (ra (T := c) (by omega) (by omega) rfl) ?_
                refine i_221_162 (x := 0) rfl ?_
                refine i_221_164 (b_eq (a := S 156 ((c).toNat)) (b := 0) ⟨by omega, by omega⟩ ⟨by decide, by decide⟩ fun c8 => ?_) (b_ne (a := S 156 ((c).toNat)) (b := 0) ⟨by omega, by omega⟩ ⟨by decide, by decide⟩ fun c8 => ?_)
                · refine i_221_173 (x := 1) rfl ?_
                  refine i_221_175 (fun c => absurd c (by decide)) (fun _ => ?_)
                  refine i_221_178 (x := 128) rfl ?_
                  refine i_221_179 (x := Int32.ofInt r) rfl ?_
                  refine i_221_180 ?_
                  refine i_221_181 (x := 0) rfl ?_
                  have hobj := hR.c128
                  obtain ⟨w, hrun, hR⟩ := s_special (d := d + 6) (r := r) (k := 1) (s := 0) hR (by omega) (by omega) (by omega)
                  refine i_221_183 hobj (Nat.le_of_ble_eq_true rfl) hrun ?_
                  refine i_221_186 ?_
                  have eo : sFus S V r.toNat a.toNat b.toNat c.toNat mode = oS 1 0 (S 128 19) := by clear hR hrun; unfold sFus; first | rw [if_pos (by omega)] | (rw [if_neg (by omega), if_pos (by unfold xorI; first | rw [if_pos (by omega)]; omega | rw [if_neg (by omega)]; omega | omega)]; done) | (rw [if_neg (by omega), if_neg (by unfold xorI; first | (rw [if_pos (by omega)]; omega) | (rw [if_neg (by omega)]; omega) | omega), if_pos (by omega)]; first | done | (congr 1; unfold xorI; first | exact if_pos (by omega) | exact if_neg (by omega))) | (rw [if_neg (by omega), if_neg (by omega), if_neg (by omega), if_pos (by omega)])
                  rw [eo]
                  exact ⟨rfl, _, _, hR, oP_special (by omega) (by decide) nS.refl nV.refl rfl⟩
                · refine i_221_167 (x := 128) rfl ?_
                  refine i_221_168 (x := Int32.ofInt r) rfl ?_
                  have hobj := hR.c128
                  obtain ⟨w, hrun, hR⟩ := s_invalid (d := d + 5) (r := r) hR (by omega) (by omega)
                  refine i_221_169 hobj (Nat.le_of_ble_eq_true rfl) hrun ?_
                  refine i_221_172 ?_
                  have eo : sFus S V r.toNat a.toNat b.toNat c.toNat mode = oS 0 0 (zor (S 128 19) 8) := by clear hR hrun; unfold sFus; first | rw [if_pos (by omega)] | (rw [if_neg (by omega), if_pos (by unfold xorI; first | rw [if_pos (by omega)]; omega | rw [if_neg (by omega)]; omega | omega)]; done) | (rw [if_neg (by omega), if_neg (by unfold xorI; first | (rw [if_pos (by omega)]; omega) | (rw [if_neg (by omega)]; omega) | omega), if_pos (by omega)]; first | done | (congr 1; unfold xorI; first | exact if_pos (by omega) | exact if_neg (by omega))) | (rw [if_neg (by omega), if_neg (by omega), if_neg (by omega), if_pos (by omega)])
                  rw [eo]
                  exact ⟨rfl, _, _, hR, oP_flag (by omega) (by decide) nS.refl nV.refl rfl⟩
            · refine i_221_126 (x := 128) rfl ?_
              refine i_221_127 (x := Int32.ofInt r) rfl ?_
              refine i_221_128 ?_
              refine i_221_129 ?_
              have hobj := hR.c128
              obtain ⟨w, hrun, hR⟩ := s_special (d := d + 6) (r := r) (k := 0) (s := 0) hR (by omega) (by omega) (by omega)
              refine i_221_130 hobj (Nat.le_of_ble_eq_true rfl) hrun ?_
              refine i_221_133 ?_
              have eo : sFus S V r.toNat a.toNat b.toNat c.toNat mode = oS 0 0 (S 128 19) := by clear hR hrun; unfold sFus; first | rw [if_pos (by omega)] | (rw [if_neg (by omega), if_pos (by unfold xorI; first | rw [if_pos (by omega)]; omega | rw [if_neg (by omega)]; omega | omega)]; done) | (rw [if_neg (by omega), if_neg (by unfold xorI; first | (rw [if_pos (by omega)]; omega) | (rw [if_neg (by omega)]; omega) | omega), if_pos (by omega)]; first | done | (congr 1; unfold xorI; first | exact if_pos (by omega) | exact if_neg (by omega))) | (rw [if_neg (by omega), if_neg (by omega), if_neg (by omega), if_pos (by omega)])
              rw [eo]
              exact ⟨rfl, _, _, hR, oP_special (by omega) (by decide) nS.refl nV.refl rfl⟩
        · refine i_221_91 ?_
          refine i_221_92 ?_
          refine i_221_96 (lv2 := [(8, Value.int 1), (7, Value.int 1), (6, Value.int 0), (0, Value.ref 128), (1, Value.int (Int32.ofInt r)), (2, Value.int (Int32.ofInt a)), (3, Value.int (Int32.ofInt b)), (4, Value.int (Int32.ofInt c)), (5, Value.int (Int32.ofInt mode))]) rfl ?_
          refine i_221_98 (x := 128) rfl ?_
          refine i_221_99 (v := Value.ref 154) hR.c128 rfl ?_
          refine i_221_102 (x := Int32.ofInt a) rfl ?_
          refine i_221_103 (v := Value.int (Int32.ofInt (S 154 ((a).toNat)))) (hR.row a154) (ix0 (T := a) (by omega) (by omega)) (ix1 (T := a) (by omega) (by omega) (by omega)) (ra (T := a) (by omega) (by omega) rfl) ?_
          refine i_221_104 (z_eq (a := S 154 ((a).toNat)) ⟨by omega, by omega⟩ fun c9 => absurd c9 (by omega)) (z_ne (a := S 154 ((a).toNat)) ⟨by omega, by omega⟩ fun c9 => ?_)
          refine i_221_107 (x := 128) rfl ?_
          refine i_221_108 (v := Value.ref 154) hR.c128 rfl ?_
          refine i_221_111 (x := Int32.ofInt b) rfl ?_
          refine i_221_112 (v := Value.int (Int32.ofInt (S 154 ((b).toNat)))) (hR.row a154) (ix0 (T := b) (by omega) (by omega)) (ix1 (T := b) (by omega) (by omega) (by omega)) (ra (T := b) (by omega) (by omega) rfl) ?_
          refine i_221_113 (z_eq (a := S 154 ((b).toNat)) ⟨by omega, by omega⟩ fun c10 => absurd c10 (by omega)) (z_ne (a := S 154 ((b).toNat)) ⟨by omega, by omega⟩ fun c10 => ?_)
          refine i_221_116 (x := 128) rfl ?_
          refine i_221_117 (v := Value.ref 154) hR.c128 rfl ?_
          refine i_221_120 (x := Int32.ofInt c) rfl ?_
          refine i_221_122 (v := Value.int (Int32.ofInt (S 154 ((c).toNat)))) (hR.row a154) (ix0 (T := c) (by omega) (by omega)) (ix1 (T := c) (by omega) (by omega) (by omega)) (ra (T := c) (by omega) (by omega) rfl) ?_
          refine i_221_123 (z_ne (a := S 154 ((c).toNat)) ⟨by omega, by omega⟩ fun c11 => ?_) (z_eq (a := S 154 ((c).toNat)) ⟨by omega, by omega⟩ fun c11 => ?_)
          · refine i_221_134 (x := 1) rfl ?_
            refine i_221_136 (fun c => absurd c (by decide)) (fun _ => ?_)
            refine i_221_139 (x := 1) rfl ?_
            refine i_221_141 (fun _ => ?_) (fun c => absurd c (by decide))
            refine i_221_167 (x := 128) rfl ?_
            refine i_221_168 (x := Int32.ofInt r) rfl ?_
            have hobj := hR.c128
            obtain ⟨w, hrun, hR⟩ := s_invalid (d := d + 5) (r := r) hR (by omega) (by omega)
            refine i_221_169 hobj (Nat.le_of_ble_eq_true rfl) hrun ?_
            refine i_221_172 ?_
            have eo : sFus S V r.toNat a.toNat b.toNat c.toNat mode = oS 0 0 (zor (S 128 19) 8) := by clear hR hrun; unfold sFus; first | rw [if_pos (by omega)] | (rw [if_neg (by omega), if_pos (by unfold xorI; first | rw [if_pos (by omega)]; omega | rw [if_neg (by omega)]; omega | omega)]; done) | (rw [if_neg (by omega), if_neg (by unfold xorI; first | (rw [if_pos (by omega)]; omega) | (rw [if_neg (by omega)]; omega) | omega), if_pos (by omega)]; first | done | (congr 1; unfold xorI; first | exact if_pos (by omega) | exact if_neg (by omega))) | (rw [if_neg (by omega), if_neg (by omega), if_neg (by omega), if_pos (by omega)])
            rw [eo]
            exact ⟨rfl, _, _, hR, oP_flag (by omega) (by decide) nS.refl nV.refl rfl⟩
          · refine i_221_126 (x := 128) rfl ?_
            refine i_221_127 (x := Int32.ofInt r) rfl ?_
            refine i_221_128 ?_
            refine i_221_129 ?_
            have hobj := hR.c128
            obtain ⟨w, hrun, hR⟩ := s_special (d := d + 6) (r := r) (k := 0) (s := 0) hR (by omega) (by omega) (by omega)
            refine i_221_130 hobj (Nat.le_of_ble_eq_true rfl) hrun ?_
            refine i_221_133 ?_
            have eo : sFus S V r.toNat a.toNat b.toNat c.toNat mode = oS 0 0 (S 128 19) := by clear hR hrun; unfold sFus; first | rw [if_pos (by omega)] | (rw [if_neg (by omega), if_pos (by unfold xorI; first | rw [if_pos (by omega)]; omega | rw [if_neg (by omega)]; omega | omega)]; done) | (rw [if_neg (by omega), if_neg (by unfold xorI; first | (rw [if_pos (by omega)]; omega) | (rw [if_neg (by omega)]; omega) | omega), if_pos (by omega)]; first | done | (congr 1; unfold xorI; first | exact if_pos (by omega) | exact if_neg (by omega))) | (rw [if_neg (by omega), if_neg (by omega), if_neg (by omega), if_pos (by omega)])
            rw [eo]
            exact ⟨rfl, _, _, hR, oP_special (by omega) (by decide) nS.refl nV.refl rfl⟩
      · refine i_221_54 (x := 128) rfl ?_
        refine i_221_55 (v := Value.ref 154) hR.c128 rfl ?_
        refine i_221_58 (x := Int32.ofInt b) rfl ?_
        refine i_221_59 (v := Value.int (Int32.ofInt (S 154 ((b).toNat)))) (hR.row a154) (ix0 (T := b) (by omega) (by omega)) (ix1 (T := b) (by omega) (by omega) (by omega)) (ra (T := b) (by omega) (by omega) rfl) ?_
        refine i_221_60 ?_
        refine i_221_61 (b_ne (a := S 154 ((b).toNat)) (b := 1) ⟨by omega, by omega⟩ ⟨by decide, by decide⟩ fun c12 => ?_) (b_eq (a := S 154 ((b).toNat)) (b := 1) ⟨by omega, by omega⟩ ⟨by decide, by decide⟩ fun c12 => ?_)
        · refine i_221_68 ?_
          refine i_221_69 (lv2 := [(7, Value.int 0), (6, Value.int 0), (0, Value.ref 128), (1, Value.int (Int32.ofInt r)), (2, Value.int (Int32.ofInt a)), (3, Value.int (Int32.ofInt b)), (4, Value.int (Int32.ofInt c)), (5, Value.int (Int32.ofInt mode))]) rfl ?_
          refine i_221_71 (x := 128) rfl ?_
          refine i_221_72 (v := Value.ref 154) hR.c128 rfl ?_
          refine i_221_75 (x := Int32.ofInt a) rfl ?_
          refine i_221_76 (v := Value.int (Int32.ofInt (S 154 ((a).toNat)))) (hR.row a154) (ix0 (T := a) (by omega) (by omega)) (ix1 (T := a) (by omega) (by omega) (by omega)) (ra (T := a) (by omega) (by omega) rfl) ?_
          refine i_221_77 ?_
          refine i_221_78 (b_eq (a := S 154 ((a).toNat)) (b := 2) ⟨by omega, by omega⟩ ⟨by decide, by decide⟩ fun c13 => ?_) (b_ne (a := S 154 ((a).toNat)) (b := 2) ⟨by omega, by omega⟩ ⟨by decide, by decide⟩ fun c13 => ?_)
          · refine i_221_91 ?_
            refine i_221_92 ?_
            refine i_221_96 (lv2 := [(8, Value.int 1), (7, Value.int 0), (6, Value.int 0), (0, Value.ref 128), (1, Value.int (Int32.ofInt r)), (2, Value.int (Int32.ofInt a)), (3, Value.int (Int32.ofInt b)), (4, Value.int (Int32.ofInt c)), (5, Value.int (Int32.ofInt mode))]) rfl ?_
            refine i_221_98 (x := 128) rfl ?_
            refine i_221_99 (v := Value.ref 154) hR.c128 rfl ?_
            refine i_221_102 (x := Int32.ofInt a) rfl ?_
            refine i_221_103 (v := Value.int (Int32.ofInt (S 154 ((a).toNat)))) (hR.row a154) (ix0 (T := a) (by omega) (by omega)) (ix1 (T := a) (by omega) (by omega) (by omega)) (ra (T := a) (by omega) (by omega) rfl) ?_
            refine i_221_104 (z_eq (a := S 154 ((a).toNat)) ⟨by omega, by omega⟩ fun c14 => absurd c14 (by omega)) (z_ne (a := S 154 ((a).toNat)) ⟨by omega, by omega⟩ fun c14 => ?_)
            refine i_221_107 (x := 128) rfl ?_
            refine i_221_108 (v := Value.ref 154) hR.c128 rfl ?_
            refine i_221_111 (x := Int32.ofInt b) rfl ?_
            refine i_221_112 (v := Value.int (Int32.ofInt (S 154 ((b).toNat)))) (hR.row a154) (ix0 (T := b) (by omega) (by omega)) (ix1 (T := b) (by omega) (by omega) (by omega)) (ra (T := b) (by omega) (by omega) rfl) ?_
            refine i_221_113 (z_eq (a := S 154 ((b).toNat)) ⟨by omega, by omega⟩ fun c15 => ?_) (z_ne (a := S 154 ((b).toNat)) ⟨by omega, by omega⟩ fun c15 => ?_)
            · refine i_221_126 (x := 128) rfl ?_
              refine i_221_127 (x := Int32.ofInt r) rfl ?_
              refine i_221_128 ?_
              refine i_221_129 ?_
              have hobj := hR.c128
              obtain ⟨w, hrun, hR⟩ := s_special (d := d + 6) (r := r) (k := 0) (s := 0) hR (by omega) (by omega) (by omega)
              refine i_221_130 hobj (Nat.le_of_ble_eq_true rfl) hrun ?_
              refine i_221_133 ?_
              have eo : sFus S V r.toNat a.toNat b.toNat c.toNat mode = oS 0 0 (S 128 19) := by clear hR hrun; unfold sFus; first | rw [if_pos (by omega)] | (rw [if_neg (by omega), if_pos (by unfold xorI; first | rw [if_pos (by omega)]; omega | rw [if_neg (by omega)]; omega | omega)]; done) | (rw [if_neg (by omega), if_neg (by unfold xorI; first | (rw [if_pos (by omega)]; omega) | (rw [if_neg (by omega)]; omega) | omega), if_pos (by omega)]; first | done | (congr 1; unfold xorI; first | exact if_pos (by omega) | exact if_neg (by omega))) | (rw [if_neg (by omega), if_neg (by omega), if_neg (by omega), if_pos (by omega)])
              rw [eo]
              exact ⟨rfl, _, _, hR, oP_special (by omega) (by decide) nS.refl nV.refl rfl⟩
            · refine i_221_116 (x := 128) rfl ?_
              refine i_221_117 (v := Value.ref 154) hR.c128 rfl ?_
              refine i_221_120 (x := Int32.ofInt c) rfl ?_
              refine i_221_122 (v := Value.int (Int32.ofInt (S 154 ((c).toNat)))) (hR.row a154) (ix0 (T := c) (by omega) (by omega)) (ix1 (T := c) (by omega) (by omega) (by omega)) (ra (T := c) (by omega) (by omega) rfl) ?_
              refine i_221_123 (z_ne (a := S 154 ((c).toNat)) ⟨by omega, by omega⟩ fun c16 => ?_) (z_eq (a := S 154 ((c).toNat)) ⟨by omega, by omega⟩ fun c16 => ?_)
              · refine i_221_134 (x := 0) rfl ?_
                refine i_221_136 (fun _ => ?_) (fun c => absurd c (by decide))
                refine i_221_173 (x := 0) rfl ?_
                refine i_221_175 (fun _ => ?_) (fun c => absurd c (by decide))
                refine i_221_187 (x := 128) rfl ?_
                refine i_221_188 (v := Value.ref 154) hR.c128 rfl ?_
                refine i_221_191 (x := Int32.ofInt c) rfl ?_
                refine i_221_193 (v := Value.int (Int32.ofInt (S 154 ((c).toNat)))) (hR.row a154) (ix0 (T := c) (by omega) (by omega)) (ix1 (T := c) (by omega) (by omega) (by omega)) (ra (T := c) (by omega) (by omega) rfl) ?_
                refine i_221_194 ?_
                refine i_221_195 (b_ne (a := S 154 ((c).toNat)) (b := 1) ⟨by omega, by omega⟩ ⟨by decide, by decide⟩ fun c17 => ?_) (b_eq (a := S 154 ((c).toNat)) (b := 1) ⟨by omega, by omega⟩ ⟨by decide, by decide⟩ fun c17 => ?_)
                · refine i_221_212 (x := 128) rfl ?_
                  refine i_221_213 (x := Int32.ofInt a) rfl ?_
                  have hobj := hR.c128
                  obtain ⟨w, hrun, hR⟩ := s_exponent (d := d + 6) (r := a) hR (by omega) (by omega)
                  refine i_221_214 hobj (Nat.le_of_ble_eq_true rfl) hrun ?_
                  refine i_221_217 (x := 128) rfl ?_
                  refine i_221_218 (x := Int32.ofInt b) rfl ?_
                  have hobj := hR.c128
                  obtain ⟨w, hrun, hR⟩ := s_exponent (d := d + 6) (r := b) hR (by omega) (by omega)
                  refine i_221_219 hobj (Nat.le_of_ble_eq_true rfl) hrun ?_
                  refine i_221_222 (c := Int32.ofInt ((S 155 a.toNat - S 153 a.toNat) + (S 155 b.toNat - S 153 b.toNat))) (o_add (S 155 a.toNat - S 153 a.toNat) (S 155 b.toNat - S 153 b.toNat)) ?_
                  refine i_221_223 (lv2 := [(9, Value.int (Int32.ofInt ((S 155 a.toNat - S 153 a.toNat) + (S 155 b.toNat - S 153 b.toNat)))), (8, Value.int 1), (7, Value.int 0), (6, Value.int 0), (0, Value.ref 128), (1, Value.int (Int32.ofInt r)), (2, Value.int (Int32.ofInt a)), (3, Value.int (Int32.ofInt b)), (4, Value.int (Int32.ofInt c)), (5, Value.int (Int32.ofInt mode))]) rfl ?_
                  refine i_221_225 (x := 128) rfl ?_
                  refine i_221_226 (x := 1) rfl ?_
                  refine i_221_228 (fun c => absurd c (by decide)) (fun _ => ?_)
                  refine i_221_231 (x := 128) rfl ?_
                  refine i_221_232 (x := Int32.ofInt c) rfl ?_
                  have hobj := hR.c128
                  obtain ⟨w, hrun, hR⟩ := s_exponent (d := d + 6) (r := c) hR (by omega) (by omega)
                  refine i_221_234 hobj (Nat.le_of_ble_eq_true rfl) hrun ?_
                  refine i_221_237 ?_
                  have hobj := hR.c128
                  obtain ⟨w, S1, V1, hrun, hR, hS⟩ := t_open (d := d + 4) (e := S 155 c.toNat - S 153 c.toNat) hR nS.refl nV.refl
                  refine i_221_267 hobj (Nat.le_of_ble_eq_true rfl) hrun ?_
                  refine i_221_270 (x := 1) rfl ?_
                  refine i_221_272 (fun c => absurd c (by decide)) (fun _ => ?_)
                  refine i_221_275 (x := 128) rfl ?_
                  refine i_221_276 (x := 0) rfl ?_
                  have hobj := hR.c128
                  obtain ⟨w, S1, V1, hrun, hR, hS⟩ := t_addZero (d := d + 6) (sg := 0) hR hS (by omega)
                  refine i_221_278 hobj (Nat.le_of_ble_eq_true rfl) hrun ?_
                  refine i_221_281 ?_
                  refine i_221_315 (x := 128) rfl ?_
                  refine i_221_316 (v := Value.ref 154) hR.c128 rfl ?_
                  refine i_221_319 (x := Int32.ofInt c) rfl ?_
                  refine i_221_321 (v := Value.int (Int32.ofInt (S 154 ((c).toNat)))) (hR.row a154) (ix0 (T := c) (by omega) (by omega)) (ix1 (T := c) (by omega) (by omega) (by omega)) (ra (T := c) (by omega) (by omega) (hS.1.1 _ _ (by decide))) ?_
                  refine i_221_322 ?_
                  refine i_221_323 (b_ne (a := S 154 ((c).toNat)) (b := 3) ⟨by omega, by omega⟩ ⟨by decide, by decide⟩ fun c18 => ?_) (b_eq (a := S 154 ((c).toNat)) (b := 3) ⟨by omega, by omega⟩ ⟨by decide, by decide⟩ fun c18 => ?_)
                  · refine i_221_353 (x := 128) rfl ?_
                    refine i_221_354 (x := 128) rfl ?_
                    refine i_221_355 (v := Value.ref 156) hR.c128 rfl ?_
                    refine i_221_358 (x := Int32.ofInt c) rfl ?_
                    refine i_221_360z (v := Value.int (Int32.ofInt (S 156 ((c).toNat)))) (hR.row a156) (ix0 (T := c) (by omega) (by omega)) (ix1 (T := c) (by omega) (by omega) (by omega)) (ra (T := c) (by omega) (by omega) (hS.1.1 _ _ (by decide))) ?_
                    have hobj := hR.c128
                    obtain ⟨w, S1, V1, hrun, hR, hS⟩ := t_addZero (d := d + 6) (sg := S 156 ((c).toNat)) hR hS (by omega)
                    refine i_221_361 hobj (Nat.le_of_ble_eq_true rfl) hrun ?_
                    refine i_221_364 (x := 128) rfl ?_
                    refine i_221_365 (x := Int32.ofInt r) rfl ?_
                    refine i_221_366 (x := Int32.ofInt mode) rfl ?_
                    have hobj := hR.c128
                    obtain ⟨w, hrun, S2, V2, hR, hP⟩ := t_close (d := d + 2) (r := r) (mode := mode) hR hS hI (by omega) (by omega) (by refine ⟨?_, ?_, ?_⟩ <;> (repeat' split) <;> simp) (by first | omega | decide | exact Nat.le_trans (pl_b (n := 130000) (by decide) (Nat.le_trans (xbl_powle _ _) (by have := xbl_prod (V (160 + 2 * a.toNat)) (V (160 + 2 * b.toNat)); omega))) (by decide) | exact Nat.le_trans (mi_b (n := 130000) (by decide) (Nat.le_trans (xbl_powle _ _) (by have := xbl_prod (V (160 + 2 * a.toNat)) (V (160 + 2 * b.toNat)); omega))) (by decide) | exact Nat.le_trans (pl_b (n := 130001) (pl_b (n := 130000) (by decide) (Nat.le_trans (xbl_powle _ _) (by have := xbl_prod (V (160 + 2 * a.toNat)) (V (160 + 2 * b.toNat)); omega))) (Nat.le_trans (xbl_powle _ _) (by omega))) (by decide) | exact Nat.le_trans (mi_b (n := 130001) (mi_b (n := 130000) (by decide) (Nat.le_trans (xbl_powle _ _) (by have := xbl_prod (V (160 + 2 * a.toNat)) (V (160 + 2 * b.toNat)); omega))) (Nat.le_trans (xbl_powle _ _) (by omega))) (by decide)) (by first | omega | decide | exact Nat.le_trans (pl_b (n := 130000) (by decide) (Nat.le_trans (xbl_powle _ _) (by have := xbl_prod (V (160 + 2 * a.toNat)) (V (160 + 2 * b.toNat)); omega))) (by decide) | exact Nat.le_trans (mi_b (n := 130000) (by decide) (Nat.le_trans (xbl_powle _ _) (by have := xbl_prod (V (160 + 2 * a.toNat)) (V (160 + 2 * b.toNat)); omega))) (by decide) | exact Nat.le_trans (pl_b (n := 130001) (pl_b (n := 130000) (by decide) (Nat.le_trans (xbl_powle _ _) (by have := xbl_prod (V (160 + 2 * a.toNat)) (V (160 + 2 * b.toNat)); omega))) (Nat.le_trans (xbl_powle _ _) (by omega))) (by decide) | exact Nat.le_trans (mi_b (n := 130001) (mi_b (n := 130000) (by decide) (Nat.le_trans (xbl_powle _ _) (by have := xbl_prod (V (160 + 2 * a.toNat)) (V (160 + 2 * b.toNat)); omega))) (Nat.le_trans (xbl_powle _ _) (by omega))) (by decide)) (by intro _; omega)
                    refine i_221_368 hobj (Nat.le_of_ble_eq_true rfl) hrun ?_
                    refine i_221_371 ?_
                    have eo : sFus S V r.toNat a.toNat b.toNat c.toNat mode = sumS (S 153 r.toNat) (S 128 17) (S 128 18) (S 128 20) (S 128 19) mode 0 0 (S 155 c.toNat - S 153 c.toNat) 1 (if (S 156 ((c).toNat) : Int) = 0 then 1 else if (0 : Int) = 0 then 1 else 0) (if (S 156 ((c).toNat) : Int) = 0 then if (0 : Int) = 0 then 0 else 1 else 1) := by clear hR hrun hP; first | (rw [sFus_m (s := 0) (k := 3) (by omega) (by omega) (by omega) (if_pos (by omega)) (if_neg (by omega))]; rw [show S 154 c.toNat = 3 by omega]; exact sum2_33) | (rw [sFus_m (s := 0) (k := 3) (by omega) (by omega) (by omega) (if_pos (by omega)) (if_neg (by omega))]; exact sum2_3z (by omega)) | (rw [sFus_m (s := 0) (k := 2) (by omega) (by omega) (by omega) (if_pos (by omega)) (if_pos (by omega))]; rw [show S 154 c.toNat = 3 by omega]; exact sum2_z3 (by decide)) | (rw [sFus_m (s := 0) (k := 2) (by omega) (by omega) (by omega) (if_pos (by omega)) (if_pos (by omega))]; exact sum2_zz (by decide) (by omega)) | (rw [sFus_m (s := 1) (k := 3) (by omega) (by omega) (by omega) (if_neg (by omega)) (if_neg (by omega))]; rw [show S 154 c.toNat = 3 by omega]; exact sum2_33) | (rw [sFus_m (s := 1) (k := 3) (by omega) (by omega) (by omega) (if_neg (by omega)) (if_neg (by omega))]; exact sum2_3z (by omega)) | (rw [sFus_m (s := 1) (k := 2) (by omega) (by omega) (by omega) (if_neg (by omega)) (if_pos (by omega))]; rw [show S 154 c.toNat = 3 by omega]; exact sum2_z3 (by decide)) | (rw [sFus_m (s := 1) (k := 2) (by omega) (by omega) (by omega) (if_neg (by omega)) (if_pos (by omega))]; exact sum2_zz (by decide) (by omega))
                    rw [eo]
                    exact ⟨rfl, _, _, hR, hP⟩
                  · refine i_221_326 (x := 128) rfl ?_
                    refine i_221_327 (x := 128) rfl ?_
                    refine i_221_328 (v := Value.ref 157) hR.c128 rfl ?_
                    refine i_221_331 (x := Int32.ofInt c) rfl ?_
                    obtain ⟨gp, hgp, hgr⟩ := hR.part (j := (c).toNat) (by omega)
                    refine i_221_333 (v := Value.ref (160 + 2 * c.toNat)) hgp (ix0 (by omega) (by omega)) (ix1 (by omega) (by omega) (by omega)) (by rw [ixn (by omega) (by omega)]; exact hgr) ?_
                    refine i_221_334 (x := 128) rfl ?_
                    refine i_221_335 (x := Int32.ofInt c) rfl ?_
                    have hobj := hR.c128
                    obtain ⟨w, hrun, hR⟩ := s_exponent (d := d + 6) (r := c) hR (by omega) (by omega)
                    rw [hS.1.1 155 _ (by decide), hS.1.1 153 _ (by decide)] at hrun
                    refine i_221_337 hobj (Nat.le_of_ble_eq_true rfl) hrun ?_
                    refine i_221_340 (x := 128) rfl ?_
                    refine i_221_341 (v := Value.ref 156) hR.c128 rfl ?_
                    refine i_221_344 (x := Int32.ofInt c) rfl ?_
                    refine i_221_346z (v := Value.int (Int32.ofInt (S 156 ((c).toNat)))) (hR.row a156) (ix0 (T := c) (by omega) (by omega)) (ix1 (T := c) (by omega) (by omega) (by omega)) (ra (T := c) (by omega) (by omega) (hS.1.1 _ _ (by decide))) ?_
                    have hobj := hR.c128
                    obtain ⟨w, S1, V1, hrun, hR, hS⟩ := t_addTo (d := d + 4) (h := 160 + 2 * c.toNat) (m := V (160 + 2 * c.toNat)) (e := S 155 c.toNat - S 153 c.toNat) (sg := S 156 ((c).toNat)) hR hS (iNp (r := c) (by omega) (by omega)) ((hS.2.1 _ (by omega))) (by omega) (by omega) (by omega) (by have := xbl_prod (V (160 + 2 * a.toNat)) (V (160 + 2 * b.toNat)); omega) (by first | omega | decide | exact Nat.le_trans (pl_b (n := 130000) (by decide) (Nat.le_trans (xbl_powle _ _) (by have := xbl_prod (V (160 + 2 * a.toNat)) (V (160 + 2 * b.toNat)); omega))) (by decide) | exact Nat.le_trans (mi_b (n := 130000) (by decide) (Nat.le_trans (xbl_powle _ _) (by have := xbl_prod (V (160 + 2 * a.toNat)) (V (160 + 2 * b.toNat)); omega))) (by decide) | exact Nat.le_trans (pl_b (n := 130001) (pl_b (n := 130000) (by decide) (Nat.le_trans (xbl_powle _ _) (by have := xbl_prod (V (160 + 2 * a.toNat)) (V (160 + 2 * b.toNat)); omega))) (Nat.le_trans (xbl_powle _ _) (by omega))) (by decide) | exact Nat.le_trans (mi_b (n := 130001) (mi_b (n := 130000) (by decide) (Nat.le_trans (xbl_powle _ _) (by have := xbl_prod (V (160 + 2 * a.toNat)) (V (160 + 2 * b.toNat)); omega))) (Nat.le_trans (xbl_powle _ _) (by omega))) (by decide)) (by first | omega | decide | exact Nat.le_trans (pl_b (n := 130000) (by decide) (Nat.le_trans (xbl_powle _ _) (by have := xbl_prod (V (160 + 2 * a.toNat)) (V (160 + 2 * b.toNat)); omega))) (by decide) | exact Nat.le_trans (mi_b (n := 130000) (by decide) (Nat.le_trans (xbl_powle _ _) (by have := xbl_prod (V (160 + 2 * a.toNat)) (V (160 + 2 * b.toNat)); omega))) (by decide) | exact Nat.le_trans (pl_b (n := 130001) (pl_b (n := 130000) (by decide) (Nat.le_trans (xbl_powle _ _) (by have := xbl_prod (V (160 + 2 * a.toNat)) (V (160 + 2 * b.toNat)); omega))) (Nat.le_trans (xbl_powle _ _) (by omega))) (by decide) | exact Nat.le_trans (mi_b (n := 130001) (mi_b (n := 130000) (by decide) (Nat.le_trans (xbl_powle _ _) (by have := xbl_prod (V (160 + 2 * a.toNat)) (V (160 + 2 * b.toNat)); omega))) (Nat.le_trans (xbl_powle _ _) (by omega))) (by decide))
                    refine i_221_347 hobj (Nat.le_of_ble_eq_true rfl) hrun ?_
                    refine i_221_350 ?_
                    refine i_221_364 (x := 128) rfl ?_
                    refine i_221_365 (x := Int32.ofInt r) rfl ?_
                    refine i_221_366 (x := Int32.ofInt mode) rfl ?_
                    have hobj := hR.c128
                    obtain ⟨w, hrun, S2, V2, hR, hP⟩ := t_close (d := d + 2) (r := r) (mode := mode) hR hS hI (by omega) (by omega) (by refine ⟨?_, ?_, ?_⟩ <;> (repeat' split) <;> simp) (by first | omega | decide | exact Nat.le_trans (pl_b (n := 130000) (by decide) (Nat.le_trans (xbl_powle _ _) (by have := xbl_prod (V (160 + 2 * a.toNat)) (V (160 + 2 * b.toNat)); omega))) (by decide) | exact Nat.le_trans (mi_b (n := 130000) (by decide) (Nat.le_trans (xbl_powle _ _) (by have := xbl_prod (V (160 + 2 * a.toNat)) (V (160 + 2 * b.toNat)); omega))) (by decide) | exact Nat.le_trans (pl_b (n := 130001) (pl_b (n := 130000) (by decide) (Nat.le_trans (xbl_powle _ _) (by have := xbl_prod (V (160 + 2 * a.toNat)) (V (160 + 2 * b.toNat)); omega))) (Nat.le_trans (xbl_powle _ _) (by omega))) (by decide) | exact Nat.le_trans (mi_b (n := 130001) (mi_b (n := 130000) (by decide) (Nat.le_trans (xbl_powle _ _) (by have := xbl_prod (V (160 + 2 * a.toNat)) (V (160 + 2 * b.toNat)); omega))) (Nat.le_trans (xbl_powle _ _) (by omega))) (by decide)) (by first | omega | decide | exact Nat.le_trans (pl_b (n := 130000) (by decide) (Nat.le_trans (xbl_powle _ _) (by have := xbl_prod (V (160 + 2 * a.toNat)) (V (160 + 2 * b.toNat)); omega))) (by decide) | exact Nat.le_trans (mi_b (n := 130000) (by decide) (Nat.le_trans (xbl_powle _ _) (by have := xbl_prod (V (160 + 2 * a.toNat)) (V (160 + 2 * b.toNat)); omega))) (by decide) | exact Nat.le_trans (pl_b (n := 130001) (pl_b (n := 130000) (by decide) (Nat.le_trans (xbl_powle _ _) (by have := xbl_prod (V (160 + 2 * a.toNat)) (V (160 + 2 * b.toNat)); omega))) (Nat.le_trans (xbl_powle _ _) (by omega))) (by decide) | exact Nat.le_trans (mi_b (n := 130001) (mi_b (n := 130000) (by decide) (Nat.le_trans (xbl_powle _ _) (by have := xbl_prod (V (160 + 2 * a.toNat)) (V (160 + 2 * b.toNat)); omega))) (Nat.le_trans (xbl_powle _ _) (by omega))) (by decide)) (by intro _; omega)
                    refine i_221_368 hobj (Nat.le_of_ble_eq_true rfl) hrun ?_
                    refine i_221_371 ?_
                    have eo : sFus S V r.toNat a.toNat b.toNat c.toNat mode = sumS (S 153 r.toNat) (S 128 17) (S 128 18) (S 128 20) (S 128 19) mode (0 + if (S 156 ((c).toNat) : Int) = 0 then (V (160 + 2 * c.toNat)) * 2 ^ ((S 155 c.toNat - S 153 c.toNat) - (S 155 c.toNat - S 153 c.toNat)).toNat else 0) (0 + if (S 156 ((c).toNat) : Int) = 0 then 0 else (V (160 + 2 * c.toNat)) * 2 ^ ((S 155 c.toNat - S 153 c.toNat) - (S 155 c.toNat - S 153 c.toNat)).toNat) (S 155 c.toNat - S 153 c.toNat) 0 (if (0 : Int) = 0 then 1 else 0) (if (0 : Int) = 0 then 0 else 1) := by clear hR hrun hP; first | (rw [sFus_m (s := 0) (k := 3) (by omega) (by omega) (by omega) (if_pos (by omega)) (if_neg (by omega))]; rw [show S 154 c.toNat = 3 by omega]; exact sum2_33) | (rw [sFus_m (s := 0) (k := 3) (by omega) (by omega) (by omega) (if_pos (by omega)) (if_neg (by omega))]; exact sum2_3z (by omega)) | (rw [sFus_m (s := 0) (k := 2) (by omega) (by omega) (by omega) (if_pos (by omega)) (if_pos (by omega))]; rw [show S 154 c.toNat = 3 by omega]; exact sum2_z3 (by decide)) | (rw [sFus_m (s := 0) (k := 2) (by omega) (by omega) (by omega) (if_pos (by omega)) (if_pos (by omega))]; exact sum2_zz (by decide) (by omega)) | (rw [sFus_m (s := 1) (k := 3) (by omega) (by omega) (by omega) (if_neg (by omega)) (if_neg (by omega))]; rw [show S 154 c.toNat = 3 by omega]; exact sum2_33) | (rw [sFus_m (s := 1) (k := 3) (by omega) (by omega) (by omega) (if_neg (by omega)) (if_neg (by omega))]; exact sum2_3z (by omega)) | (rw [sFus_m (s := 1) (k := 2) (by omega) (by omega) (by omega) (if_neg (by omega)) (if_pos (by omega))]; rw [show S 154 c.toNat = 3 by omega]; exact sum2_z3 (by decide)) | (rw [sFus_m (s := 1) (k := 2) (by omega) (by omega) (by omega) (if_neg (by omega)) (if_pos (by omega))]; exact sum2_zz (by decide) (by omega))
                    rw [eo]
                    exact ⟨rfl, _, _, hR, hP⟩
                · refine i_221_198 (x := 128) rfl ?_
                  refine i_221_199 (x := Int32.ofInt r) rfl ?_
                  refine i_221_200 ?_
                  refine i_221_201 (x := 128) rfl ?_
                  refine i_221_202 (v := Value.ref 156) hR.c128 rfl ?_
                  refine i_221_205 (x := Int32.ofInt c) rfl ?_
                  refine i_221_207z (v := Value.int (Int32.ofInt (S 156 ((c).toNat)))) (hR.row a156) (ix0 (T := c) (by omega) (by omega)) (ix1 (T := c) (by omega) (by omega) (by omega)) (ra (T := c) (by omega) (by omega) rfl) ?_
                  have hobj := hR.c128
                  obtain ⟨w, hrun, hR⟩ := s_special (d := d + 6) (r := r) (k := 1) (s := S 156 ((c).toNat)) hR (by omega) (by omega) (by omega)
                  refine i_221_208 hobj (Nat.le_of_ble_eq_true rfl) hrun ?_
                  refine i_221_211 ?_
                  have eo : sFus S V r.toNat a.toNat b.toNat c.toNat mode = oS 1 (S 156 ((c).toNat)) (S 128 19) := by clear hR hrun; unfold sFus; first | rw [if_pos (by omega)] | (rw [if_neg (by omega), if_pos (by unfold xorI; first | rw [if_pos (by omega)]; omega | rw [if_neg (by omega)]; omega | omega)]; done) | (rw [if_neg (by omega), if_neg (by unfold xorI; first | (rw [if_pos (by omega)]; omega) | (rw [if_neg (by omega)]; omega) | omega), if_pos (by omega)]; first | done | (congr 1; unfold xorI; first | exact if_pos (by omega) | exact if_neg (by omega))) | (rw [if_neg (by omega), if_neg (by omega), if_neg (by omega), if_pos (by omega)])
                  rw [eo]
                  exact ⟨rfl, _, _, hR, oP_special (by omega) (by decide) nS.refl nV.refl rfl⟩
              · refine i_221_126 (x := 128) rfl ?_
                refine i_221_127 (x := Int32.ofInt r) rfl ?_
                refine i_221_128 ?_
                refine i_221_129 ?_
                have hobj := hR.c128
                obtain ⟨w, hrun, hR⟩ := s_special (d := d + 6) (r := r) (k := 0) (s := 0) hR (by omega) (by omega) (by omega)
                refine i_221_130 hobj (Nat.le_of_ble_eq_true rfl) hrun ?_
                refine i_221_133 ?_
                have eo : sFus S V r.toNat a.toNat b.toNat c.toNat mode = oS 0 0 (S 128 19) := by clear hR hrun; unfold sFus; first | rw [if_pos (by omega)] | (rw [if_neg (by omega), if_pos (by unfold xorI; first | rw [if_pos (by omega)]; omega | rw [if_neg (by omega)]; omega | omega)]; done) | (rw [if_neg (by omega), if_neg (by unfold xorI; first | (rw [if_pos (by omega)]; omega) | (rw [if_neg (by omega)]; omega) | omega), if_pos (by omega)]; first | done | (congr 1; unfold xorI; first | exact if_pos (by omega) | exact if_neg (by omega))) | (rw [if_neg (by omega), if_neg (by omega), if_neg (by omega), if_pos (by omega)])
                rw [eo]
                exact ⟨rfl, _, _, hR, oP_special (by omega) (by decide) nS.refl nV.refl rfl⟩
          · refine i_221_81 (x := 128) rfl ?_
            refine i_221_82 (v := Value.ref 154) hR.c128 rfl ?_
            refine i_221_85 (x := Int32.ofInt b) rfl ?_
            refine i_221_86 (v := Value.int (Int32.ofInt (S 154 ((b).toNat)))) (hR.row a154) (ix0 (T := b) (by omega) (by omega)) (ix1 (T := b) (by omega) (by omega) (by omega)) (ra (T := b) (by omega) (by omega) rfl) ?_
            refine i_221_87 ?_
            refine i_221_88 (b_ne (a := S 154 ((b).toNat)) (b := 2) ⟨by omega, by omega⟩ ⟨by decide, by decide⟩ fun c19 => ?_) (b_eq (a := S 154 ((b).toNat)) (b := 2) ⟨by omega, by omega⟩ ⟨by decide, by decide⟩ fun c19 => ?_)
            · refine i_221_95 ?_
              refine i_221_96 (lv2 := [(8, Value.int 0), (7, Value.int 0), (6, Value.int 0), (0, Value.ref 128), (1, Value.int (Int32.ofInt r)), (2, Value.int (Int32.ofInt a)), (3, Value.int (Int32.ofInt b)), (4, Value.int (Int32.ofInt c)), (5, Value.int (Int32.ofInt mode))]) rfl ?_
              refine i_221_98 (x := 128) rfl ?_
              refine i_221_99 (v := Value.ref 154) hR.c128 rfl ?_
              refine i_221_102 (x := Int32.ofInt a) rfl ?_
              refine i_221_103 (v := Value.int (Int32.ofInt (S 154 ((a).toNat)))) (hR.row a154) (ix0 (T := a) (by omega) (by omega)) (ix1 (T := a) (by omega) (by omega) (by omega)) (ra (T := a) (by omega) (by omega) rfl) ?_
              refine i_221_104 (z_eq (a := S 154 ((a).toNat)) ⟨by omega, by omega⟩ fun c20 => ?_) (z_ne (a := S 154 ((a).toNat)) ⟨by omega, by omega⟩ fun c20 => ?_)
              · refine i_221_126 (x := 128) rfl ?_
                refine i_221_127 (x := Int32.ofInt r) rfl ?_
                refine i_221_128 ?_
                refine i_221_129 ?_
                have hobj := hR.c128
                obtain ⟨w, hrun, hR⟩ := s_special (d := d + 6) (r := r) (k := 0) (s := 0) hR (by omega) (by omega) (by omega)
                refine i_221_130 hobj (Nat.le_of_ble_eq_true rfl) hrun ?_
                refine i_221_133 ?_
                have eo : sFus S V r.toNat a.toNat b.toNat c.toNat mode = oS 0 0 (S 128 19) := by clear hR hrun; unfold sFus; first | rw [if_pos (by omega)] | (rw [if_neg (by omega), if_pos (by unfold xorI; first | rw [if_pos (by omega)]; omega | rw [if_neg (by omega)]; omega | omega)]; done) | (rw [if_neg (by omega), if_neg (by unfold xorI; first | (rw [if_pos (by omega)]; omega) | (rw [if_neg (by omega)]; omega) | omega), if_pos (by omega)]; first | done | (congr 1; unfold xorI; first | exact if_pos (by omega) | exact if_neg (by omega))) | (rw [if_neg (by omega), if_neg (by omega), if_neg (by omega), if_pos (by omega)])
                rw [eo]
                exact ⟨rfl, _, _, hR, oP_special (by omega) (by decide) nS.refl nV.refl rfl⟩
              · refine i_221_107 (x := 128) rfl ?_
                refine i_221_108 (v := Value.ref 154) hR.c128 rfl ?_
                refine i_221_111 (x := Int32.ofInt b) rfl ?_
                refine i_221_112 (v := Value.int (Int32.ofInt (S 154 ((b).toNat)))) (hR.row a154) (ix0 (T := b) (by omega) (by omega)) (ix1 (T := b) (by omega) (by omega) (by omega)) (ra (T := b) (by omega) (by omega) rfl) ?_
                refine i_221_113 (z_eq (a := S 154 ((b).toNat)) ⟨by omega, by omega⟩ fun c21 => ?_) (z_ne (a := S 154 ((b).toNat)) ⟨by omega, by omega⟩ fun c21 => ?_)
                · refine i_221_126 (x := 128) rfl ?_
                  refine i_221_127 (x := Int32.ofInt r) rfl ?_
                  refine i_221_128 ?_
                  refine i_221_129 ?_
                  have hobj := hR.c128
                  obtain ⟨w, hrun, hR⟩ := s_special (d := d + 6) (r := r) (k := 0) (s := 0) hR (by omega) (by omega) (by omega)
                  refine i_221_130 hobj (Nat.le_of_ble_eq_true rfl) hrun ?_
                  refine i_221_133 ?_
                  have eo : sFus S V r.toNat a.toNat b.toNat c.toNat mode = oS 0 0 (S 128 19) := by clear hR hrun; unfold sFus; first | rw [if_pos (by omega)] | (rw [if_neg (by omega), if_pos (by unfold xorI; first | rw [if_pos (by omega)]; omega | rw [if_neg (by omega)]; omega | omega)]; done) | (rw [if_neg (by omega), if_neg (by unfold xorI; first | (rw [if_pos (by omega)]; omega) | (rw [if_neg (by omega)]; omega) | omega), if_pos (by omega)]; first | done | (congr 1; unfold xorI; first | exact if_pos (by omega) | exact if_neg (by omega))) | (rw [if_neg (by omega), if_neg (by omega), if_neg (by omega), if_pos (by omega)])
                  rw [eo]
                  exact ⟨rfl, _, _, hR, oP_special (by omega) (by decide) nS.refl nV.refl rfl⟩
                · refine i_221_116 (x := 128) rfl ?_
                  refine i_221_117 (v := Value.ref 154) hR.c128 rfl ?_
                  refine i_221_120 (x := Int32.ofInt c) rfl ?_
                  refine i_221_122 (v := Value.int (Int32.ofInt (S 154 ((c).toNat)))) (hR.row a154) (ix0 (T := c) (by omega) (by omega)) (ix1 (T := c) (by omega) (by omega) (by omega)) (ra (T := c) (by omega) (by omega) rfl) ?_
                  refine i_221_123 (z_ne (a := S 154 ((c).toNat)) ⟨by omega, by omega⟩ fun c22 => ?_) (z_eq (a := S 154 ((c).toNat)) ⟨by omega, by omega⟩ fun c22 => ?_)
                  · refine i_221_134 (x := 0) rfl ?_
                    refine i_221_136 (fun _ => ?_) (fun c => absurd c (by decide))
                    refine i_221_173 (x := 0) rfl ?_
                    refine i_221_175 (fun _ => ?_) (fun c => absurd c (by decide))
                    refine i_221_187 (x := 128) rfl ?_
                    refine i_221_188 (v := Value.ref 154) hR.c128 rfl ?_
                    refine i_221_191 (x := Int32.ofInt c) rfl ?_
                    refine i_221_193 (v := Value.int (Int32.ofInt (S 154 ((c).toNat)))) (hR.row a154) (ix0 (T := c) (by omega) (by omega)) (ix1 (T := c) (by omega) (by omega) (by omega)) (ra (T := c) (by omega) (by omega) rfl) ?_
                    refine i_221_194 ?_
                    refine i_221_195 (b_ne (a := S 154 ((c).toNat)) (b := 1) ⟨by omega, by omega⟩ ⟨by decide, by decide⟩ fun c23 => ?_) (b_eq (a := S 154 ((c).toNat)) (b := 1) ⟨by omega, by omega⟩ ⟨by decide, by decide⟩ fun c23 => ?_)
                    · refine i_221_212 (x := 128) rfl ?_
                      refine i_221_213 (x := Int32.ofInt a) rfl ?_
                      have hobj := hR.c128
                      obtain ⟨w, hrun, hR⟩ := s_exponent (d := d + 6) (r := a) hR (by omega) (by omega)
                      refine i_221_214 hobj (Nat.le_of_ble_eq_true rfl) hrun ?_
                      refine i_221_217 (x := 128) rfl ?_
                      refine i_221_218 (x := Int32.ofInt b) rfl ?_
                      have hobj := hR.c128
                      obtain ⟨w, hrun, hR⟩ := s_exponent (d := d + 6) (r := b) hR (by omega) (by omega)
                      refine i_221_219 hobj (Nat.le_of_ble_eq_true rfl) hrun ?_
                      refine i_221_222 (c := Int32.ofInt ((S 155 a.toNat - S 153 a.toNat) + (S 155 b.toNat - S 153 b.toNat))) (o_add (S 155 a.toNat - S 153 a.toNat) (S 155 b.toNat - S 153 b.toNat)) ?_
                      refine i_221_223 (lv2 := [(9, Value.int (Int32.ofInt ((S 155 a.toNat - S 153 a.toNat) + (S 155 b.toNat - S 153 b.toNat)))), (8, Value.int 0), (7, Value.int 0), (6, Value.int 0), (0, Value.ref 128), (1, Value.int (Int32.ofInt r)), (2, Value.int (Int32.ofInt a)), (3, Value.int (Int32.ofInt b)), (4, Value.int (Int32.ofInt c)), (5, Value.int (Int32.ofInt mode))]) rfl ?_
                      refine i_221_225 (x := 128) rfl ?_
                      refine i_221_226 (x := 0) rfl ?_
                      refine i_221_228 (fun _ => ?_) (fun c => absurd c (by decide))
                      refine i_221_240 (x := 128) rfl ?_
                      refine i_221_241 (v := Value.ref 154) hR.c128 rfl ?_
                      refine i_221_244 (x := Int32.ofInt c) rfl ?_
                      refine i_221_246 (v := Value.int (Int32.ofInt (S 154 ((c).toNat)))) (hR.row a154) (ix0 (T := c) (by omega) (by omega)) (ix1 (T := c) (by omega) (by omega) (by omega)) (ra (T := c) (by omega) (by omega) rfl) ?_
                      refine i_221_247 ?_
                      refine i_221_248 (b_ne (a := S 154 ((c).toNat)) (b := 3) ⟨by omega, by omega⟩ ⟨by decide, by decide⟩ fun c24 => ?_) (b_eq (a := S 154 ((c).toNat)) (b := 3) ⟨by omega, by omega⟩ ⟨by decide, by decide⟩ fun c24 => ?_)
                      · refine i_221_265 (x := Int32.ofInt ((S 155 a.toNat - S 153 a.toNat) + (S 155 b.toNat - S 153 b.toNat))) rfl ?_
                        have hobj := hR.c128
                        obtain ⟨w, S1, V1, hrun, hR, hS⟩ := t_open (d := d + 4) (e := (S 155 a.toNat - S 153 a.toNat) + (S 155 b.toNat - S 153 b.toNat)) hR nS.refl nV.refl
                        refine i_221_267 hobj (Nat.le_of_ble_eq_true rfl) hrun ?_
                        refine i_221_270 (x := 0) rfl ?_
                        refine i_221_272 (fun _ => ?_) (fun c => absurd c (by decide))
                        refine i_221_284 (x := 128) rfl ?_
                        refine i_221_285 (v := Value.ref 133) hR.c128 rfl ?_
                        refine i_221_288 (x := 128) rfl ?_
                        refine i_221_289 (v := Value.ref 157) hR.c128 rfl ?_
                        refine i_221_292 (x := Int32.ofInt a) rfl ?_
                        obtain ⟨gp, hgp, hgr⟩ := hR.part (j := (a).toNat) (by omega)
                        refine i_221_293 (v := Value.ref (160 + 2 * a.toNat)) hgp (ix0 (by omega) (by omega)) (ix1 (by omega) (by omega) (by omega)) (by rw [ixn (by omega) (by omega)]; exact hgr) ?_
                        refine i_221_294 (x := 128) rfl ?_
                        refine i_221_295 (v := Value.ref 157) hR.c128 rfl ?_
                        refine i_221_298 (x := Int32.ofInt b) rfl ?_
                        obtain ⟨gp, hgp, hgr⟩ := hR.part (j := (b).toNat) (by omega)
                        refine i_221_299 (v := Value.ref (160 + 2 * b.toNat)) hgp (ix0 (by omega) (by omega)) (ix1 (by omega) (by omega) (by omega)) (by rw [ixn (by omega) (by omega)]; exact hgr) ?_
                        obtain ⟨fs, hobj⟩ := hR.obj (h := 133) (iNw (h := 133) (by decide) (by decide) (by decide))
                        obtain ⟨w, hrun, hR⟩ := r_prod (d := d + 5) (v2 := V (160 + 2 * a.toNat)) (v3 := V (160 + 2 * b.toNat)) (c := 4700) hR (iNw (h := 133) (by decide) (by decide) (by decide)) (iNp (r := a) (by omega) (by omega)) (iNp (r := b) (by omega) (by omega)) (by omega) (by omega) ((hS.2.1 _ (by omega))) ((hS.2.1 _ (by omega))) rfl (by omega)
                        refine i_221_300 hobj (Nat.le_of_ble_eq_true rfl) hrun ?_
                        refine i_221_303 (x := 128) rfl ?_
                        refine i_221_304 (x := 128) rfl ?_
                        refine i_221_305 (v := Value.ref 133) hR.c128 rfl ?_
                        refine i_221_308 (x := Int32.ofInt ((S 155 a.toNat - S 153 a.toNat) + (S 155 b.toNat - S 153 b.toNat))) rfl ?_
                        refine i_221_310 (x := 0) rfl ?_
                        have hobj := hR.c128
                        obtain ⟨w, S1, V1, hrun, hR, hS⟩ := t_addTo (d := d + 4) (h := 133) (m := (V (160 + 2 * a.toNat)) * (V (160 + 2 * b.toNat))) (e := (S 155 a.toNat - S 153 a.toNat) + (S 155 b.toNat - S 153 b.toNat)) (sg := 0) hR (sS.up hS (by decide) (by decide) (by decide)) (iNw (h := 133) (by decide) (by decide) (by decide)) (uv_s) (by omega) (by omega) (by omega) (by have := xbl_prod (V (160 + 2 * a.toNat)) (V (160 + 2 * b.toNat)); omega) (by first | omega | decide | exact Nat.le_trans (pl_b (n := 130000) (by decide) (Nat.le_trans (xbl_powle _ _) (by have := xbl_prod (V (160 + 2 * a.toNat)) (V (160 + 2 * b.toNat)); omega))) (by decide) | exact Nat.le_trans (mi_b (n := 130000) (by decide) (Nat.le_trans (xbl_powle _ _) (by have := xbl_prod (V (160 + 2 * a.toNat)) (V (160 + 2 * b.toNat)); omega))) (by decide) | exact Nat.le_trans (pl_b (n := 130001) (pl_b (n := 130000) (by decide) (Nat.le_trans (xbl_powle _ _) (by have := xbl_prod (V (160 + 2 * a.toNat)) (V (160 + 2 * b.toNat)); omega))) (Nat.le_trans (xbl_powle _ _) (by omega))) (by decide) | exact Nat.le_trans (mi_b (n := 130001) (mi_b (n := 130000) (by decide) (Nat.le_trans (xbl_powle _ _) (by have := xbl_prod (V (160 + 2 * a.toNat)) (V (160 + 2 * b.toNat)); omega))) (Nat.le_trans (xbl_powle _ _) (by omega))) (by decide)) (by first | omega | decide | exact Nat.le_trans (pl_b (n := 130000) (by decide) (Nat.le_trans (xbl_powle _ _) (by have := xbl_prod (V (160 + 2 * a.toNat)) (V (160 + 2 * b.toNat)); omega))) (by decide) | exact Nat.le_trans (mi_b (n := 130000) (by decide) (Nat.le_trans (xbl_powle _ _) (by have := xbl_prod (V (160 + 2 * a.toNat)) (V (160 + 2 * b.toNat)); omega))) (by decide) | exact Nat.le_trans (pl_b (n := 130001) (pl_b (n := 130000) (by decide) (Nat.le_trans (xbl_powle _ _) (by have := xbl_prod (V (160 + 2 * a.toNat)) (V (160 + 2 * b.toNat)); omega))) (Nat.le_trans (xbl_powle _ _) (by omega))) (by decide) | exact Nat.le_trans (mi_b (n := 130001) (mi_b (n := 130000) (by decide) (Nat.le_trans (xbl_powle _ _) (by have := xbl_prod (V (160 + 2 * a.toNat)) (V (160 + 2 * b.toNat)); omega))) (Nat.le_trans (xbl_powle _ _) (by omega))) (by decide))
                        refine i_221_312 hobj (Nat.le_of_ble_eq_true rfl) hrun ?_
                        refine i_221_315 (x := 128) rfl ?_
                        refine i_221_316 (v := Value.ref 154) hR.c128 rfl ?_
                        refine i_221_319 (x := Int32.ofInt c) rfl ?_
                        refine i_221_321 (v := Value.int (Int32.ofInt (S 154 ((c).toNat)))) (hR.row a154) (ix0 (T := c) (by omega) (by omega)) (ix1 (T := c) (by omega) (by omega) (by omega)) (ra (T := c) (by omega) (by omega) (hS.1.1 _ _ (by decide))) ?_
                        refine i_221_322 ?_
                        refine i_221_323 (b_ne (a := S 154 ((c).toNat)) (b := 3) ⟨by omega, by omega⟩ ⟨by decide, by decide⟩ fun c25 => ?_) (b_eq (a := S 154 ((c).toNat)) (b := 3) ⟨by omega, by omega⟩ ⟨by decide, by decide⟩ fun c25 => absurd c25 (by omega))
                        refine i_221_353 (x := 128) rfl ?_
                        refine i_221_354 (x := 128) rfl ?_
                        refine i_221_355 (v := Value.ref 156) hR.c128 rfl ?_
                        refine i_221_358 (x := Int32.ofInt c) rfl ?_
                        refine i_221_360z (v := Value.int (Int32.ofInt (S 156 ((c).toNat)))) (hR.row a156) (ix0 (T := c) (by omega) (by omega)) (ix1 (T := c) (by omega) (by omega) (by omega)) (ra (T := c) (by omega) (by omega) (hS.1.1 _ _ (by decide))) ?_
                        have hobj := hR.c128
                        obtain ⟨w, S1, V1, hrun, hR, hS⟩ := t_addZero (d := d + 6) (sg := S 156 ((c).toNat)) hR hS (by omega)
                        refine i_221_361 hobj (Nat.le_of_ble_eq_true rfl) hrun ?_
                        refine i_221_364 (x := 128) rfl ?_
                        refine i_221_365 (x := Int32.ofInt r) rfl ?_
                        refine i_221_366 (x := Int32.ofInt mode) rfl ?_
                        have hobj := hR.c128
                        obtain ⟨w, hrun, S2, V2, hR, hP⟩ := t_close (d := d + 2) (r := r) (mode := mode) hR hS hI (by omega) (by omega) (by refine ⟨?_, ?_, ?_⟩ <;> (repeat' split) <;> simp) (by first | omega | decide | exact Nat.le_trans (pl_b (n := 130000) (by decide) (Nat.le_trans (xbl_powle _ _) (by have := xbl_prod (V (160 + 2 * a.toNat)) (V (160 + 2 * b.toNat)); omega))) (by decide) | exact Nat.le_trans (mi_b (n := 130000) (by decide) (Nat.le_trans (xbl_powle _ _) (by have := xbl_prod (V (160 + 2 * a.toNat)) (V (160 + 2 * b.toNat)); omega))) (by decide) | exact Nat.le_trans (pl_b (n := 130001) (pl_b (n := 130000) (by decide) (Nat.le_trans (xbl_powle _ _) (by have := xbl_prod (V (160 + 2 * a.toNat)) (V (160 + 2 * b.toNat)); omega))) (Nat.le_trans (xbl_powle _ _) (by omega))) (by decide) | exact Nat.le_trans (mi_b (n := 130001) (mi_b (n := 130000) (by decide) (Nat.le_trans (xbl_powle _ _) (by have := xbl_prod (V (160 + 2 * a.toNat)) (V (160 + 2 * b.toNat)); omega))) (Nat.le_trans (xbl_powle _ _) (by omega))) (by decide)) (by first | omega | decide | exact Nat.le_trans (pl_b (n := 130000) (by decide) (Nat.le_trans (xbl_powle _ _) (by have := xbl_prod (V (160 + 2 * a.toNat)) (V (160 + 2 * b.toNat)); omega))) (by decide) | exact Nat.le_trans (mi_b (n := 130000) (by decide) (Nat.le_trans (xbl_powle _ _) (by have := xbl_prod (V (160 + 2 * a.toNat)) (V (160 + 2 * b.toNat)); omega))) (by decide) | exact Nat.le_trans (pl_b (n := 130001) (pl_b (n := 130000) (by decide) (Nat.le_trans (xbl_powle _ _) (by have := xbl_prod (V (160 + 2 * a.toNat)) (V (160 + 2 * b.toNat)); omega))) (Nat.le_trans (xbl_powle _ _) (by omega))) (by decide) | exact Nat.le_trans (mi_b (n := 130001) (mi_b (n := 130000) (by decide) (Nat.le_trans (xbl_powle _ _) (by have := xbl_prod (V (160 + 2 * a.toNat)) (V (160 + 2 * b.toNat)); omega))) (Nat.le_trans (xbl_powle _ _) (by omega))) (by decide)) (by intro _; omega)
                        refine i_221_368 hobj (Nat.le_of_ble_eq_true rfl) hrun ?_
                        refine i_221_371 ?_
                        have eo : sFus S V r.toNat a.toNat b.toNat c.toNat mode = sumS (S 153 r.toNat) (S 128 17) (S 128 18) (S 128 20) (S 128 19) mode (0 + if (0 : Int) = 0 then ((V (160 + 2 * a.toNat)) * (V (160 + 2 * b.toNat))) * 2 ^ (((S 155 a.toNat - S 153 a.toNat) + (S 155 b.toNat - S 153 b.toNat)) - ((S 155 a.toNat - S 153 a.toNat) + (S 155 b.toNat - S 153 b.toNat))).toNat else 0) (0 + if (0 : Int) = 0 then 0 else ((V (160 + 2 * a.toNat)) * (V (160 + 2 * b.toNat))) * 2 ^ (((S 155 a.toNat - S 153 a.toNat) + (S 155 b.toNat - S 153 b.toNat)) - ((S 155 a.toNat - S 153 a.toNat) + (S 155 b.toNat - S 153 b.toNat))).toNat) ((S 155 a.toNat - S 153 a.toNat) + (S 155 b.toNat - S 153 b.toNat)) 0 (if (S 156 ((c).toNat) : Int) = 0 then 1 else 0) (if (S 156 ((c).toNat) : Int) = 0 then 0 else 1) := by clear hR hrun hP; first | (rw [sFus_m (s := 0) (k := 3) (by omega) (by omega) (by omega) (if_pos (by omega)) (if_neg (by omega))]; rw [show S 154 c.toNat = 3 by omega]; exact sum2_33) | (rw [sFus_m (s := 0) (k := 3) (by omega) (by omega) (by omega) (if_pos (by omega)) (if_neg (by omega))]; exact sum2_3z (by omega)) | (rw [sFus_m (s := 0) (k := 2) (by omega) (by omega) (by omega) (if_pos (by omega)) (if_pos (by omega))]; rw [show S 154 c.toNat = 3 by omega]; exact sum2_z3 (by decide)) | (rw [sFus_m (s := 0) (k := 2) (by omega) (by omega) (by omega) (if_pos (by omega)) (if_pos (by omega))]; exact sum2_zz (by decide) (by omega)) | (rw [sFus_m (s := 1) (k := 3) (by omega) (by omega) (by omega) (if_neg (by omega)) (if_neg (by omega))]; rw [show S 154 c.toNat = 3 by omega]; exact sum2_33) | (rw [sFus_m (s := 1) (k := 3) (by omega) (by omega) (by omega) (if_neg (by omega)) (if_neg (by omega))]; exact sum2_3z (by omega)) | (rw [sFus_m (s := 1) (k := 2) (by omega) (by omega) (by omega) (if_neg (by omega)) (if_pos (by omega))]; rw [show S 154 c.toNat = 3 by omega]; exact sum2_z3 (by decide)) | (rw [sFus_m (s := 1) (k := 2) (by omega) (by omega) (by omega) (if_neg (by omega)) (if_pos (by omega))]; exact sum2_zz (by decide) (by omega))
                        rw [eo]
                        exact ⟨rfl, _, _, hR, hP⟩
                      · refine i_221_251 (x := Int32.ofInt ((S 155 a.toNat - S 153 a.toNat) + (S 155 b.toNat - S 153 b.toNat))) rfl ?_
                        refine i_221_253 (x := 128) rfl ?_
                        refine i_221_254 (x := Int32.ofInt c) rfl ?_
                        have hobj := hR.c128
                        obtain ⟨w, hrun, hR⟩ := s_exponent (d := d + 6) (r := c) hR (by omega) (by omega)
                        refine i_221_256 hobj (Nat.le_of_ble_eq_true rfl) hrun ?_
                        have hrun := s_min (d := d + 6) (w := w) (a := (S 155 a.toNat - S 153 a.toNat) + (S 155 b.toNat - S 153 b.toNat)) (b := S 155 c.toNat - S 153 c.toNat) ⟨by omega, by omega⟩ ⟨by omega, by omega⟩
                        refine i_221_259 (Nat.le_of_ble_eq_true rfl) hrun ?_
                        refine i_221_262 ?_
                        have hobj := hR.c128
                        obtain ⟨w, S1, V1, hrun, hR, hS⟩ := t_open (d := d + 4) (e := min ((S 155 a.toNat - S 153 a.toNat) + (S 155 b.toNat - S 153 b.toNat)) (S 155 c.toNat - S 153 c.toNat)) hR nS.refl nV.refl
                        refine i_221_267 hobj (Nat.le_of_ble_eq_true rfl) hrun ?_
                        refine i_221_270 (x := 0) rfl ?_
                        refine i_221_272 (fun _ => ?_) (fun c => absurd c (by decide))
                        refine i_221_284 (x := 128) rfl ?_
                        refine i_221_285 (v := Value.ref 133) hR.c128 rfl ?_
                        refine i_221_288 (x := 128) rfl ?_
                        refine i_221_289 (v := Value.ref 157) hR.c128 rfl ?_
                        refine i_221_292 (x := Int32.ofInt a) rfl ?_
                        obtain ⟨gp, hgp, hgr⟩ := hR.part (j := (a).toNat) (by omega)
                        refine i_221_293 (v := Value.ref (160 + 2 * a.toNat)) hgp (ix0 (by omega) (by omega)) (ix1 (by omega) (by omega) (by omega)) (by rw [ixn (by omega) (by omega)]; exact hgr) ?_
                        refine i_221_294 (x := 128) rfl ?_
                        refine i_221_295 (v := Value.ref 157) hR.c128 rfl ?_
                        refine i_221_298 (x := Int32.ofInt b) rfl ?_
                        obtain ⟨gp, hgp, hgr⟩ := hR.part (j := (b).toNat) (by omega)
                        refine i_221_299 (v := Value.ref (160 + 2 * b.toNat)) hgp (ix0 (by omega) (by omega)) (ix1 (by omega) (by omega) (by omega)) (by rw [ixn (by omega) (by omega)]; exact hgr) ?_
                        obtain ⟨fs, hobj⟩ := hR.obj (h := 133) (iNw (h := 133) (by decide) (by decide) (by decide))
                        obtain ⟨w, hrun, hR⟩ := r_prod (d := d + 5) (v2 := V (160 + 2 * a.toNat)) (v3 := V (160 + 2 * b.toNat)) (c := 4700) hR (iNw (h := 133) (by decide) (by decide) (by decide)) (iNp (r := a) (by omega) (by omega)) (iNp (r := b) (by omega) (by omega)) (by omega) (by omega) ((hS.2.1 _ (by omega))) ((hS.2.1 _ (by omega))) rfl (by omega)
                        refine i_221_300 hobj (Nat.le_of_ble_eq_true rfl) hrun ?_
                        refine i_221_303 (x := 128) rfl ?_
                        refine i_221_304 (x := 128) rfl ?_
                        refine i_221_305 (v := Value.ref 133) hR.c128 rfl ?_
                        refine i_221_308 (x := Int32.ofInt ((S 155 a.toNat - S 153 a.toNat) + (S 155 b.toNat - S 153 b.toNat))) rfl ?_
                        refine i_221_310 (x := 0) rfl ?_
                        have hobj := hR.c128
                        obtain ⟨w, S1, V1, hrun, hR, hS⟩ := t_addTo (d := d + 4) (h := 133) (m := (V (160 + 2 * a.toNat)) * (V (160 + 2 * b.toNat))) (e := (S 155 a.toNat - S 153 a.toNat) + (S 155 b.toNat - S 153 b.toNat)) (sg := 0) hR (sS.up hS (by decide) (by decide) (by decide)) (iNw (h := 133) (by decide) (by decide) (by decide)) (uv_s) (by omega) (by omega) (by omega) (by have := xbl_prod (V (160 + 2 * a.toNat)) (V (160 + 2 * b.toNat)); omega) (by first | omega | decide | exact Nat.le_trans (pl_b (n := 130000) (by decide) (Nat.le_trans (xbl_powle _ _) (by have := xbl_prod (V (160 + 2 * a.toNat)) (V (160 + 2 * b.toNat)); omega))) (by decide) | exact Nat.le_trans (mi_b (n := 130000) (by decide) (Nat.le_trans (xbl_powle _ _) (by have := xbl_prod (V (160 + 2 * a.toNat)) (V (160 + 2 * b.toNat)); omega))) (by decide) | exact Nat.le_trans (pl_b (n := 130001) (pl_b (n := 130000) (by decide) (Nat.le_trans (xbl_powle _ _) (by have := xbl_prod (V (160 + 2 * a.toNat)) (V (160 + 2 * b.toNat)); omega))) (Nat.le_trans (xbl_powle _ _) (by omega))) (by decide) | exact Nat.le_trans (mi_b (n := 130001) (mi_b (n := 130000) (by decide) (Nat.le_trans (xbl_powle _ _) (by have := xbl_prod (V (160 + 2 * a.toNat)) (V (160 + 2 * b.toNat)); omega))) (Nat.le_trans (xbl_powle _ _) (by omega))) (by decide)) (by first | omega | decide | exact Nat.le_trans (pl_b (n := 130000) (by decide) (Nat.le_trans (xbl_powle _ _) (by have := xbl_prod (V (160 + 2 * a.toNat)) (V (160 + 2 * b.toNat)); omega))) (by decide) | exact Nat.le_trans (mi_b (n := 130000) (by decide) (Nat.le_trans (xbl_powle _ _) (by have := xbl_prod (V (160 + 2 * a.toNat)) (V (160 + 2 * b.toNat)); omega))) (by decide) | exact Nat.le_trans (pl_b (n := 130001) (pl_b (n := 130000) (by decide) (Nat.le_trans (xbl_powle _ _) (by have := xbl_prod (V (160 + 2 * a.toNat)) (V (160 + 2 * b.toNat)); omega))) (Nat.le_trans (xbl_powle _ _) (by omega))) (by decide) | exact Nat.le_trans (mi_b (n := 130001) (mi_b (n := 130000) (by decide) (Nat.le_trans (xbl_powle _ _) (by have := xbl_prod (V (160 + 2 * a.toNat)) (V (160 + 2 * b.toNat)); omega))) (Nat.le_trans (xbl_powle _ _) (by omega))) (by decide))
                        refine i_221_312 hobj (Nat.le_of_ble_eq_true rfl) hrun ?_
                        refine i_221_315 (x := 128) rfl ?_
                        refine i_221_316 (v := Value.ref 154) hR.c128 rfl ?_
                        refine i_221_319 (x := Int32.ofInt c) rfl ?_
                        refine i_221_321 (v := Value.int (Int32.ofInt (S 154 ((c).toNat)))) (hR.row a154) (ix0 (T := c) (by omega) (by omega)) (ix1 (T := c) (by omega) (by omega) (by omega)) (ra (T := c) (by omega) (by omega) (hS.1.1 _ _ (by decide))) ?_
                        refine i_221_322 ?_
                        refine i_221_323 (b_ne (a := S 154 ((c).toNat)) (b := 3) ⟨by omega, by omega⟩ ⟨by decide, by decide⟩ fun c26 => absurd c26 (by omega)) (b_eq (a := S 154 ((c).toNat)) (b := 3) ⟨by omega, by omega⟩ ⟨by decide, by decide⟩ fun c26 => ?_)
                        refine i_221_326 (x := 128) rfl ?_
                        refine i_221_327 (x := 128) rfl ?_
                        refine i_221_328 (v := Value.ref 157) hR.c128 rfl ?_
                        refine i_221_331 (x := Int32.ofInt c) rfl ?_
                        obtain ⟨gp, hgp, hgr⟩ := hR.part (j := (c).toNat) (by omega)
                        refine i_221_333 (v := Value.ref (160 + 2 * c.toNat)) hgp (ix0 (by omega) (by omega)) (ix1 (by omega) (by omega) (by omega)) (by rw [ixn (by omega) (by omega)]; exact hgr) ?_
                        refine i_221_334 (x := 128) rfl ?_
                        refine i_221_335 (x := Int32.ofInt c) rfl ?_
                        have hobj := hR.c128
                        obtain ⟨w, hrun, hR⟩ := s_exponent (d := d + 6) (r := c) hR (by omega) (by omega)
                        rw [hS.1.1 155 _ (by decide), hS.1.1 153 _ (by decide)] at hrun
                        refine i_221_337 hobj (Nat.le_of_ble_eq_true rfl) hrun ?_
                        refine i_221_340 (x := 128) rfl ?_
                        refine i_221_341 (v := Value.ref 156) hR.c128 rfl ?_
                        refine i_221_344 (x := Int32.ofInt c) rfl ?_
                        refine i_221_346z (v := Value.int (Int32.ofInt (S 156 ((c).toNat)))) (hR.row a156) (ix0 (T := c) (by omega) (by omega)) (ix1 (T := c) (by omega) (by omega) (by omega)) (ra (T := c) (by omega) (by omega) (hS.1.1 _ _ (by decide))) ?_
                        have hobj := hR.c128
                        obtain ⟨w, S1, V1, hrun, hR, hS⟩ := t_addTo (d := d + 4) (h := 160 + 2 * c.toNat) (m := V (160 + 2 * c.toNat)) (e := S 155 c.toNat - S 153 c.toNat) (sg := S 156 ((c).toNat)) hR hS (iNp (r := c) (by omega) (by omega)) ((hS.2.1 _ (by omega))) (by omega) (by omega) (by omega) (by have := xbl_prod (V (160 + 2 * a.toNat)) (V (160 + 2 * b.toNat)); omega) (by first | omega | decide | exact Nat.le_trans (pl_b (n := 130000) (by decide) (Nat.le_trans (xbl_powle _ _) (by have := xbl_prod (V (160 + 2 * a.toNat)) (V (160 + 2 * b.toNat)); omega))) (by decide) | exact Nat.le_trans (mi_b (n := 130000) (by decide) (Nat.le_trans (xbl_powle _ _) (by have := xbl_prod (V (160 + 2 * a.toNat)) (V (160 + 2 * b.toNat)); omega))) (by decide) | exact Nat.le_trans (pl_b (n := 130001) (pl_b (n := 130000) (by decide) (Nat.le_trans (xbl_powle _ _) (by have := xbl_prod (V (160 + 2 * a.toNat)) (V (160 + 2 * b.toNat)); omega))) (Nat.le_trans (xbl_powle _ _) (by omega))) (by decide) | exact Nat.le_trans (mi_b (n := 130001) (mi_b (n := 130000) (by decide) (Nat.le_trans (xbl_powle _ _) (by have := xbl_prod (V (160 + 2 * a.toNat)) (V (160 + 2 * b.toNat)); omega))) (Nat.le_trans (xbl_powle _ _) (by omega))) (by decide)) (by first | omega | decide | exact Nat.le_trans (pl_b (n := 130000) (by decide) (Nat.le_trans (xbl_powle _ _) (by have := xbl_prod (V (160 + 2 * a.toNat)) (V (160 + 2 * b.toNat)); omega))) (by decide) | exact Nat.le_trans (mi_b (n := 130000) (by decide) (Nat.le_trans (xbl_powle _ _) (by have := xbl_prod (V (160 + 2 * a.toNat)) (V (160 + 2 * b.toNat)); omega))) (by decide) | exact Nat.le_trans (pl_b (n := 130001) (pl_b (n := 130000) (by decide) (Nat.le_trans (xbl_powle _ _) (by have := xbl_prod (V (160 + 2 * a.toNat)) (V (160 + 2 * b.toNat)); omega))) (Nat.le_trans (xbl_powle _ _) (by omega))) (by decide) | exact Nat.le_trans (mi_b (n := 130001) (mi_b (n := 130000) (by decide) (Nat.le_trans (xbl_powle _ _) (by have := xbl_prod (V (160 + 2 * a.toNat)) (V (160 + 2 * b.toNat)); omega))) (Nat.le_trans (xbl_powle _ _) (by omega))) (by decide))
                        refine i_221_347 hobj (Nat.le_of_ble_eq_true rfl) hrun ?_
                        refine i_221_350 ?_
                        refine i_221_364 (x := 128) rfl ?_
                        refine i_221_365 (x := Int32.ofInt r) rfl ?_
                        refine i_221_366 (x := Int32.ofInt mode) rfl ?_
                        have hobj := hR.c128
                        obtain ⟨w, hrun, S2, V2, hR, hP⟩ := t_close (d := d + 2) (r := r) (mode := mode) hR hS hI (by omega) (by omega) (by refine ⟨?_, ?_, ?_⟩ <;> (repeat' split) <;> simp) (by first | omega | decide | exact Nat.le_trans (pl_b (n := 130000) (by decide) (Nat.le_trans (xbl_powle _ _) (by have := xbl_prod (V (160 + 2 * a.toNat)) (V (160 + 2 * b.toNat)); omega))) (by decide) | exact Nat.le_trans (mi_b (n := 130000) (by decide) (Nat.le_trans (xbl_powle _ _) (by have := xbl_prod (V (160 + 2 * a.toNat)) (V (160 + 2 * b.toNat)); omega))) (by decide) | exact Nat.le_trans (pl_b (n := 130001) (pl_b (n := 130000) (by decide) (Nat.le_trans (xbl_powle _ _) (by have := xbl_prod (V (160 + 2 * a.toNat)) (V (160 + 2 * b.toNat)); omega))) (Nat.le_trans (xbl_powle _ _) (by omega))) (by decide) | exact Nat.le_trans (mi_b (n := 130001) (mi_b (n := 130000) (by decide) (Nat.le_trans (xbl_powle _ _) (by have := xbl_prod (V (160 + 2 * a.toNat)) (V (160 + 2 * b.toNat)); omega))) (Nat.le_trans (xbl_powle _ _) (by omega))) (by decide)) (by first | omega | decide | exact Nat.le_trans (pl_b (n := 130000) (by decide) (Nat.le_trans (xbl_powle _ _) (by have := xbl_prod (V (160 + 2 * a.toNat)) (V (160 + 2 * b.toNat)); omega))) (by decide) | exact Nat.le_trans (mi_b (n := 130000) (by decide) (Nat.le_trans (xbl_powle _ _) (by have := xbl_prod (V (160 + 2 * a.toNat)) (V (160 + 2 * b.toNat)); omega))) (by decide) | exact Nat.le_trans (pl_b (n := 130001) (pl_b (n := 130000) (by decide) (Nat.le_trans (xbl_powle _ _) (by have := xbl_prod (V (160 + 2 * a.toNat)) (V (160 + 2 * b.toNat)); omega))) (Nat.le_trans (xbl_powle _ _) (by omega))) (by decide) | exact Nat.le_trans (mi_b (n := 130001) (mi_b (n := 130000) (by decide) (Nat.le_trans (xbl_powle _ _) (by have := xbl_prod (V (160 + 2 * a.toNat)) (V (160 + 2 * b.toNat)); omega))) (Nat.le_trans (xbl_powle _ _) (by omega))) (by decide)) (by intro _; omega)
                        refine i_221_368 hobj (Nat.le_of_ble_eq_true rfl) hrun ?_
                        refine i_221_371 ?_
                        have eo : sFus S V r.toNat a.toNat b.toNat c.toNat mode = sumS (S 153 r.toNat) (S 128 17) (S 128 18) (S 128 20) (S 128 19) mode ((0 + if (0 : Int) = 0 then ((V (160 + 2 * a.toNat)) * (V (160 + 2 * b.toNat))) * 2 ^ (((S 155 a.toNat - S 153 a.toNat) + (S 155 b.toNat - S 153 b.toNat)) - (min ((S 155 a.toNat - S 153 a.toNat) + (S 155 b.toNat - S 153 b.toNat)) (S 155 c.toNat - S 153 c.toNat))).toNat else 0) + if (S 156 ((c).toNat) : Int) = 0 then (V (160 + 2 * c.toNat)) * 2 ^ ((S 155 c.toNat - S 153 c.toNat) - (min ((S 155 a.toNat - S 153 a.toNat) + (S 155 b.toNat - S 153 b.toNat)) (S 155 c.toNat - S 153 c.toNat))).toNat else 0) ((0 + if (0 : Int) = 0 then 0 else ((V (160 + 2 * a.toNat)) * (V (160 + 2 * b.toNat))) * 2 ^ (((S 155 a.toNat - S 153 a.toNat) + (S 155 b.toNat - S 153 b.toNat)) - (min ((S 155 a.toNat - S 153 a.toNat) + (S 155 b.toNat - S 153 b.toNat)) (S 155 c.toNat - S 153 c.toNat))).toNat) + if (S 156 ((c).toNat) : Int) = 0 then 0 else (V (160 + 2 * c.toNat)) * 2 ^ ((S 155 c.toNat - S 153 c.toNat) - (min ((S 155 a.toNat - S 153 a.toNat) + (S 155 b.toNat - S 153 b.toNat)) (S 155 c.toNat - S 153 c.toNat))).toNat) (min ((S 155 a.toNat - S 153 a.toNat) + (S 155 b.toNat - S 153 b.toNat)) (S 155 c.toNat - S 153 c.toNat)) 0 0 0 := by clear hR hrun hP; first | (rw [sFus_m (s := 0) (k := 3) (by omega) (by omega) (by omega) (if_pos (by omega)) (if_neg (by omega))]; rw [show S 154 c.toNat = 3 by omega]; exact sum2_33) | (rw [sFus_m (s := 0) (k := 3) (by omega) (by omega) (by omega) (if_pos (by omega)) (if_neg (by omega))]; exact sum2_3z (by omega)) | (rw [sFus_m (s := 0) (k := 2) (by omega) (by omega) (by omega) (if_pos (by omega)) (if_pos (by omega))]; rw [show S 154 c.toNat = 3 by omega]; exact sum2_z3 (by decide)) | (rw [sFus_m (s := 0) (k := 2) (by omega) (by omega) (by omega) (if_pos (by omega)) (if_pos (by omega))]; exact sum2_zz (by decide) (by omega)) | (rw [sFus_m (s := 1) (k := 3) (by omega) (by omega) (by omega) (if_neg (by omega)) (if_neg (by omega))]; rw [show S 154 c.toNat = 3 by omega]; exact sum2_33) | (rw [sFus_m (s := 1) (k := 3) (by omega) (by omega) (by omega) (if_neg (by omega)) (if_neg (by omega))]; exact sum2_3z (by omega)) | (rw [sFus_m (s := 1) (k := 2) (by omega) (by omega) (by omega) (if_neg (by omega)) (if_pos (by omega))]; rw [show S 154 c.toNat = 3 by omega]; exact sum2_z3 (by decide)) | (rw [sFus_m (s := 1) (k := 2) (by omega) (by omega) (by omega) (if_neg (by omega)) (if_pos (by omega))]; exact sum2_zz (by decide) (by omega))
                        rw [eo]
                        exact ⟨rfl, _, _, hR, hP⟩
                    · refine i_221_198 (x := 128) rfl ?_
                      refine i_221_199 (x := Int32.ofInt r) rfl ?_
                      refine i_221_200 ?_
                      refine i_221_201 (x := 128) rfl ?_
                      refine i_221_202 (v := Value.ref 156) hR.c128 rfl ?_
                      refine i_221_205 (x := Int32.ofInt c) rfl ?_
                      refine i_221_207z (v := Value.int (Int32.ofInt (S 156 ((c).toNat)))) (hR.row a156) (ix0 (T := c) (by omega) (by omega)) (ix1 (T := c) (by omega) (by omega) (by omega)) (ra (T := c) (by omega) (by omega) rfl) ?_
                      have hobj := hR.c128
                      obtain ⟨w, hrun, hR⟩ := s_special (d := d + 6) (r := r) (k := 1) (s := S 156 ((c).toNat)) hR (by omega) (by omega) (by omega)
                      refine i_221_208 hobj (Nat.le_of_ble_eq_true rfl) hrun ?_
                      refine i_221_211 ?_
                      have eo : sFus S V r.toNat a.toNat b.toNat c.toNat mode = oS 1 (S 156 ((c).toNat)) (S 128 19) := by clear hR hrun; unfold sFus; first | rw [if_pos (by omega)] | (rw [if_neg (by omega), if_pos (by unfold xorI; first | rw [if_pos (by omega)]; omega | rw [if_neg (by omega)]; omega | omega)]; done) | (rw [if_neg (by omega), if_neg (by unfold xorI; first | (rw [if_pos (by omega)]; omega) | (rw [if_neg (by omega)]; omega) | omega), if_pos (by omega)]; first | done | (congr 1; unfold xorI; first | exact if_pos (by omega) | exact if_neg (by omega))) | (rw [if_neg (by omega), if_neg (by omega), if_neg (by omega), if_pos (by omega)])
                      rw [eo]
                      exact ⟨rfl, _, _, hR, oP_special (by omega) (by decide) nS.refl nV.refl rfl⟩
                  · refine i_221_126 (x := 128) rfl ?_
                    refine i_221_127 (x := Int32.ofInt r) rfl ?_
                    refine i_221_128 ?_
                    refine i_221_129 ?_
                    have hobj := hR.c128
                    obtain ⟨w, hrun, hR⟩ := s_special (d := d + 6) (r := r) (k := 0) (s := 0) hR (by omega) (by omega) (by omega)
                    refine i_221_130 hobj (Nat.le_of_ble_eq_true rfl) hrun ?_
                    refine i_221_133 ?_
                    have eo : sFus S V r.toNat a.toNat b.toNat c.toNat mode = oS 0 0 (S 128 19) := by clear hR hrun; unfold sFus; first | rw [if_pos (by omega)] | (rw [if_neg (by omega), if_pos (by unfold xorI; first | rw [if_pos (by omega)]; omega | rw [if_neg (by omega)]; omega | omega)]; done) | (rw [if_neg (by omega), if_neg (by unfold xorI; first | (rw [if_pos (by omega)]; omega) | (rw [if_neg (by omega)]; omega) | omega), if_pos (by omega)]; first | done | (congr 1; unfold xorI; first | exact if_pos (by omega) | exact if_neg (by omega))) | (rw [if_neg (by omega), if_neg (by omega), if_neg (by omega), if_pos (by omega)])
                    rw [eo]
                    exact ⟨rfl, _, _, hR, oP_special (by omega) (by decide) nS.refl nV.refl rfl⟩
            · refine i_221_91 ?_
              refine i_221_92 ?_
              refine i_221_96 (lv2 := [(8, Value.int 1), (7, Value.int 0), (6, Value.int 0), (0, Value.ref 128), (1, Value.int (Int32.ofInt r)), (2, Value.int (Int32.ofInt a)), (3, Value.int (Int32.ofInt b)), (4, Value.int (Int32.ofInt c)), (5, Value.int (Int32.ofInt mode))]) rfl ?_
              refine i_221_98 (x := 128) rfl ?_
              refine i_221_99 (v := Value.ref 154) hR.c128 rfl ?_
              refine i_221_102 (x := Int32.ofInt a) rfl ?_
              refine i_221_103 (v := Value.int (Int32.ofInt (S 154 ((a).toNat)))) (hR.row a154) (ix0 (T := a) (by omega) (by omega)) (ix1 (T := a) (by omega) (by omega) (by omega)) (ra (T := a) (by omega) (by omega) rfl) ?_
              refine i_221_104 (z_eq (a := S 154 ((a).toNat)) ⟨by omega, by omega⟩ fun c27 => ?_) (z_ne (a := S 154 ((a).toNat)) ⟨by omega, by omega⟩ fun c27 => ?_)
              · refine i_221_126 (x := 128) rfl ?_
                refine i_221_127 (x := Int32.ofInt r) rfl ?_
                refine i_221_128 ?_
                refine i_221_129 ?_
                have hobj := hR.c128
                obtain ⟨w, hrun, hR⟩ := s_special (d := d + 6) (r := r) (k := 0) (s := 0) hR (by omega) (by omega) (by omega)
                refine i_221_130 hobj (Nat.le_of_ble_eq_true rfl) hrun ?_
                refine i_221_133 ?_
                have eo : sFus S V r.toNat a.toNat b.toNat c.toNat mode = oS 0 0 (S 128 19) := by clear hR hrun; unfold sFus; first | rw [if_pos (by omega)] | (rw [if_neg (by omega), if_pos (by unfold xorI; first | rw [if_pos (by omega)]; omega | rw [if_neg (by omega)]; omega | omega)]; done) | (rw [if_neg (by omega), if_neg (by unfold xorI; first | (rw [if_pos (by omega)]; omega) | (rw [if_neg (by omega)]; omega) | omega), if_pos (by omega)]; first | done | (congr 1; unfold xorI; first | exact if_pos (by omega) | exact if_neg (by omega))) | (rw [if_neg (by omega), if_neg (by omega), if_neg (by omega), if_pos (by omega)])
                rw [eo]
                exact ⟨rfl, _, _, hR, oP_special (by omega) (by decide) nS.refl nV.refl rfl⟩
              · refine i_221_107 (x := 128) rfl ?_
                refine i_221_108 (v := Value.ref 154) hR.c128 rfl ?_
                refine i_221_111 (x := Int32.ofInt b) rfl ?_
                refine i_221_112 (v := Value.int (Int32.ofInt (S 154 ((b).toNat)))) (hR.row a154) (ix0 (T := b) (by omega) (by omega)) (ix1 (T := b) (by omega) (by omega) (by omega)) (ra (T := b) (by omega) (by omega) rfl) ?_
                refine i_221_113 (z_eq (a := S 154 ((b).toNat)) ⟨by omega, by omega⟩ fun c28 => absurd c28 (by omega)) (z_ne (a := S 154 ((b).toNat)) ⟨by omega, by omega⟩ fun c28 => ?_)
                refine i_221_116 (x := 128) rfl ?_
                refine i_221_117 (v := Value.ref 154) hR.c128 rfl ?_
                refine i_221_120 (x := Int32.ofInt c) rfl ?_
                refine i_221_122 (v := Value.int (Int32.ofInt (S 154 ((c).toNat)))) (hR.row a154) (ix0 (T := c) (by omega) (by omega)) (ix1 (T := c) (by omega) (by omega) (by omega)) (ra (T := c) (by omega) (by omega) rfl) ?_
                refine i_221_123 (z_ne (a := S 154 ((c).toNat)) ⟨by omega, by omega⟩ fun c29 => ?_) (z_eq (a := S 154 ((c).toNat)) ⟨by omega, by omega⟩ fun c29 => ?_)
                · refine i_221_134 (x := 0) rfl ?_
                  refine i_221_136 (fun _ => ?_) (fun c => absurd c (by decide))
                  refine i_221_173 (x := 0) rfl ?_
                  refine i_221_175 (fun _ => ?_) (fun c => absurd c (by decide))
                  refine i_221_187 (x := 128) rfl ?_
                  refine i_221_188 (v := Value.ref 154) hR.c128 rfl ?_
                  refine i_221_191 (x := Int32.ofInt c) rfl ?_
                  refine i_221_193 (v := Value.int (Int32.ofInt (S 154 ((c).toNat)))) (hR.row a154) (ix0 (T := c) (by omega) (by omega)) (ix1 (T := c) (by omega) (by omega) (by omega)) (ra (T := c) (by omega) (by omega) rfl) ?_
                  refine i_221_194 ?_
                  refine i_221_195 (b_ne (a := S 154 ((c).toNat)) (b := 1) ⟨by omega, by omega⟩ ⟨by decide, by decide⟩ fun c30 => ?_) (b_eq (a := S 154 ((c).toNat)) (b := 1) ⟨by omega, by omega⟩ ⟨by decide, by decide⟩ fun c30 => ?_)
                  · refine i_221_212 (x := 128) rfl ?_
                    refine i_221_213 (x := Int32.ofInt a) rfl ?_
                    have hobj := hR.c128
                    obtain ⟨w, hrun, hR⟩ := s_exponent (d := d + 6) (r := a) hR (by omega) (by omega)
                    refine i_221_214 hobj (Nat.le_of_ble_eq_true rfl) hrun ?_
                    refine i_221_217 (x := 128) rfl ?_
                    refine i_221_218 (x := Int32.ofInt b) rfl ?_
                    have hobj := hR.c128
                    obtain ⟨w, hrun, hR⟩ := s_exponent (d := d + 6) (r := b) hR (by omega) (by omega)
                    refine i_221_219 hobj (Nat.le_of_ble_eq_true rfl) hrun ?_
                    refine i_221_222 (c := Int32.ofInt ((S 155 a.toNat - S 153 a.toNat) + (S 155 b.toNat - S 153 b.toNat))) (o_add (S 155 a.toNat - S 153 a.toNat) (S 155 b.toNat - S 153 b.toNat)) ?_
                    refine i_221_223 (lv2 := [(9, Value.int (Int32.ofInt ((S 155 a.toNat - S 153 a.toNat) + (S 155 b.toNat - S 153 b.toNat)))), (8, Value.int 1), (7, Value.int 0), (6, Value.int 0), (0, Value.ref 128), (1, Value.int (Int32.ofInt r)), (2, Value.int (Int32.ofInt a)), (3, Value.int (Int32.ofInt b)), (4, Value.int (Int32.ofInt c)), (5, Value.int (Int32.ofInt mode))]) rfl ?_
                    refine i_221_225 (x := 128) rfl ?_
                    refine i_221_226 (x := 1) rfl ?_
                    refine i_221_228 (fun c => absurd c (by decide)) (fun _ => ?_)
                    refine i_221_231 (x := 128) rfl ?_
                    refine i_221_232 (x := Int32.ofInt c) rfl ?_
                    have hobj := hR.c128
                    obtain ⟨w, hrun, hR⟩ := s_exponent (d := d + 6) (r := c) hR (by omega) (by omega)
                    refine i_221_234 hobj (Nat.le_of_ble_eq_true rfl) hrun ?_
                    refine i_221_237 ?_
                    have hobj := hR.c128
                    obtain ⟨w, S1, V1, hrun, hR, hS⟩ := t_open (d := d + 4) (e := S 155 c.toNat - S 153 c.toNat) hR nS.refl nV.refl
                    refine i_221_267 hobj (Nat.le_of_ble_eq_true rfl) hrun ?_
                    refine i_221_270 (x := 1) rfl ?_
                    refine i_221_272 (fun c => absurd c (by decide)) (fun _ => ?_)
                    refine i_221_275 (x := 128) rfl ?_
                    refine i_221_276 (x := 0) rfl ?_
                    have hobj := hR.c128
                    obtain ⟨w, S1, V1, hrun, hR, hS⟩ := t_addZero (d := d + 6) (sg := 0) hR hS (by omega)
                    refine i_221_278 hobj (Nat.le_of_ble_eq_true rfl) hrun ?_
                    refine i_221_281 ?_
                    refine i_221_315 (x := 128) rfl ?_
                    refine i_221_316 (v := Value.ref 154) hR.c128 rfl ?_
                    refine i_221_319 (x := Int32.ofInt c) rfl ?_
                    refine i_221_321 (v := Value.int (Int32.ofInt (S 154 ((c).toNat)))) (hR.row a154) (ix0 (T := c) (by omega) (by omega)) (ix1 (T := c) (by omega) (by omega) (by omega)) (ra (T := c) (by omega) (by omega) (hS.1.1 _ _ (by decide))) ?_
                    refine i_221_322 ?_
                    refine i_221_323 (b_ne (a := S 154 ((c).toNat)) (b := 3) ⟨by omega, by omega⟩ ⟨by decide, by decide⟩ fun c31 => ?_) (b_eq (a := S 154 ((c).toNat)) (b := 3) ⟨by omega, by omega⟩ ⟨by decide, by decide⟩ fun c31 => ?_)
                    · refine i_221_353 (x := 128) rfl ?_
                      refine i_221_354 (x := 128) rfl ?_
                      refine i_221_355 (v := Value.ref 156) hR.c128 rfl ?_
                      refine i_221_358 (x := Int32.ofInt c) rfl ?_
                      refine i_221_360z (v := Value.int (Int32.ofInt (S 156 ((c).toNat)))) (hR.row a156) (ix0 (T := c) (by omega) (by omega)) (ix1 (T := c) (by omega) (by omega) (by omega)) (ra (T := c) (by omega) (by omega) (hS.1.1 _ _ (by decide))) ?_
                      have hobj := hR.c128
                      obtain ⟨w, S1, V1, hrun, hR, hS⟩ := t_addZero (d := d + 6) (sg := S 156 ((c).toNat)) hR hS (by omega)
                      refine i_221_361 hobj (Nat.le_of_ble_eq_true rfl) hrun ?_
                      refine i_221_364 (x := 128) rfl ?_
                      refine i_221_365 (x := Int32.ofInt r) rfl ?_
                      refine i_221_366 (x := Int32.ofInt mode) rfl ?_
                      have hobj := hR.c128
                      obtain ⟨w, hrun, S2, V2, hR, hP⟩ := t_close (d := d + 2) (r := r) (mode := mode) hR hS hI (by omega) (by omega) (by refine ⟨?_, ?_, ?_⟩ <;> (repeat' split) <;> simp) (by first | omega | decide | exact Nat.le_trans (pl_b (n := 130000) (by decide) (Nat.le_trans (xbl_powle _ _) (by have := xbl_prod (V (160 + 2 * a.toNat)) (V (160 + 2 * b.toNat)); omega))) (by decide) | exact Nat.le_trans (mi_b (n := 130000) (by decide) (Nat.le_trans (xbl_powle _ _) (by have := xbl_prod (V (160 + 2 * a.toNat)) (V (160 + 2 * b.toNat)); omega))) (by decide) | exact Nat.le_trans (pl_b (n := 130001) (pl_b (n := 130000) (by decide) (Nat.le_trans (xbl_powle _ _) (by have := xbl_prod (V (160 + 2 * a.toNat)) (V (160 + 2 * b.toNat)); omega))) (Nat.le_trans (xbl_powle _ _) (by omega))) (by decide) | exact Nat.le_trans (mi_b (n := 130001) (mi_b (n := 130000) (by decide) (Nat.le_trans (xbl_powle _ _) (by have := xbl_prod (V (160 + 2 * a.toNat)) (V (160 + 2 * b.toNat)); omega))) (Nat.le_trans (xbl_powle _ _) (by omega))) (by decide)) (by first | omega | decide | exact Nat.le_trans (pl_b (n := 130000) (by decide) (Nat.le_trans (xbl_powle _ _) (by have := xbl_prod (V (160 + 2 * a.toNat)) (V (160 + 2 * b.toNat)); omega))) (by decide) | exact Nat.le_trans (mi_b (n := 130000) (by decide) (Nat.le_trans (xbl_powle _ _) (by have := xbl_prod (V (160 + 2 * a.toNat)) (V (160 + 2 * b.toNat)); omega))) (by decide) | exact Nat.le_trans (pl_b (n := 130001) (pl_b (n := 130000) (by decide) (Nat.le_trans (xbl_powle _ _) (by have := xbl_prod (V (160 + 2 * a.toNat)) (V (160 + 2 * b.toNat)); omega))) (Nat.le_trans (xbl_powle _ _) (by omega))) (by decide) | exact Nat.le_trans (mi_b (n := 130001) (mi_b (n := 130000) (by decide) (Nat.le_trans (xbl_powle _ _) (by have := xbl_prod (V (160 + 2 * a.toNat)) (V (160 + 2 * b.toNat)); omega))) (Nat.le_trans (xbl_powle _ _) (by omega))) (by decide)) (by intro _; omega)
                      refine i_221_368 hobj (Nat.le_of_ble_eq_true rfl) hrun ?_
                      refine i_221_371 ?_
                      have eo : sFus S V r.toNat a.toNat b.toNat c.toNat mode = sumS (S 153 r.toNat) (S 128 17) (S 128 18) (S 128 20) (S 128 19) mode 0 0 (S 155 c.toNat - S 153 c.toNat) 1 (if (S 156 ((c).toNat) : Int) = 0 then 1 else if (0 : Int) = 0 then 1 else 0) (if (S 156 ((c).toNat) : Int) = 0 then if (0 : Int) = 0 then 0 else 1 else 1) := by clear hR hrun hP; first | (rw [sFus_m (s := 0) (k := 3) (by omega) (by omega) (by omega) (if_pos (by omega)) (if_neg (by omega))]; rw [show S 154 c.toNat = 3 by omega]; exact sum2_33) | (rw [sFus_m (s := 0) (k := 3) (by omega) (by omega) (by omega) (if_pos (by omega)) (if_neg (by omega))]; exact sum2_3z (by omega)) | (rw [sFus_m (s := 0) (k := 2) (by omega) (by omega) (by omega) (if_pos (by omega)) (if_pos (by omega))]; rw [show S 154 c.toNat = 3 by omega]; exact sum2_z3 (by decide)) | (rw [sFus_m (s := 0) (k := 2) (by omega) (by omega) (by omega) (if_pos (by omega)) (if_pos (by omega))]; exact sum2_zz (by decide) (by omega)) | (rw [sFus_m (s := 1) (k := 3) (by omega) (by omega) (by omega) (if_neg (by omega)) (if_neg (by omega))]; rw [show S 154 c.toNat = 3 by omega]; exact sum2_33) | (rw [sFus_m (s := 1) (k := 3) (by omega) (by omega) (by omega) (if_neg (by omega)) (if_neg (by omega))]; exact sum2_3z (by omega)) | (rw [sFus_m (s := 1) (k := 2) (by omega) (by omega) (by omega) (if_neg (by omega)) (if_pos (by omega))]; rw [show S 154 c.toNat = 3 by omega]; exact sum2_z3 (by decide)) | (rw [sFus_m (s := 1) (k := 2) (by omega) (by omega) (by omega) (if_neg (by omega)) (if_pos (by omega))]; exact sum2_zz (by decide) (by omega))
                      rw [eo]
                      exact ⟨rfl, _, _, hR, hP⟩
                    · refine i_221_326 (x := 128) rfl ?_
                      refine i_221_327 (x := 128) rfl ?_
                      refine i_221_328 (v := Value.ref 157) hR.c128 rfl ?_
                      refine i_221_331 (x := Int32.ofInt c) rfl ?_
                      obtain ⟨gp, hgp, hgr⟩ := hR.part (j := (c).toNat) (by omega)
                      refine i_221_333 (v := Value.ref (160 + 2 * c.toNat)) hgp (ix0 (by omega) (by omega)) (ix1 (by omega) (by omega) (by omega)) (by rw [ixn (by omega) (by omega)]; exact hgr) ?_
                      refine i_221_334 (x := 128) rfl ?_
                      refine i_221_335 (x := Int32.ofInt c) rfl ?_
                      have hobj := hR.c128
                      obtain ⟨w, hrun, hR⟩ := s_exponent (d := d + 6) (r := c) hR (by omega) (by omega)
                      rw [hS.1.1 155 _ (by decide), hS.1.1 153 _ (by decide)] at hrun
                      refine i_221_337 hobj (Nat.le_of_ble_eq_true rfl) hrun ?_
                      refine i_221_340 (x := 128) rfl ?_
                      refine i_221_341 (v := Value.ref 156) hR.c128 rfl ?_
                      refine i_221_344 (x := Int32.ofInt c) rfl ?_
                      refine i_221_346z (v := Value.int (Int32.ofInt (S 156 ((c).toNat)))) (hR.row a156) (ix0 (T := c) (by omega) (by omega)) (ix1 (T := c) (by omega) (by omega) (by omega)) (ra (T := c) (by omega) (by omega) (hS.1.1 _ _ (by decide))) ?_
                      have hobj := hR.c128
                      obtain ⟨w, S1, V1, hrun, hR, hS⟩ := t_addTo (d := d + 4) (h := 160 + 2 * c.toNat) (m := V (160 + 2 * c.toNat)) (e := S 155 c.toNat - S 153 c.toNat) (sg := S 156 ((c).toNat)) hR hS (iNp (r := c) (by omega) (by omega)) ((hS.2.1 _ (by omega))) (by omega) (by omega) (by omega) (by have := xbl_prod (V (160 + 2 * a.toNat)) (V (160 + 2 * b.toNat)); omega) (by first | omega | decide | exact Nat.le_trans (pl_b (n := 130000) (by decide) (Nat.le_trans (xbl_powle _ _) (by have := xbl_prod (V (160 + 2 * a.toNat)) (V (160 + 2 * b.toNat)); omega))) (by decide) | exact Nat.le_trans (mi_b (n := 130000) (by decide) (Nat.le_trans (xbl_powle _ _) (by have := xbl_prod (V (160 + 2 * a.toNat)) (V (160 + 2 * b.toNat)); omega))) (by decide) | exact Nat.le_trans (pl_b (n := 130001) (pl_b (n := 130000) (by decide) (Nat.le_trans (xbl_powle _ _) (by have := xbl_prod (V (160 + 2 * a.toNat)) (V (160 + 2 * b.toNat)); omega))) (Nat.le_trans (xbl_powle _ _) (by omega))) (by decide) | exact Nat.le_trans (mi_b (n := 130001) (mi_b (n := 130000) (by decide) (Nat.le_trans (xbl_powle _ _) (by have := xbl_prod (V (160 + 2 * a.toNat)) (V (160 + 2 * b.toNat)); omega))) (Nat.le_trans (xbl_powle _ _) (by omega))) (by decide)) (by first | omega | decide | exact Nat.le_trans (pl_b (n := 130000) (by decide) (Nat.le_trans (xbl_powle _ _) (by have := xbl_prod (V (160 + 2 * a.toNat)) (V (160 + 2 * b.toNat)); omega))) (by decide) | exact Nat.le_trans (mi_b (n := 130000) (by decide) (Nat.le_trans (xbl_powle _ _) (by have := xbl_prod (V (160 + 2 * a.toNat)) (V (160 + 2 * b.toNat)); omega))) (by decide) | exact Nat.le_trans (pl_b (n := 130001) (pl_b (n := 130000) (by decide) (Nat.le_trans (xbl_powle _ _) (by have := xbl_prod (V (160 + 2 * a.toNat)) (V (160 + 2 * b.toNat)); omega))) (Nat.le_trans (xbl_powle _ _) (by omega))) (by decide) | exact Nat.le_trans (mi_b (n := 130001) (mi_b (n := 130000) (by decide) (Nat.le_trans (xbl_powle _ _) (by have := xbl_prod (V (160 + 2 * a.toNat)) (V (160 + 2 * b.toNat)); omega))) (Nat.le_trans (xbl_powle _ _) (by omega))) (by decide))
                      refine i_221_347 hobj (Nat.le_of_ble_eq_true rfl) hrun ?_
                      refine i_221_350 ?_
                      refine i_221_364 (x := 128) rfl ?_
                      refine i_221_365 (x := Int32.ofInt r) rfl ?_
                      refine i_221_366 (x := Int32.ofInt mode) rfl ?_
                      have hobj := hR.c128
                      obtain ⟨w, hrun, S2, V2, hR, hP⟩ := t_close (d := d + 2) (r := r) (mode := mode) hR hS hI (by omega) (by omega) (by refine ⟨?_, ?_, ?_⟩ <;> (repeat' split) <;> simp) (by first | omega | decide | exact Nat.le_trans (pl_b (n := 130000) (by decide) (Nat.le_trans (xbl_powle _ _) (by have := xbl_prod (V (160 + 2 * a.toNat)) (V (160 + 2 * b.toNat)); omega))) (by decide) | exact Nat.le_trans (mi_b (n := 130000) (by decide) (Nat.le_trans (xbl_powle _ _) (by have := xbl_prod (V (160 + 2 * a.toNat)) (V (160 + 2 * b.toNat)); omega))) (by decide) | exact Nat.le_trans (pl_b (n := 130001) (pl_b (n := 130000) (by decide) (Nat.le_trans (xbl_powle _ _) (by have := xbl_prod (V (160 + 2 * a.toNat)) (V (160 + 2 * b.toNat)); omega))) (Nat.le_trans (xbl_powle _ _) (by omega))) (by decide) | exact Nat.le_trans (mi_b (n := 130001) (mi_b (n := 130000) (by decide) (Nat.le_trans (xbl_powle _ _) (by have := xbl_prod (V (160 + 2 * a.toNat)) (V (160 + 2 * b.toNat)); omega))) (Nat.le_trans (xbl_powle _ _) (by omega))) (by decide)) (by first | omega | decide | exact Nat.le_trans (pl_b (n := 130000) (by decide) (Nat.le_trans (xbl_powle _ _) (by have := xbl_prod (V (160 + 2 * a.toNat)) (V (160 + 2 * b.toNat)); omega))) (by decide) | exact Nat.le_trans (mi_b (n := 130000) (by decide) (Nat.le_trans (xbl_powle _ _) (by have := xbl_prod (V (160 + 2 * a.toNat)) (V (160 + 2 * b.toNat)); omega))) (by decide) | exact Nat.le_trans (pl_b (n := 130001) (pl_b (n := 130000) (by decide) (Nat.le_trans (xbl_powle _ _) (by have := xbl_prod (V (160 + 2 * a.toNat)) (V (160 + 2 * b.toNat)); omega))) (Nat.le_trans (xbl_powle _ _) (by omega))) (by decide) | exact Nat.le_trans (mi_b (n := 130001) (mi_b (n := 130000) (by decide) (Nat.le_trans (xbl_powle _ _) (by have := xbl_prod (V (160 + 2 * a.toNat)) (V (160 + 2 * b.toNat)); omega))) (Nat.le_trans (xbl_powle _ _) (by omega))) (by decide)) (by intro _; omega)
                      refine i_221_368 hobj (Nat.le_of_ble_eq_true rfl) hrun ?_
                      refine i_221_371 ?_
                      have eo : sFus S V r.toNat a.toNat b.toNat c.toNat mode = sumS (S 153 r.toNat) (S 128 17) (S 128 18) (S 128 20) (S 128 19) mode (0 + if (S 156 ((c).toNat) : Int) = 0 then (V (160 + 2 * c.toNat)) * 2 ^ ((S 155 c.toNat - S 153 c.toNat) - (S 155 c.toNat - S 153 c.toNat)).toNat else 0) (0 + if (S 156 ((c).toNat) : Int) = 0 then 0 else (V (160 + 2 * c.toNat)) * 2 ^ ((S 155 c.toNat - S 153 c.toNat) - (S 155 c.toNat - S 153 c.toNat)).toNat) (S 155 c.toNat - S 153 c.toNat) 0 (if (0 : Int) = 0 then 1 else 0) (if (0 : Int) = 0 then 0 else 1) := by clear hR hrun hP; first | (rw [sFus_m (s := 0) (k := 3) (by omega) (by omega) (by omega) (if_pos (by omega)) (if_neg (by omega))]; rw [show S 154 c.toNat = 3 by omega]; exact sum2_33) | (rw [sFus_m (s := 0) (k := 3) (by omega) (by omega) (by omega) (if_pos (by omega)) (if_neg (by omega))]; exact sum2_3z (by omega)) | (rw [sFus_m (s := 0) (k := 2) (by omega) (by omega) (by omega) (if_pos (by omega)) (if_pos (by omega))]; rw [show S 154 c.toNat = 3 by omega]; exact sum2_z3 (by decide)) | (rw [sFus_m (s := 0) (k := 2) (by omega) (by omega) (by omega) (if_pos (by omega)) (if_pos (by omega))]; exact sum2_zz (by decide) (by omega)) | (rw [sFus_m (s := 1) (k := 3) (by omega) (by omega) (by omega) (if_neg (by omega)) (if_neg (by omega))]; rw [show S 154 c.toNat = 3 by omega]; exact sum2_33) | (rw [sFus_m (s := 1) (k := 3) (by omega) (by omega) (by omega) (if_neg (by omega)) (if_neg (by omega))]; exact sum2_3z (by omega)) | (rw [sFus_m (s := 1) (k := 2) (by omega) (by omega) (by omega) (if_neg (by omega)) (if_pos (by omega))]; rw [show S 154 c.toNat = 3 by omega]; exact sum2_z3 (by decide)) | (rw [sFus_m (s := 1) (k := 2) (by omega) (by omega) (by omega) (if_neg (by omega)) (if_pos (by omega))]; exact sum2_zz (by decide) (by omega))
                      rw [eo]
                      exact ⟨rfl, _, _, hR, hP⟩
                  · refine i_221_198 (x := 128) rfl ?_
                    refine i_221_199 (x := Int32.ofInt r) rfl ?_
                    refine i_221_200 ?_
                    refine i_221_201 (x := 128) rfl ?_
                    refine i_221_202 (v := Value.ref 156) hR.c128 rfl ?_
                    refine i_221_205 (x := Int32.ofInt c) rfl ?_
                    refine i_221_207z (v := Value.int (Int32.ofInt (S 156 ((c).toNat)))) (hR.row a156) (ix0 (T := c) (by omega) (by omega)) (ix1 (T := c) (by omega) (by omega) (by omega)) (ra (T := c) (by omega) (by omega) rfl) ?_
                    have hobj := hR.c128
                    obtain ⟨w, hrun, hR⟩ := s_special (d := d + 6) (r := r) (k := 1) (s := S 156 ((c).toNat)) hR (by omega) (by omega) (by omega)
                    refine i_221_208 hobj (Nat.le_of_ble_eq_true rfl) hrun ?_
                    refine i_221_211 ?_
                    have eo : sFus S V r.toNat a.toNat b.toNat c.toNat mode = oS 1 (S 156 ((c).toNat)) (S 128 19) := by clear hR hrun; unfold sFus; first | rw [if_pos (by omega)] | (rw [if_neg (by omega), if_pos (by unfold xorI; first | rw [if_pos (by omega)]; omega | rw [if_neg (by omega)]; omega | omega)]; done) | (rw [if_neg (by omega), if_neg (by unfold xorI; first | (rw [if_pos (by omega)]; omega) | (rw [if_neg (by omega)]; omega) | omega), if_pos (by omega)]; first | done | (congr 1; unfold xorI; first | exact if_pos (by omega) | exact if_neg (by omega))) | (rw [if_neg (by omega), if_neg (by omega), if_neg (by omega), if_pos (by omega)])
                    rw [eo]
                    exact ⟨rfl, _, _, hR, oP_special (by omega) (by decide) nS.refl nV.refl rfl⟩
                · refine i_221_126 (x := 128) rfl ?_
                  refine i_221_127 (x := Int32.ofInt r) rfl ?_
                  refine i_221_128 ?_
                  refine i_221_129 ?_
                  have hobj := hR.c128
                  obtain ⟨w, hrun, hR⟩ := s_special (d := d + 6) (r := r) (k := 0) (s := 0) hR (by omega) (by omega) (by omega)
                  refine i_221_130 hobj (Nat.le_of_ble_eq_true rfl) hrun ?_
                  refine i_221_133 ?_
                  have eo : sFus S V r.toNat a.toNat b.toNat c.toNat mode = oS 0 0 (S 128 19) := by clear hR hrun; unfold sFus; first | rw [if_pos (by omega)] | (rw [if_neg (by omega), if_pos (by unfold xorI; first | rw [if_pos (by omega)]; omega | rw [if_neg (by omega)]; omega | omega)]; done) | (rw [if_neg (by omega), if_neg (by unfold xorI; first | (rw [if_pos (by omega)]; omega) | (rw [if_neg (by omega)]; omega) | omega), if_pos (by omega)]; first | done | (congr 1; unfold xorI; first | exact if_pos (by omega) | exact if_neg (by omega))) | (rw [if_neg (by omega), if_neg (by omega), if_neg (by omega), if_pos (by omega)])
                  rw [eo]
                  exact ⟨rfl, _, _, hR, oP_special (by omega) (by decide) nS.refl nV.refl rfl⟩
        · refine i_221_64 ?_
          refine i_221_65 ?_
          refine i_221_69 (lv2 := [(7, Value.int 1), (6, Value.int 0), (0, Value.ref 128), (1, Value.int (Int32.ofInt r)), (2, Value.int (Int32.ofInt a)), (3, Value.int (Int32.ofInt b)), (4, Value.int (Int32.ofInt c)), (5, Value.int (Int32.ofInt mode))]) rfl ?_
          refine i_221_71 (x := 128) rfl ?_
          refine i_221_72 (v := Value.ref 154) hR.c128 rfl ?_
          refine i_221_75 (x := Int32.ofInt a) rfl ?_
          refine i_221_76 (v := Value.int (Int32.ofInt (S 154 ((a).toNat)))) (hR.row a154) (ix0 (T := a) (by omega) (by omega)) (ix1 (T := a) (by omega) (by omega) (by omega)) (ra (T := a) (by omega) (by omega) rfl) ?_
          refine i_221_77 ?_
          refine i_221_78 (b_eq (a := S 154 ((a).toNat)) (b := 2) ⟨by omega, by omega⟩ ⟨by decide, by decide⟩ fun c32 => ?_) (b_ne (a := S 154 ((a).toNat)) (b := 2) ⟨by omega, by omega⟩ ⟨by decide, by decide⟩ fun c32 => ?_)
          · refine i_221_91 ?_
            refine i_221_92 ?_
            refine i_221_96 (lv2 := [(8, Value.int 1), (7, Value.int 1), (6, Value.int 0), (0, Value.ref 128), (1, Value.int (Int32.ofInt r)), (2, Value.int (Int32.ofInt a)), (3, Value.int (Int32.ofInt b)), (4, Value.int (Int32.ofInt c)), (5, Value.int (Int32.ofInt mode))]) rfl ?_
            refine i_221_98 (x := 128) rfl ?_
            refine i_221_99 (v := Value.ref 154) hR.c128 rfl ?_
            refine i_221_102 (x := Int32.ofInt a) rfl ?_
            refine i_221_103 (v := Value.int (Int32.ofInt (S 154 ((a).toNat)))) (hR.row a154) (ix0 (T := a) (by omega) (by omega)) (ix1 (T := a) (by omega) (by omega) (by omega)) (ra (T := a) (by omega) (by omega) rfl) ?_
            refine i_221_104 (z_eq (a := S 154 ((a).toNat)) ⟨by omega, by omega⟩ fun c33 => absurd c33 (by omega)) (z_ne (a := S 154 ((a).toNat)) ⟨by omega, by omega⟩ fun c33 => ?_)
            refine i_221_107 (x := 128) rfl ?_
            refine i_221_108 (v := Value.ref 154) hR.c128 rfl ?_
            refine i_221_111 (x := Int32.ofInt b) rfl ?_
            refine i_221_112 (v := Value.int (Int32.ofInt (S 154 ((b).toNat)))) (hR.row a154) (ix0 (T := b) (by omega) (by omega)) (ix1 (T := b) (by omega) (by omega) (by omega)) (ra (T := b) (by omega) (by omega) rfl) ?_
            refine i_221_113 (z_eq (a := S 154 ((b).toNat)) ⟨by omega, by omega⟩ fun c34 => absurd c34 (by omega)) (z_ne (a := S 154 ((b).toNat)) ⟨by omega, by omega⟩ fun c34 => ?_)
            refine i_221_116 (x := 128) rfl ?_
            refine i_221_117 (v := Value.ref 154) hR.c128 rfl ?_
            refine i_221_120 (x := Int32.ofInt c) rfl ?_
            refine i_221_122 (v := Value.int (Int32.ofInt (S 154 ((c).toNat)))) (hR.row a154) (ix0 (T := c) (by omega) (by omega)) (ix1 (T := c) (by omega) (by omega) (by omega)) (ra (T := c) (by omega) (by omega) rfl) ?_
            refine i_221_123 (z_ne (a := S 154 ((c).toNat)) ⟨by omega, by omega⟩ fun c35 => ?_) (z_eq (a := S 154 ((c).toNat)) ⟨by omega, by omega⟩ fun c35 => ?_)
            · refine i_221_134 (x := 1) rfl ?_
              refine i_221_136 (fun c => absurd c (by decide)) (fun _ => ?_)
              refine i_221_139 (x := 1) rfl ?_
              refine i_221_141 (fun _ => ?_) (fun c => absurd c (by decide))
              refine i_221_167 (x := 128) rfl ?_
              refine i_221_168 (x := Int32.ofInt r) rfl ?_
              have hobj := hR.c128
              obtain ⟨w, hrun, hR⟩ := s_invalid (d := d + 5) (r := r) hR (by omega) (by omega)
              refine i_221_169 hobj (Nat.le_of_ble_eq_true rfl) hrun ?_
              refine i_221_172 ?_
              have eo : sFus S V r.toNat a.toNat b.toNat c.toNat mode = oS 0 0 (zor (S 128 19) 8) := by clear hR hrun; unfold sFus; first | rw [if_pos (by omega)] | (rw [if_neg (by omega), if_pos (by unfold xorI; first | rw [if_pos (by omega)]; omega | rw [if_neg (by omega)]; omega | omega)]; done) | (rw [if_neg (by omega), if_neg (by unfold xorI; first | (rw [if_pos (by omega)]; omega) | (rw [if_neg (by omega)]; omega) | omega), if_pos (by omega)]; first | done | (congr 1; unfold xorI; first | exact if_pos (by omega) | exact if_neg (by omega))) | (rw [if_neg (by omega), if_neg (by omega), if_neg (by omega), if_pos (by omega)])
              rw [eo]
              exact ⟨rfl, _, _, hR, oP_flag (by omega) (by decide) nS.refl nV.refl rfl⟩
            · refine i_221_126 (x := 128) rfl ?_
              refine i_221_127 (x := Int32.ofInt r) rfl ?_
              refine i_221_128 ?_
              refine i_221_129 ?_
              have hobj := hR.c128
              obtain ⟨w, hrun, hR⟩ := s_special (d := d + 6) (r := r) (k := 0) (s := 0) hR (by omega) (by omega) (by omega)
              refine i_221_130 hobj (Nat.le_of_ble_eq_true rfl) hrun ?_
              refine i_221_133 ?_
              have eo : sFus S V r.toNat a.toNat b.toNat c.toNat mode = oS 0 0 (S 128 19) := by clear hR hrun; unfold sFus; first | rw [if_pos (by omega)] | (rw [if_neg (by omega), if_pos (by unfold xorI; first | rw [if_pos (by omega)]; omega | rw [if_neg (by omega)]; omega | omega)]; done) | (rw [if_neg (by omega), if_neg (by unfold xorI; first | (rw [if_pos (by omega)]; omega) | (rw [if_neg (by omega)]; omega) | omega), if_pos (by omega)]; first | done | (congr 1; unfold xorI; first | exact if_pos (by omega) | exact if_neg (by omega))) | (rw [if_neg (by omega), if_neg (by omega), if_neg (by omega), if_pos (by omega)])
              rw [eo]
              exact ⟨rfl, _, _, hR, oP_special (by omega) (by decide) nS.refl nV.refl rfl⟩
          · refine i_221_81 (x := 128) rfl ?_
            refine i_221_82 (v := Value.ref 154) hR.c128 rfl ?_
            refine i_221_85 (x := Int32.ofInt b) rfl ?_
            refine i_221_86 (v := Value.int (Int32.ofInt (S 154 ((b).toNat)))) (hR.row a154) (ix0 (T := b) (by omega) (by omega)) (ix1 (T := b) (by omega) (by omega) (by omega)) (ra (T := b) (by omega) (by omega) rfl) ?_
            refine i_221_87 ?_
            refine i_221_88 (b_ne (a := S 154 ((b).toNat)) (b := 2) ⟨by omega, by omega⟩ ⟨by decide, by decide⟩ fun c36 => ?_) (b_eq (a := S 154 ((b).toNat)) (b := 2) ⟨by omega, by omega⟩ ⟨by decide, by decide⟩ fun c36 => absurd c36 (by omega))
            refine i_221_95 ?_
            refine i_221_96 (lv2 := [(8, Value.int 0), (7, Value.int 1), (6, Value.int 0), (0, Value.ref 128), (1, Value.int (Int32.ofInt r)), (2, Value.int (Int32.ofInt a)), (3, Value.int (Int32.ofInt b)), (4, Value.int (Int32.ofInt c)), (5, Value.int (Int32.ofInt mode))]) rfl ?_
            refine i_221_98 (x := 128) rfl ?_
            refine i_221_99 (v := Value.ref 154) hR.c128 rfl ?_
            refine i_221_102 (x := Int32.ofInt a) rfl ?_
            refine i_221_103 (v := Value.int (Int32.ofInt (S 154 ((a).toNat)))) (hR.row a154) (ix0 (T := a) (by omega) (by omega)) (ix1 (T := a) (by omega) (by omega) (by omega)) (ra (T := a) (by omega) (by omega) rfl) ?_
            refine i_221_104 (z_eq (a := S 154 ((a).toNat)) ⟨by omega, by omega⟩ fun c37 => ?_) (z_ne (a := S 154 ((a).toNat)) ⟨by omega, by omega⟩ fun c37 => ?_)
            · refine i_221_126 (x := 128) rfl ?_
              refine i_221_127 (x := Int32.ofInt r) rfl ?_
              refine i_221_128 ?_
              refine i_221_129 ?_
              have hobj := hR.c128
              obtain ⟨w, hrun, hR⟩ := s_special (d := d + 6) (r := r) (k := 0) (s := 0) hR (by omega) (by omega) (by omega)
              refine i_221_130 hobj (Nat.le_of_ble_eq_true rfl) hrun ?_
              refine i_221_133 ?_
              have eo : sFus S V r.toNat a.toNat b.toNat c.toNat mode = oS 0 0 (S 128 19) := by clear hR hrun; unfold sFus; first | rw [if_pos (by omega)] | (rw [if_neg (by omega), if_pos (by unfold xorI; first | rw [if_pos (by omega)]; omega | rw [if_neg (by omega)]; omega | omega)]; done) | (rw [if_neg (by omega), if_neg (by unfold xorI; first | (rw [if_pos (by omega)]; omega) | (rw [if_neg (by omega)]; omega) | omega), if_pos (by omega)]; first | done | (congr 1; unfold xorI; first | exact if_pos (by omega) | exact if_neg (by omega))) | (rw [if_neg (by omega), if_neg (by omega), if_neg (by omega), if_pos (by omega)])
              rw [eo]
              exact ⟨rfl, _, _, hR, oP_special (by omega) (by decide) nS.refl nV.refl rfl⟩
            · refine i_221_107 (x := 128) rfl ?_
              refine i_221_108 (v := Value.ref 154) hR.c128 rfl ?_
              refine i_221_111 (x := Int32.ofInt b) rfl ?_
              refine i_221_112 (v := Value.int (Int32.ofInt (S 154 ((b).toNat)))) (hR.row a154) (ix0 (T := b) (by omega) (by omega)) (ix1 (T := b) (by omega) (by omega) (by omega)) (ra (T := b) (by omega) (by omega) rfl) ?_
              refine i_221_113 (z_eq (a := S 154 ((b).toNat)) ⟨by omega, by omega⟩ fun c38 => absurd c38 (by omega)) (z_ne (a := S 154 ((b).toNat)) ⟨by omega, by omega⟩ fun c38 => ?_)
              refine i_221_116 (x := 128) rfl ?_
              refine i_221_117 (v := Value.ref 154) hR.c128 rfl ?_
              refine i_221_120 (x := Int32.ofInt c) rfl ?_
              refine i_221_122 (v := Value.int (Int32.ofInt (S 154 ((c).toNat)))) (hR.row a154) (ix0 (T := c) (by omega) (by omega)) (ix1 (T := c) (by omega) (by omega) (by omega)) (ra (T := c) (by omega) (by omega) rfl) ?_
              refine i_221_123 (z_ne (a := S 154 ((c).toNat)) ⟨by omega, by omega⟩ fun c39 => ?_) (z_eq (a := S 154 ((c).toNat)) ⟨by omega, by omega⟩ fun c39 => ?_)
              · refine i_221_134 (x := 1) rfl ?_
                refine i_221_136 (fun c => absurd c (by decide)) (fun _ => ?_)
                refine i_221_139 (x := 0) rfl ?_
                refine i_221_141 (fun c => absurd c (by decide)) (fun _ => ?_)
                refine i_221_144 (x := 128) rfl ?_
                refine i_221_145 (v := Value.ref 154) hR.c128 rfl ?_
                refine i_221_148 (x := Int32.ofInt c) rfl ?_
                refine i_221_150 (v := Value.int (Int32.ofInt (S 154 ((c).toNat)))) (hR.row a154) (ix0 (T := c) (by omega) (by omega)) (ix1 (T := c) (by omega) (by omega) (by omega)) (ra (T := c) (by omega) (by omega) rfl) ?_
                refine i_221_151 ?_
                refine i_221_152 (b_ne (a := S 154 ((c).toNat)) (b := 1) ⟨by omega, by omega⟩ ⟨by decide, by decide⟩ fun c40 => ?_) (b_eq (a := S 154 ((c).toNat)) (b := 1) ⟨by omega, by omega⟩ ⟨by decide, by decide⟩ fun c40 => ?_)
                · refine i_221_173 (x := 1) rfl ?_
                  refine i_221_175 (fun c => absurd c (by decide)) (fun _ => ?_)
                  refine i_221_178 (x := 128) rfl ?_
                  refine i_221_179 (x := Int32.ofInt r) rfl ?_
                  refine i_221_180 ?_
                  refine i_221_181 (x := 0) rfl ?_
                  have hobj := hR.c128
                  obtain ⟨w, hrun, hR⟩ := s_special (d := d + 6) (r := r) (k := 1) (s := 0) hR (by omega) (by omega) (by omega)
                  refine i_221_183 hobj (Nat.le_of_ble_eq_true rfl) hrun ?_
                  refine i_221_186 ?_
                  have eo : sFus S V r.toNat a.toNat b.toNat c.toNat mode = oS 1 0 (S 128 19) := by clear hR hrun; unfold sFus; first | rw [if_pos (by omega)] | (rw [if_neg (by omega), if_pos (by unfold xorI; first | rw [if_pos (by omega)]; omega | rw [if_neg (by omega)]; omega | omega)]; done) | (rw [if_neg (by omega), if_neg (by unfold xorI; first | (rw [if_pos (by omega)]; omega) | (rw [if_neg (by omega)]; omega) | omega), if_pos (by omega)]; first | done | (congr 1; unfold xorI; first | exact if_pos (by omega) | exact if_neg (by omega))) | (rw [if_neg (by omega), if_neg (by omega), if_neg (by omega), if_pos (by omega)])
                  rw [eo]
                  exact ⟨rfl, _, _, hR, oP_special (by omega) (by decide) nS.refl nV.refl rfl⟩
                · refine i_221_155 (x := 128) rfl ?_
                  refine i_221_156 (v := Value.ref 156) hR.c128 rfl ?_
                  refine i_221_159 (x := Int32.ofInt c) rfl ?_
                  refine i_221_161z (v := Value.int (Int32.ofInt (S 156 ((c).toNat)))) (hR.row a156) (ix0 (T := c) (by omega) (by omega)) (ix1 (T := c) (by omega) (by omega) (by omega)) (ra (T := c) (by omega) (by omega) rfl) ?_
                  refine i_221_162 (x := 0) rfl ?_
                  refine i_221_164 (b_eq (a := S 156 ((c).toNat)) (b := 0) ⟨by omega, by omega⟩ ⟨by decide, by decide⟩ fun c41 => ?_) (b_ne (a := S 156 ((c).toNat)) (b := 0) ⟨by omega, by omega⟩ ⟨by decide, by decide⟩ fun c41 => ?_)
                  · refine i_221_173 (x := 1) rfl ?_
                    refine i_221_175 (fun c => absurd c (by decide)) (fun _ => ?_)
                    refine i_221_178 (x := 128) rfl ?_
                    refine i_221_179 (x := Int32.ofInt r) rfl ?_
                    refine i_221_180 ?_
                    refine i_221_181 (x := 0) rfl ?_
                    have hobj := hR.c128
                    obtain ⟨w, hrun, hR⟩ := s_special (d := d + 6) (r := r) (k := 1) (s := 0) hR (by omega) (by omega) (by omega)
                    refine i_221_183 hobj (Nat.le_of_ble_eq_true rfl) hrun ?_
                    refine i_221_186 ?_
                    have eo : sFus S V r.toNat a.toNat b.toNat c.toNat mode = oS 1 0 (S 128 19) := by clear hR hrun; unfold sFus; first | rw [if_pos (by omega)] | (rw [if_neg (by omega), if_pos (by unfold xorI; first | rw [if_pos (by omega)]; omega | rw [if_neg (by omega)]; omega | omega)]; done) | (rw [if_neg (by omega), if_neg (by unfold xorI; first | (rw [if_pos (by omega)]; omega) | (rw [if_neg (by omega)]; omega) | omega), if_pos (by omega)]; first | done | (congr 1; unfold xorI; first | exact if_pos (by omega) | exact if_neg (by omega))) | (rw [if_neg (by omega), if_neg (by omega), if_neg (by omega), if_pos (by omega)])
                    rw [eo]
                    exact ⟨rfl, _, _, hR, oP_special (by omega) (by decide) nS.refl nV.refl rfl⟩
                  · refine i_221_167 (x := 128) rfl ?_
                    refine i_221_168 (x := Int32.ofInt r) rfl ?_
                    have hobj := hR.c128
                    obtain ⟨w, hrun, hR⟩ := s_invalid (d := d + 5) (r := r) hR (by omega) (by omega)
                    refine i_221_169 hobj (Nat.le_of_ble_eq_true rfl) hrun ?_
                    refine i_221_172 ?_
                    have eo : sFus S V r.toNat a.toNat b.toNat c.toNat mode = oS 0 0 (zor (S 128 19) 8) := by clear hR hrun; unfold sFus; first | rw [if_pos (by omega)] | (rw [if_neg (by omega), if_pos (by unfold xorI; first | rw [if_pos (by omega)]; omega | rw [if_neg (by omega)]; omega | omega)]; done) | (rw [if_neg (by omega), if_neg (by unfold xorI; first | (rw [if_pos (by omega)]; omega) | (rw [if_neg (by omega)]; omega) | omega), if_pos (by omega)]; first | done | (congr 1; unfold xorI; first | exact if_pos (by omega) | exact if_neg (by omega))) | (rw [if_neg (by omega), if_neg (by omega), if_neg (by omega), if_pos (by omega)])
                    rw [eo]
                    exact ⟨rfl, _, _, hR, oP_flag (by omega) (by decide) nS.refl nV.refl rfl⟩
              · refine i_221_126 (x := 128) rfl ?_
                refine i_221_127 (x := Int32.ofInt r) rfl ?_
                refine i_221_128 ?_
                refine i_221_129 ?_
                have hobj := hR.c128
                obtain ⟨w, hrun, hR⟩ := s_special (d := d + 6) (r := r) (k := 0) (s := 0) hR (by omega) (by omega) (by omega)
                refine i_221_130 hobj (Nat.le_of_ble_eq_true rfl) hrun ?_
                refine i_221_133 ?_
                have eo : sFus S V r.toNat a.toNat b.toNat c.toNat mode = oS 0 0 (S 128 19) := by clear hR hrun; unfold sFus; first | rw [if_pos (by omega)] | (rw [if_neg (by omega), if_pos (by unfold xorI; first | rw [if_pos (by omega)]; omega | rw [if_neg (by omega)]; omega | omega)]; done) | (rw [if_neg (by omega), if_neg (by unfold xorI; first | (rw [if_pos (by omega)]; omega) | (rw [if_neg (by omega)]; omega) | omega), if_pos (by omega)]; first | done | (congr 1; unfold xorI; first | exact if_pos (by omega) | exact if_neg (by omega))) | (rw [if_neg (by omega), if_neg (by omega), if_neg (by omega), if_pos (by omega)])
                rw [eo]
                exact ⟨rfl, _, _, hR, oP_special (by omega) (by decide) nS.refl nV.refl rfl⟩
    · refine i_221_37 ?_
      refine i_221_38 ?_
      refine i_221_42 (lv2 := [(6, Value.int 1), (0, Value.ref 128), (1, Value.int (Int32.ofInt r)), (2, Value.int (Int32.ofInt a)), (3, Value.int (Int32.ofInt b)), (4, Value.int (Int32.ofInt c)), (5, Value.int (Int32.ofInt mode))]) rfl ?_
      refine i_221_44 (x := 128) rfl ?_
      refine i_221_45 (v := Value.ref 154) hR.c128 rfl ?_
      refine i_221_48 (x := Int32.ofInt a) rfl ?_
      refine i_221_49 (v := Value.int (Int32.ofInt (S 154 ((a).toNat)))) (hR.row a154) (ix0 (T := a) (by omega) (by omega)) (ix1 (T := a) (by omega) (by omega) (by omega)) (ra (T := a) (by omega) (by omega) rfl) ?_
      refine i_221_50 ?_
      refine i_221_51 (b_eq (a := S 154 ((a).toNat)) (b := 1) ⟨by omega, by omega⟩ ⟨by decide, by decide⟩ fun c42 => ?_) (b_ne (a := S 154 ((a).toNat)) (b := 1) ⟨by omega, by omega⟩ ⟨by decide, by decide⟩ fun c42 => ?_)
      · refine i_221_64 ?_
        refine i_221_65 ?_
        refine i_221_69 (lv2 := [(7, Value.int 1), (6, Value.int 1), (0, Value.ref 128), (1, Value.int (Int32.ofInt r)), (2, Value.int (Int32.ofInt a)), (3, Value.int (Int32.ofInt b)), (4, Value.int (Int32.ofInt c)), (5, Value.int (Int32.ofInt mode))]) rfl ?_
        refine i_221_71 (x := 128) rfl ?_
        refine i_221_72 (v := Value.ref 154) hR.c128 rfl ?_
        refine i_221_75 (x := Int32.ofInt a) rfl ?_
        refine i_221_76 (v := Value.int (Int32.ofInt (S 154 ((a).toNat)))) (hR.row a154) (ix0 (T := a) (by omega) (by omega)) (ix1 (T := a) (by omega) (by omega) (by omega)) (ra (T := a) (by omega) (by omega) rfl) ?_
        refine i_221_77 ?_
        refine i_221_78 (b_eq (a := S 154 ((a).toNat)) (b := 2) ⟨by omega, by omega⟩ ⟨by decide, by decide⟩ fun c43 => absurd c43 (by omega)) (b_ne (a := S 154 ((a).toNat)) (b := 2) ⟨by omega, by omega⟩ ⟨by decide, by decide⟩ fun c43 => ?_)
        refine i_221_81 (x := 128) rfl ?_
        refine i_221_82 (v := Value.ref 154) hR.c128 rfl ?_
        refine i_221_85 (x := Int32.ofInt b) rfl ?_
        refine i_221_86 (v := Value.int (Int32.ofInt (S 154 ((b).toNat)))) (hR.row a154) (ix0 (T := b) (by omega) (by omega)) (ix1 (T := b) (by omega) (by omega) (by omega)) (ra (T := b) (by omega) (by omega) rfl) ?_
        refine i_221_87 ?_
        refine i_221_88 (b_ne (a := S 154 ((b).toNat)) (b := 2) ⟨by omega, by omega⟩ ⟨by decide, by decide⟩ fun c44 => ?_) (b_eq (a := S 154 ((b).toNat)) (b := 2) ⟨by omega, by omega⟩ ⟨by decide, by decide⟩ fun c44 => ?_)
        · refine i_221_95 ?_
          refine i_221_96 (lv2 := [(8, Value.int 0), (7, Value.int 1), (6, Value.int 1), (0, Value.ref 128), (1, Value.int (Int32.ofInt r)), (2, Value.int (Int32.ofInt a)), (3, Value.int (Int32.ofInt b)), (4, Value.int (Int32.ofInt c)), (5, Value.int (Int32.ofInt mode))]) rfl ?_
          refine i_221_98 (x := 128) rfl ?_
          refine i_221_99 (v := Value.ref 154) hR.c128 rfl ?_
          refine i_221_102 (x := Int32.ofInt a) rfl ?_
          refine i_221_103 (v := Value.int (Int32.ofInt (S 154 ((a).toNat)))) (hR.row a154) (ix0 (T := a) (by omega) (by omega)) (ix1 (T := a) (by omega) (by omega) (by omega)) (ra (T := a) (by omega) (by omega) rfl) ?_
          refine i_221_104 (z_eq (a := S 154 ((a).toNat)) ⟨by omega, by omega⟩ fun c45 => absurd c45 (by omega)) (z_ne (a := S 154 ((a).toNat)) ⟨by omega, by omega⟩ fun c45 => ?_)
          refine i_221_107 (x := 128) rfl ?_
          refine i_221_108 (v := Value.ref 154) hR.c128 rfl ?_
          refine i_221_111 (x := Int32.ofInt b) rfl ?_
          refine i_221_112 (v := Value.int (Int32.ofInt (S 154 ((b).toNat)))) (hR.row a154) (ix0 (T := b) (by omega) (by omega)) (ix1 (T := b) (by omega) (by omega) (by omega)) (ra (T := b) (by omega) (by omega) rfl) ?_
          refine i_221_113 (z_eq (a := S 154 ((b).toNat)) ⟨by omega, by omega⟩ fun c46 => ?_) (z_ne (a := S 154 ((b).toNat)) ⟨by omega, by omega⟩ fun c46 => ?_)
          · refine i_221_126 (x := 128) rfl ?_
            refine i_221_127 (x := Int32.ofInt r) rfl ?_
            refine i_221_128 ?_
            refine i_221_129 ?_
            have hobj := hR.c128
            obtain ⟨w, hrun, hR⟩ := s_special (d := d + 6) (r := r) (k := 0) (s := 0) hR (by omega) (by omega) (by omega)
            refine i_221_130 hobj (Nat.le_of_ble_eq_true rfl) hrun ?_
            refine i_221_133 ?_
            have eo : sFus S V r.toNat a.toNat b.toNat c.toNat mode = oS 0 0 (S 128 19) := by clear hR hrun; unfold sFus; first | rw [if_pos (by omega)] | (rw [if_neg (by omega), if_pos (by unfold xorI; first | rw [if_pos (by omega)]; omega | rw [if_neg (by omega)]; omega | omega)]; done) | (rw [if_neg (by omega), if_neg (by unfold xorI; first | (rw [if_pos (by omega)]; omega) | (rw [if_neg (by omega)]; omega) | omega), if_pos (by omega)]; first | done | (congr 1; unfold xorI; first | exact if_pos (by omega) | exact if_neg (by omega))) | (rw [if_neg (by omega), if_neg (by omega), if_neg (by omega), if_pos (by omega)])
            rw [eo]
            exact ⟨rfl, _, _, hR, oP_special (by omega) (by decide) nS.refl nV.refl rfl⟩
          · refine i_221_116 (x := 128) rfl ?_
            refine i_221_117 (v := Value.ref 154) hR.c128 rfl ?_
            refine i_221_120 (x := Int32.ofInt c) rfl ?_
            refine i_221_122 (v := Value.int (Int32.ofInt (S 154 ((c).toNat)))) (hR.row a154) (ix0 (T := c) (by omega) (by omega)) (ix1 (T := c) (by omega) (by omega) (by omega)) (ra (T := c) (by omega) (by omega) rfl) ?_
            refine i_221_123 (z_ne (a := S 154 ((c).toNat)) ⟨by omega, by omega⟩ fun c47 => ?_) (z_eq (a := S 154 ((c).toNat)) ⟨by omega, by omega⟩ fun c47 => ?_)
            · refine i_221_134 (x := 1) rfl ?_
              refine i_221_136 (fun c => absurd c (by decide)) (fun _ => ?_)
              refine i_221_139 (x := 0) rfl ?_
              refine i_221_141 (fun c => absurd c (by decide)) (fun _ => ?_)
              refine i_221_144 (x := 128) rfl ?_
              refine i_221_145 (v := Value.ref 154) hR.c128 rfl ?_
              refine i_221_148 (x := Int32.ofInt c) rfl ?_
              refine i_221_150 (v := Value.int (Int32.ofInt (S 154 ((c).toNat)))) (hR.row a154) (ix0 (T := c) (by omega) (by omega)) (ix1 (T := c) (by omega) (by omega) (by omega)) (ra (T := c) (by omega) (by omega) rfl) ?_
              refine i_221_151 ?_
              refine i_221_152 (b_ne (a := S 154 ((c).toNat)) (b := 1) ⟨by omega, by omega⟩ ⟨by decide, by decide⟩ fun c48 => ?_) (b_eq (a := S 154 ((c).toNat)) (b := 1) ⟨by omega, by omega⟩ ⟨by decide, by decide⟩ fun c48 => ?_)
              · refine i_221_173 (x := 1) rfl ?_
                refine i_221_175 (fun c => absurd c (by decide)) (fun _ => ?_)
                refine i_221_178 (x := 128) rfl ?_
                refine i_221_179 (x := Int32.ofInt r) rfl ?_
                refine i_221_180 ?_
                refine i_221_181 (x := 1) rfl ?_
                have hobj := hR.c128
                obtain ⟨w, hrun, hR⟩ := s_special (d := d + 6) (r := r) (k := 1) (s := 1) hR (by omega) (by omega) (by omega)
                refine i_221_183 hobj (Nat.le_of_ble_eq_true rfl) hrun ?_
                refine i_221_186 ?_
                have eo : sFus S V r.toNat a.toNat b.toNat c.toNat mode = oS 1 1 (S 128 19) := by clear hR hrun; unfold sFus; first | rw [if_pos (by omega)] | (rw [if_neg (by omega), if_pos (by unfold xorI; first | rw [if_pos (by omega)]; omega | rw [if_neg (by omega)]; omega | omega)]; done) | (rw [if_neg (by omega), if_neg (by unfold xorI; first | (rw [if_pos (by omega)]; omega) | (rw [if_neg (by omega)]; omega) | omega), if_pos (by omega)]; first | done | (congr 1; unfold xorI; first | exact if_pos (by omega) | exact if_neg (by omega))) | (rw [if_neg (by omega), if_neg (by omega), if_neg (by omega), if_pos (by omega)])
                rw [eo]
                exact ⟨rfl, _, _, hR, oP_special (by omega) (by decide) nS.refl nV.refl rfl⟩
              · refine i_221_155 (x := 128) rfl ?_
                refine i_221_156 (v := Value.ref 156) hR.c128 rfl ?_
                refine i_221_159 (x := Int32.ofInt c) rfl ?_
                refine i_221_161z (v := Value.int (Int32.ofInt (S 156 ((c).toNat)))) (hR.row a156) (ix0 (T := c) (by omega) (by omega)) (ix1 (T := c) (by omega) (by omega) (by omega)) (ra (T := c) (by omega) (by omega) rfl) ?_
                refine i_221_162 (x := 1) rfl ?_
                refine i_221_164 (b_eq (a := S 156 ((c).toNat)) (b := 1) ⟨by omega, by omega⟩ ⟨by decide, by decide⟩ fun c49 => ?_) (b_ne (a := S 156 ((c).toNat)) (b := 1) ⟨by omega, by omega⟩ ⟨by decide, by decide⟩ fun c49 => ?_)
                · refine i_221_173 (x := 1) rfl ?_
                  refine i_221_175 (fun c => absurd c (by decide)) (fun _ => ?_)
                  refine i_221_178 (x := 128) rfl ?_
                  refine i_221_179 (x := Int32.ofInt r) rfl ?_
                  refine i_221_180 ?_
                  refine i_221_181 (x := 1) rfl ?_
                  have hobj := hR.c128
                  obtain ⟨w, hrun, hR⟩ := s_special (d := d + 6) (r := r) (k := 1) (s := 1) hR (by omega) (by omega) (by omega)
                  refine i_221_183 hobj (Nat.le_of_ble_eq_true rfl) hrun ?_
                  refine i_221_186 ?_
                  have eo : sFus S V r.toNat a.toNat b.toNat c.toNat mode = oS 1 1 (S 128 19) := by clear hR hrun; unfold sFus; first | rw [if_pos (by omega)] | (rw [if_neg (by omega), if_pos (by unfold xorI; first | rw [if_pos (by omega)]; omega | rw [if_neg (by omega)]; omega | omega)]; done) | (rw [if_neg (by omega), if_neg (by unfold xorI; first | (rw [if_pos (by omega)]; omega) | (rw [if_neg (by omega)]; omega) | omega), if_pos (by omega)]; first | done | (congr 1; unfold xorI; first | exact if_pos (by omega) | exact if_neg (by omega))) | (rw [if_neg (by omega), if_neg (by omega), if_neg (by omega), if_pos (by omega)])
                  rw [eo]
                  exact ⟨rfl, _, _, hR, oP_special (by omega) (by decide) nS.refl nV.refl rfl⟩
                · refine i_221_167 (x := 128) rfl ?_
                  refine i_221_168 (x := Int32.ofInt r) rfl ?_
                  have hobj := hR.c128
                  obtain ⟨w, hrun, hR⟩ := s_invalid (d := d + 5) (r := r) hR (by omega) (by omega)
                  refine i_221_169 hobj (Nat.le_of_ble_eq_true rfl) hrun ?_
                  refine i_221_172 ?_
                  have eo : sFus S V r.toNat a.toNat b.toNat c.toNat mode = oS 0 0 (zor (S 128 19) 8) := by clear hR hrun; unfold sFus; first | rw [if_pos (by omega)] | (rw [if_neg (by omega), if_pos (by unfold xorI; first | rw [if_pos (by omega)]; omega | rw [if_neg (by omega)]; omega | omega)]; done) | (rw [if_neg (by omega), if_neg (by unfold xorI; first | (rw [if_pos (by omega)]; omega) | (rw [if_neg (by omega)]; omega) | omega), if_pos (by omega)]; first | done | (congr 1; unfold xorI; first | exact if_pos (by omega) | exact if_neg (by omega))) | (rw [if_neg (by omega), if_neg (by omega), if_neg (by omega), if_pos (by omega)])
                  rw [eo]
                  exact ⟨rfl, _, _, hR, oP_flag (by omega) (by decide) nS.refl nV.refl rfl⟩
            · refine i_221_126 (x := 128) rfl ?_
              refine i_221_127 (x := Int32.ofInt r) rfl ?_
              refine i_221_128 ?_
              refine i_221_129 ?_
              have hobj := hR.c128
              obtain ⟨w, hrun, hR⟩ := s_special (d := d + 6) (r := r) (k := 0) (s := 0) hR (by omega) (by omega) (by omega)
              refine i_221_130 hobj (Nat.le_of_ble_eq_true rfl) hrun ?_
              refine i_221_133 ?_
              have eo : sFus S V r.toNat a.toNat b.toNat c.toNat mode = oS 0 0 (S 128 19) := by clear hR hrun; unfold sFus; first | rw [if_pos (by omega)] | (rw [if_neg (by omega), if_pos (by unfold xorI; first | rw [if_pos (by omega)]; omega | rw [if_neg (by omega)]; omega | omega)]; done) | (rw [if_neg (by omega), if_neg (by unfold xorI; first | (rw [if_pos (by omega)]; omega) | (rw [if_neg (by omega)]; omega) | omega), if_pos (by omega)]; first | done | (congr 1; unfold xorI; first | exact if_pos (by omega) | exact if_neg (by omega))) | (rw [if_neg (by omega), if_neg (by omega), if_neg (by omega), if_pos (by omega)])
              rw [eo]
              exact ⟨rfl, _, _, hR, oP_special (by omega) (by decide) nS.refl nV.refl rfl⟩
        · refine i_221_91 ?_
          refine i_221_92 ?_
          refine i_221_96 (lv2 := [(8, Value.int 1), (7, Value.int 1), (6, Value.int 1), (0, Value.ref 128), (1, Value.int (Int32.ofInt r)), (2, Value.int (Int32.ofInt a)), (3, Value.int (Int32.ofInt b)), (4, Value.int (Int32.ofInt c)), (5, Value.int (Int32.ofInt mode))]) rfl ?_
          refine i_221_98 (x := 128) rfl ?_
          refine i_221_99 (v := Value.ref 154) hR.c128 rfl ?_
          refine i_221_102 (x := Int32.ofInt a) rfl ?_
          refine i_221_103 (v := Value.int (Int32.ofInt (S 154 ((a).toNat)))) (hR.row a154) (ix0 (T := a) (by omega) (by omega)) (ix1 (T := a) (by omega) (by omega) (by omega)) (ra (T := a) (by omega) (by omega) rfl) ?_
          refine i_221_104 (z_eq (a := S 154 ((a).toNat)) ⟨by omega, by omega⟩ fun c50 => absurd c50 (by omega)) (z_ne (a := S 154 ((a).toNat)) ⟨by omega, by omega⟩ fun c50 => ?_)
          refine i_221_107 (x := 128) rfl ?_
          refine i_221_108 (v := Value.ref 154) hR.c128 rfl ?_
          refine i_221_111 (x := Int32.ofInt b) rfl ?_
          refine i_221_112 (v := Value.int (Int32.ofInt (S 154 ((b).toNat)))) (hR.row a154) (ix0 (T := b) (by omega) (by omega)) (ix1 (T := b) (by omega) (by omega) (by omega)) (ra (T := b) (by omega) (by omega) rfl) ?_
          refine i_221_113 (z_eq (a := S 154 ((b).toNat)) ⟨by omega, by omega⟩ fun c51 => absurd c51 (by omega)) (z_ne (a := S 154 ((b).toNat)) ⟨by omega, by omega⟩ fun c51 => ?_)
          refine i_221_116 (x := 128) rfl ?_
          refine i_221_117 (v := Value.ref 154) hR.c128 rfl ?_
          refine i_221_120 (x := Int32.ofInt c) rfl ?_
          refine i_221_122 (v := Value.int (Int32.ofInt (S 154 ((c).toNat)))) (hR.row a154) (ix0 (T := c) (by omega) (by omega)) (ix1 (T := c) (by omega) (by omega) (by omega)) (ra (T := c) (by omega) (by omega) rfl) ?_
          refine i_221_123 (z_ne (a := S 154 ((c).toNat)) ⟨by omega, by omega⟩ fun c52 => ?_) (z_eq (a := S 154 ((c).toNat)) ⟨by omega, by omega⟩ fun c52 => ?_)
          · refine i_221_134 (x := 1) rfl ?_
            refine i_221_136 (fun c => absurd c (by decide)) (fun _ => ?_)
            refine i_221_139 (x := 1) rfl ?_
            refine i_221_141 (fun _ => ?_) (fun c => absurd c (by decide))
            refine i_221_167 (x := 128) rfl ?_
            refine i_221_168 (x := Int32.ofInt r) rfl ?_
            have hobj := hR.c128
            obtain ⟨w, hrun, hR⟩ := s_invalid (d := d + 5) (r := r) hR (by omega) (by omega)
            refine i_221_169 hobj (Nat.le_of_ble_eq_true rfl) hrun ?_
            refine i_221_172 ?_
            have eo : sFus S V r.toNat a.toNat b.toNat c.toNat mode = oS 0 0 (zor (S 128 19) 8) := by clear hR hrun; unfold sFus; first | rw [if_pos (by omega)] | (rw [if_neg (by omega), if_pos (by unfold xorI; first | rw [if_pos (by omega)]; omega | rw [if_neg (by omega)]; omega | omega)]; done) | (rw [if_neg (by omega), if_neg (by unfold xorI; first | (rw [if_pos (by omega)]; omega) | (rw [if_neg (by omega)]; omega) | omega), if_pos (by omega)]; first | done | (congr 1; unfold xorI; first | exact if_pos (by omega) | exact if_neg (by omega))) | (rw [if_neg (by omega), if_neg (by omega), if_neg (by omega), if_pos (by omega)])
            rw [eo]
            exact ⟨rfl, _, _, hR, oP_flag (by omega) (by decide) nS.refl nV.refl rfl⟩
          · refine i_221_126 (x := 128) rfl ?_
            refine i_221_127 (x := Int32.ofInt r) rfl ?_
            refine i_221_128 ?_
            refine i_221_129 ?_
            have hobj := hR.c128
            obtain ⟨w, hrun, hR⟩ := s_special (d := d + 6) (r := r) (k := 0) (s := 0) hR (by omega) (by omega) (by omega)
            refine i_221_130 hobj (Nat.le_of_ble_eq_true rfl) hrun ?_
            refine i_221_133 ?_
            have eo : sFus S V r.toNat a.toNat b.toNat c.toNat mode = oS 0 0 (S 128 19) := by clear hR hrun; unfold sFus; first | rw [if_pos (by omega)] | (rw [if_neg (by omega), if_pos (by unfold xorI; first | rw [if_pos (by omega)]; omega | rw [if_neg (by omega)]; omega | omega)]; done) | (rw [if_neg (by omega), if_neg (by unfold xorI; first | (rw [if_pos (by omega)]; omega) | (rw [if_neg (by omega)]; omega) | omega), if_pos (by omega)]; first | done | (congr 1; unfold xorI; first | exact if_pos (by omega) | exact if_neg (by omega))) | (rw [if_neg (by omega), if_neg (by omega), if_neg (by omega), if_pos (by omega)])
            rw [eo]
            exact ⟨rfl, _, _, hR, oP_special (by omega) (by decide) nS.refl nV.refl rfl⟩
      · refine i_221_54 (x := 128) rfl ?_
        refine i_221_55 (v := Value.ref 154) hR.c128 rfl ?_
        refine i_221_58 (x := Int32.ofInt b) rfl ?_
        refine i_221_59 (v := Value.int (Int32.ofInt (S 154 ((b).toNat)))) (hR.row a154) (ix0 (T := b) (by omega) (by omega)) (ix1 (T := b) (by omega) (by omega) (by omega)) (ra (T := b) (by omega) (by omega) rfl) ?_
        refine i_221_60 ?_
        refine i_221_61 (b_ne (a := S 154 ((b).toNat)) (b := 1) ⟨by omega, by omega⟩ ⟨by decide, by decide⟩ fun c53 => ?_) (b_eq (a := S 154 ((b).toNat)) (b := 1) ⟨by omega, by omega⟩ ⟨by decide, by decide⟩ fun c53 => ?_)
        · refine i_221_68 ?_
          refine i_221_69 (lv2 := [(7, Value.int 0), (6, Value.int 1), (0, Value.ref 128), (1, Value.int (Int32.ofInt r)), (2, Value.int (Int32.ofInt a)), (3, Value.int (Int32.ofInt b)), (4, Value.int (Int32.ofInt c)), (5, Value.int (Int32.ofInt mode))]) rfl ?_
          refine i_221_71 (x := 128) rfl ?_
          refine i_221_72 (v := Value.ref 154) hR.c128 rfl ?_
          refine i_221_75 (x := Int32.ofInt a) rfl ?_
          refine i_221_76 (v := Value.int (Int32.ofInt (S 154 ((a).toNat)))) (hR.row a154) (ix0 (T := a) (by omega) (by omega)) (ix1 (T := a) (by omega) (by omega) (by omega)) (ra (T := a) (by omega) (by omega) rfl) ?_
          refine i_221_77 ?_
          refine i_221_78 (b_eq (a := S 154 ((a).toNat)) (b := 2) ⟨by omega, by omega⟩ ⟨by decide, by decide⟩ fun c54 => ?_) (b_ne (a := S 154 ((a).toNat)) (b := 2) ⟨by omega, by omega⟩ ⟨by decide, by decide⟩ fun c54 => ?_)
          · refine i_221_91 ?_
            refine i_221_92 ?_
            refine i_221_96 (lv2 := [(8, Value.int 1), (7, Value.int 0), (6, Value.int 1), (0, Value.ref 128), (1, Value.int (Int32.ofInt r)), (2, Value.int (Int32.ofInt a)), (3, Value.int (Int32.ofInt b)), (4, Value.int (Int32.ofInt c)), (5, Value.int (Int32.ofInt mode))]) rfl ?_
            refine i_221_98 (x := 128) rfl ?_
            refine i_221_99 (v := Value.ref 154) hR.c128 rfl ?_
            refine i_221_102 (x := Int32.ofInt a) rfl ?_
            refine i_221_103 (v := Value.int (Int32.ofInt (S 154 ((a).toNat)))) (hR.row a154) (ix0 (T := a) (by omega) (by omega)) (ix1 (T := a) (by omega) (by omega) (by omega)) (ra (T := a) (by omega) (by omega) rfl) ?_
            refine i_221_104 (z_eq (a := S 154 ((a).toNat)) ⟨by omega, by omega⟩ fun c55 => absurd c55 (by omega)) (z_ne (a := S 154 ((a).toNat)) ⟨by omega, by omega⟩ fun c55 => ?_)
            refine i_221_107 (x := 128) rfl ?_
            refine i_221_108 (v := Value.ref 154) hR.c128 rfl ?_
            refine i_221_111 (x := Int32.ofInt b) rfl ?_
            refine i_221_112 (v := Value.int (Int32.ofInt (S 154 ((b).toNat)))) (hR.row a154) (ix0 (T := b) (by omega) (by omega)) (ix1 (T := b) (by omega) (by omega) (by omega)) (ra (T := b) (by omega) (by omega) rfl) ?_
            refine i_221_113 (z_eq (a := S 154 ((b).toNat)) ⟨by omega, by omega⟩ fun c56 => ?_) (z_ne (a := S 154 ((b).toNat)) ⟨by omega, by omega⟩ fun c56 => ?_)
            · refine i_221_126 (x := 128) rfl ?_
              refine i_221_127 (x := Int32.ofInt r) rfl ?_
              refine i_221_128 ?_
              refine i_221_129 ?_
              have hobj := hR.c128
              obtain ⟨w, hrun, hR⟩ := s_special (d := d + 6) (r := r) (k := 0) (s := 0) hR (by omega) (by omega) (by omega)
              refine i_221_130 hobj (Nat.le_of_ble_eq_true rfl) hrun ?_
              refine i_221_133 ?_
              have eo : sFus S V r.toNat a.toNat b.toNat c.toNat mode = oS 0 0 (S 128 19) := by clear hR hrun; unfold sFus; first | rw [if_pos (by omega)] | (rw [if_neg (by omega), if_pos (by unfold xorI; first | rw [if_pos (by omega)]; omega | rw [if_neg (by omega)]; omega | omega)]; done) | (rw [if_neg (by omega), if_neg (by unfold xorI; first | (rw [if_pos (by omega)]; omega) | (rw [if_neg (by omega)]; omega) | omega), if_pos (by omega)]; first | done | (congr 1; unfold xorI; first | exact if_pos (by omega) | exact if_neg (by omega))) | (rw [if_neg (by omega), if_neg (by omega), if_neg (by omega), if_pos (by omega)])
              rw [eo]
              exact ⟨rfl, _, _, hR, oP_special (by omega) (by decide) nS.refl nV.refl rfl⟩
            · refine i_221_116 (x := 128) rfl ?_
              refine i_221_117 (v := Value.ref 154) hR.c128 rfl ?_
              refine i_221_120 (x := Int32.ofInt c) rfl ?_
              refine i_221_122 (v := Value.int (Int32.ofInt (S 154 ((c).toNat)))) (hR.row a154) (ix0 (T := c) (by omega) (by omega)) (ix1 (T := c) (by omega) (by omega) (by omega)) (ra (T := c) (by omega) (by omega) rfl) ?_
              refine i_221_123 (z_ne (a := S 154 ((c).toNat)) ⟨by omega, by omega⟩ fun c57 => ?_) (z_eq (a := S 154 ((c).toNat)) ⟨by omega, by omega⟩ fun c57 => ?_)
              · refine i_221_134 (x := 0) rfl ?_
                refine i_221_136 (fun _ => ?_) (fun c => absurd c (by decide))
                refine i_221_173 (x := 0) rfl ?_
                refine i_221_175 (fun _ => ?_) (fun c => absurd c (by decide))
                refine i_221_187 (x := 128) rfl ?_
                refine i_221_188 (v := Value.ref 154) hR.c128 rfl ?_
                refine i_221_191 (x := Int32.ofInt c) rfl ?_
                refine i_221_193 (v := Value.int (Int32.ofInt (S 154 ((c).toNat)))) (hR.row a154) (ix0 (T := c) (by omega) (by omega)) (ix1 (T := c) (by omega) (by omega) (by omega)) (ra (T := c) (by omega) (by omega) rfl) ?_
                refine i_221_194 ?_
                refine i_221_195 (b_ne (a := S 154 ((c).toNat)) (b := 1) ⟨by omega, by omega⟩ ⟨by decide, by decide⟩ fun c58 => ?_) (b_eq (a := S 154 ((c).toNat)) (b := 1) ⟨by omega, by omega⟩ ⟨by decide, by decide⟩ fun c58 => ?_)
                · refine i_221_212 (x := 128) rfl ?_
                  refine i_221_213 (x := Int32.ofInt a) rfl ?_
                  have hobj := hR.c128
                  obtain ⟨w, hrun, hR⟩ := s_exponent (d := d + 6) (r := a) hR (by omega) (by omega)
                  refine i_221_214 hobj (Nat.le_of_ble_eq_true rfl) hrun ?_
                  refine i_221_217 (x := 128) rfl ?_
                  refine i_221_218 (x := Int32.ofInt b) rfl ?_
                  have hobj := hR.c128
                  obtain ⟨w, hrun, hR⟩ := s_exponent (d := d + 6) (r := b) hR (by omega) (by omega)
                  refine i_221_219 hobj (Nat.le_of_ble_eq_true rfl) hrun ?_
                  refine i_221_222 (c := Int32.ofInt ((S 155 a.toNat - S 153 a.toNat) + (S 155 b.toNat - S 153 b.toNat))) (o_add (S 155 a.toNat - S 153 a.toNat) (S 155 b.toNat - S 153 b.toNat)) ?_
                  refine i_221_223 (lv2 := [(9, Value.int (Int32.ofInt ((S 155 a.toNat - S 153 a.toNat) + (S 155 b.toNat - S 153 b.toNat)))), (8, Value.int 1), (7, Value.int 0), (6, Value.int 1), (0, Value.ref 128), (1, Value.int (Int32.ofInt r)), (2, Value.int (Int32.ofInt a)), (3, Value.int (Int32.ofInt b)), (4, Value.int (Int32.ofInt c)), (5, Value.int (Int32.ofInt mode))]) rfl ?_
                  refine i_221_225 (x := 128) rfl ?_
                  refine i_221_226 (x := 1) rfl ?_
                  refine i_221_228 (fun c => absurd c (by decide)) (fun _ => ?_)
                  refine i_221_231 (x := 128) rfl ?_
                  refine i_221_232 (x := Int32.ofInt c) rfl ?_
                  have hobj := hR.c128
                  obtain ⟨w, hrun, hR⟩ := s_exponent (d := d + 6) (r := c) hR (by omega) (by omega)
                  refine i_221_234 hobj (Nat.le_of_ble_eq_true rfl) hrun ?_
                  refine i_221_237 ?_
                  have hobj := hR.c128
                  obtain ⟨w, S1, V1, hrun, hR, hS⟩ := t_open (d := d + 4) (e := S 155 c.toNat - S 153 c.toNat) hR nS.refl nV.refl
                  refine i_221_267 hobj (Nat.le_of_ble_eq_true rfl) hrun ?_
                  refine i_221_270 (x := 1) rfl ?_
                  refine i_221_272 (fun c => absurd c (by decide)) (fun _ => ?_)
                  refine i_221_275 (x := 128) rfl ?_
                  refine i_221_276 (x := 1) rfl ?_
                  have hobj := hR.c128
                  obtain ⟨w, S1, V1, hrun, hR, hS⟩ := t_addZero (d := d + 6) (sg := 1) hR hS (by omega)
                  refine i_221_278 hobj (Nat.le_of_ble_eq_true rfl) hrun ?_
                  refine i_221_281 ?_
                  refine i_221_315 (x := 128) rfl ?_
                  refine i_221_316 (v := Value.ref 154) hR.c128 rfl ?_
                  refine i_221_319 (x := Int32.ofInt c) rfl ?_
                  refine i_221_321 (v := Value.int (Int32.ofInt (S 154 ((c).toNat)))) (hR.row a154) (ix0 (T := c) (by omega) (by omega)) (ix1 (T := c) (by omega) (by omega) (by omega)) (ra (T := c) (by omega) (by omega) (hS.1.1 _ _ (by decide))) ?_
                  refine i_221_322 ?_
                  refine i_221_323 (b_ne (a := S 154 ((c).toNat)) (b := 3) ⟨by omega, by omega⟩ ⟨by decide, by decide⟩ fun c59 => ?_) (b_eq (a := S 154 ((c).toNat)) (b := 3) ⟨by omega, by omega⟩ ⟨by decide, by decide⟩ fun c59 => ?_)
                  · refine i_221_353 (x := 128) rfl ?_
                    refine i_221_354 (x := 128) rfl ?_
                    refine i_221_355 (v := Value.ref 156) hR.c128 rfl ?_
                    refine i_221_358 (x := Int32.ofInt c) rfl ?_
                    refine i_221_360z (v := Value.int (Int32.ofInt (S 156 ((c).toNat)))) (hR.row a156) (ix0 (T := c) (by omega) (by omega)) (ix1 (T := c) (by omega) (by omega) (by omega)) (ra (T := c) (by omega) (by omega) (hS.1.1 _ _ (by decide))) ?_
                    have hobj := hR.c128
                    obtain ⟨w, S1, V1, hrun, hR, hS⟩ := t_addZero (d := d + 6) (sg := S 156 ((c).toNat)) hR hS (by omega)
                    refine i_221_361 hobj (Nat.le_of_ble_eq_true rfl) hrun ?_
                    refine i_221_364 (x := 128) rfl ?_
                    refine i_221_365 (x := Int32.ofInt r) rfl ?_
                    refine i_221_366 (x := Int32.ofInt mode) rfl ?_
                    have hobj := hR.c128
                    obtain ⟨w, hrun, S2, V2, hR, hP⟩ := t_close (d := d + 2) (r := r) (mode := mode) hR hS hI (by omega) (by omega) (by refine ⟨?_, ?_, ?_⟩ <;> (repeat' split) <;> simp) (by first | omega | decide | exact Nat.le_trans (pl_b (n := 130000) (by decide) (Nat.le_trans (xbl_powle _ _) (by have := xbl_prod (V (160 + 2 * a.toNat)) (V (160 + 2 * b.toNat)); omega))) (by decide) | exact Nat.le_trans (mi_b (n := 130000) (by decide) (Nat.le_trans (xbl_powle _ _) (by have := xbl_prod (V (160 + 2 * a.toNat)) (V (160 + 2 * b.toNat)); omega))) (by decide) | exact Nat.le_trans (pl_b (n := 130001) (pl_b (n := 130000) (by decide) (Nat.le_trans (xbl_powle _ _) (by have := xbl_prod (V (160 + 2 * a.toNat)) (V (160 + 2 * b.toNat)); omega))) (Nat.le_trans (xbl_powle _ _) (by omega))) (by decide) | exact Nat.le_trans (mi_b (n := 130001) (mi_b (n := 130000) (by decide) (Nat.le_trans (xbl_powle _ _) (by have := xbl_prod (V (160 + 2 * a.toNat)) (V (160 + 2 * b.toNat)); omega))) (Nat.le_trans (xbl_powle _ _) (by omega))) (by decide)) (by first | omega | decide | exact Nat.le_trans (pl_b (n := 130000) (by decide) (Nat.le_trans (xbl_powle _ _) (by have := xbl_prod (V (160 + 2 * a.toNat)) (V (160 + 2 * b.toNat)); omega))) (by decide) | exact Nat.le_trans (mi_b (n := 130000) (by decide) (Nat.le_trans (xbl_powle _ _) (by have := xbl_prod (V (160 + 2 * a.toNat)) (V (160 + 2 * b.toNat)); omega))) (by decide) | exact Nat.le_trans (pl_b (n := 130001) (pl_b (n := 130000) (by decide) (Nat.le_trans (xbl_powle _ _) (by have := xbl_prod (V (160 + 2 * a.toNat)) (V (160 + 2 * b.toNat)); omega))) (Nat.le_trans (xbl_powle _ _) (by omega))) (by decide) | exact Nat.le_trans (mi_b (n := 130001) (mi_b (n := 130000) (by decide) (Nat.le_trans (xbl_powle _ _) (by have := xbl_prod (V (160 + 2 * a.toNat)) (V (160 + 2 * b.toNat)); omega))) (Nat.le_trans (xbl_powle _ _) (by omega))) (by decide)) (by intro _; omega)
                    refine i_221_368 hobj (Nat.le_of_ble_eq_true rfl) hrun ?_
                    refine i_221_371 ?_
                    have eo : sFus S V r.toNat a.toNat b.toNat c.toNat mode = sumS (S 153 r.toNat) (S 128 17) (S 128 18) (S 128 20) (S 128 19) mode 0 0 (S 155 c.toNat - S 153 c.toNat) 1 (if (S 156 ((c).toNat) : Int) = 0 then 1 else if (1 : Int) = 0 then 1 else 0) (if (S 156 ((c).toNat) : Int) = 0 then if (1 : Int) = 0 then 0 else 1 else 1) := by clear hR hrun hP; first | (rw [sFus_m (s := 0) (k := 3) (by omega) (by omega) (by omega) (if_pos (by omega)) (if_neg (by omega))]; rw [show S 154 c.toNat = 3 by omega]; exact sum2_33) | (rw [sFus_m (s := 0) (k := 3) (by omega) (by omega) (by omega) (if_pos (by omega)) (if_neg (by omega))]; exact sum2_3z (by omega)) | (rw [sFus_m (s := 0) (k := 2) (by omega) (by omega) (by omega) (if_pos (by omega)) (if_pos (by omega))]; rw [show S 154 c.toNat = 3 by omega]; exact sum2_z3 (by decide)) | (rw [sFus_m (s := 0) (k := 2) (by omega) (by omega) (by omega) (if_pos (by omega)) (if_pos (by omega))]; exact sum2_zz (by decide) (by omega)) | (rw [sFus_m (s := 1) (k := 3) (by omega) (by omega) (by omega) (if_neg (by omega)) (if_neg (by omega))]; rw [show S 154 c.toNat = 3 by omega]; exact sum2_33) | (rw [sFus_m (s := 1) (k := 3) (by omega) (by omega) (by omega) (if_neg (by omega)) (if_neg (by omega))]; exact sum2_3z (by omega)) | (rw [sFus_m (s := 1) (k := 2) (by omega) (by omega) (by omega) (if_neg (by omega)) (if_pos (by omega))]; rw [show S 154 c.toNat = 3 by omega]; exact sum2_z3 (by decide)) | (rw [sFus_m (s := 1) (k := 2) (by omega) (by omega) (by omega) (if_neg (by omega)) (if_pos (by omega))]; exact sum2_zz (by decide) (by omega))
                    rw [eo]
                    exact ⟨rfl, _, _, hR, hP⟩
                  · refine i_221_326 (x := 128) rfl ?_
                    refine i_221_327 (x := 128) rfl ?_
                    refine i_221_328 (v := Value.ref 157) hR.c128 rfl ?_
                    refine i_221_331 (x := Int32.ofInt c) rfl ?_
                    obtain ⟨gp, hgp, hgr⟩ := hR.part (j := (c).toNat) (by omega)
                    refine i_221_333 (v := Value.ref (160 + 2 * c.toNat)) hgp (ix0 (by omega) (by omega)) (ix1 (by omega) (by omega) (by omega)) (by rw [ixn (by omega) (by omega)]; exact hgr) ?_
                    refine i_221_334 (x := 128) rfl ?_
                    refine i_221_335 (x := Int32.ofInt c) rfl ?_
                    have hobj := hR.c128
                    obtain ⟨w, hrun, hR⟩ := s_exponent (d := d + 6) (r := c) hR (by omega) (by omega)
                    rw [hS.1.1 155 _ (by decide), hS.1.1 153 _ (by decide)] at hrun
                    refine i_221_337 hobj (Nat.le_of_ble_eq_true rfl) hrun ?_
                    refine i_221_340 (x := 128) rfl ?_
                    refine i_221_341 (v := Value.ref 156) hR.c128 rfl ?_
                    refine i_221_344 (x := Int32.ofInt c) rfl ?_
                    refine i_221_346z (v := Value.int (Int32.ofInt (S 156 ((c).toNat)))) (hR.row a156) (ix0 (T := c) (by omega) (by omega)) (ix1 (T := c) (by omega) (by omega) (by omega)) (ra (T := c) (by omega) (by omega) (hS.1.1 _ _ (by decide))) ?_
                    have hobj := hR.c128
                    obtain ⟨w, S1, V1, hrun, hR, hS⟩ := t_addTo (d := d + 4) (h := 160 + 2 * c.toNat) (m := V (160 + 2 * c.toNat)) (e := S 155 c.toNat - S 153 c.toNat) (sg := S 156 ((c).toNat)) hR hS (iNp (r := c) (by omega) (by omega)) ((hS.2.1 _ (by omega))) (by omega) (by omega) (by omega) (by have := xbl_prod (V (160 + 2 * a.toNat)) (V (160 + 2 * b.toNat)); omega) (by first | omega | decide | exact Nat.le_trans (pl_b (n := 130000) (by decide) (Nat.le_trans (xbl_powle _ _) (by have := xbl_prod (V (160 + 2 * a.toNat)) (V (160 + 2 * b.toNat)); omega))) (by decide) | exact Nat.le_trans (mi_b (n := 130000) (by decide) (Nat.le_trans (xbl_powle _ _) (by have := xbl_prod (V (160 + 2 * a.toNat)) (V (160 + 2 * b.toNat)); omega))) (by decide) | exact Nat.le_trans (pl_b (n := 130001) (pl_b (n := 130000) (by decide) (Nat.le_trans (xbl_powle _ _) (by have := xbl_prod (V (160 + 2 * a.toNat)) (V (160 + 2 * b.toNat)); omega))) (Nat.le_trans (xbl_powle _ _) (by omega))) (by decide) | exact Nat.le_trans (mi_b (n := 130001) (mi_b (n := 130000) (by decide) (Nat.le_trans (xbl_powle _ _) (by have := xbl_prod (V (160 + 2 * a.toNat)) (V (160 + 2 * b.toNat)); omega))) (Nat.le_trans (xbl_powle _ _) (by omega))) (by decide)) (by first | omega | decide | exact Nat.le_trans (pl_b (n := 130000) (by decide) (Nat.le_trans (xbl_powle _ _) (by have := xbl_prod (V (160 + 2 * a.toNat)) (V (160 + 2 * b.toNat)); omega))) (by decide) | exact Nat.le_trans (mi_b (n := 130000) (by decide) (Nat.le_trans (xbl_powle _ _) (by have := xbl_prod (V (160 + 2 * a.toNat)) (V (160 + 2 * b.toNat)); omega))) (by decide) | exact Nat.le_trans (pl_b (n := 130001) (pl_b (n := 130000) (by decide) (Nat.le_trans (xbl_powle _ _) (by have := xbl_prod (V (160 + 2 * a.toNat)) (V (160 + 2 * b.toNat)); omega))) (Nat.le_trans (xbl_powle _ _) (by omega))) (by decide) | exact Nat.le_trans (mi_b (n := 130001) (mi_b (n := 130000) (by decide) (Nat.le_trans (xbl_powle _ _) (by have := xbl_prod (V (160 + 2 * a.toNat)) (V (160 + 2 * b.toNat)); omega))) (Nat.le_trans (xbl_powle _ _) (by omega))) (by decide))
                    refine i_221_347 hobj (Nat.le_of_ble_eq_true rfl) hrun ?_
                    refine i_221_350 ?_
                    refine i_221_364 (x := 128) rfl ?_
                    refine i_221_365 (x := Int32.ofInt r) rfl ?_
                    refine i_221_366 (x := Int32.ofInt mode) rfl ?_
                    have hobj := hR.c128
                    obtain ⟨w, hrun, S2, V2, hR, hP⟩ := t_close (d := d + 2) (r := r) (mode := mode) hR hS hI (by omega) (by omega) (by refine ⟨?_, ?_, ?_⟩ <;> (repeat' split) <;> simp) (by first | omega | decide | exact Nat.le_trans (pl_b (n := 130000) (by decide) (Nat.le_trans (xbl_powle _ _) (by have := xbl_prod (V (160 + 2 * a.toNat)) (V (160 + 2 * b.toNat)); omega))) (by decide) | exact Nat.le_trans (mi_b (n := 130000) (by decide) (Nat.le_trans (xbl_powle _ _) (by have := xbl_prod (V (160 + 2 * a.toNat)) (V (160 + 2 * b.toNat)); omega))) (by decide) | exact Nat.le_trans (pl_b (n := 130001) (pl_b (n := 130000) (by decide) (Nat.le_trans (xbl_powle _ _) (by have := xbl_prod (V (160 + 2 * a.toNat)) (V (160 + 2 * b.toNat)); omega))) (Nat.le_trans (xbl_powle _ _) (by omega))) (by decide) | exact Nat.le_trans (mi_b (n := 130001) (mi_b (n := 130000) (by decide) (Nat.le_trans (xbl_powle _ _) (by have := xbl_prod (V (160 + 2 * a.toNat)) (V (160 + 2 * b.toNat)); omega))) (Nat.le_trans (xbl_powle _ _) (by omega))) (by decide)) (by first | omega | decide | exact Nat.le_trans (pl_b (n := 130000) (by decide) (Nat.le_trans (xbl_powle _ _) (by have := xbl_prod (V (160 + 2 * a.toNat)) (V (160 + 2 * b.toNat)); omega))) (by decide) | exact Nat.le_trans (mi_b (n := 130000) (by decide) (Nat.le_trans (xbl_powle _ _) (by have := xbl_prod (V (160 + 2 * a.toNat)) (V (160 + 2 * b.toNat)); omega))) (by decide) | exact Nat.le_trans (pl_b (n := 130001) (pl_b (n := 130000) (by decide) (Nat.le_trans (xbl_powle _ _) (by have := xbl_prod (V (160 + 2 * a.toNat)) (V (160 + 2 * b.toNat)); omega))) (Nat.le_trans (xbl_powle _ _) (by omega))) (by decide) | exact Nat.le_trans (mi_b (n := 130001) (mi_b (n := 130000) (by decide) (Nat.le_trans (xbl_powle _ _) (by have := xbl_prod (V (160 + 2 * a.toNat)) (V (160 + 2 * b.toNat)); omega))) (Nat.le_trans (xbl_powle _ _) (by omega))) (by decide)) (by intro _; omega)
                    refine i_221_368 hobj (Nat.le_of_ble_eq_true rfl) hrun ?_
                    refine i_221_371 ?_
                    have eo : sFus S V r.toNat a.toNat b.toNat c.toNat mode = sumS (S 153 r.toNat) (S 128 17) (S 128 18) (S 128 20) (S 128 19) mode (0 + if (S 156 ((c).toNat) : Int) = 0 then (V (160 + 2 * c.toNat)) * 2 ^ ((S 155 c.toNat - S 153 c.toNat) - (S 155 c.toNat - S 153 c.toNat)).toNat else 0) (0 + if (S 156 ((c).toNat) : Int) = 0 then 0 else (V (160 + 2 * c.toNat)) * 2 ^ ((S 155 c.toNat - S 153 c.toNat) - (S 155 c.toNat - S 153 c.toNat)).toNat) (S 155 c.toNat - S 153 c.toNat) 0 (if (1 : Int) = 0 then 1 else 0) (if (1 : Int) = 0 then 0 else 1) := by clear hR hrun hP; first | (rw [sFus_m (s := 0) (k := 3) (by omega) (by omega) (by omega) (if_pos (by omega)) (if_neg (by omega))]; rw [show S 154 c.toNat = 3 by omega]; exact sum2_33) | (rw [sFus_m (s := 0) (k := 3) (by omega) (by omega) (by omega) (if_pos (by omega)) (if_neg (by omega))]; exact sum2_3z (by omega)) | (rw [sFus_m (s := 0) (k := 2) (by omega) (by omega) (by omega) (if_pos (by omega)) (if_pos (by omega))]; rw [show S 154 c.toNat = 3 by omega]; exact sum2_z3 (by decide)) | (rw [sFus_m (s := 0) (k := 2) (by omega) (by omega) (by omega) (if_pos (by omega)) (if_pos (by omega))]; exact sum2_zz (by decide) (by omega)) | (rw [sFus_m (s := 1) (k := 3) (by omega) (by omega) (by omega) (if_neg (by omega)) (if_neg (by omega))]; rw [show S 154 c.toNat = 3 by omega]; exact sum2_33) | (rw [sFus_m (s := 1) (k := 3) (by omega) (by omega) (by omega) (if_neg (by omega)) (if_neg (by omega))]; exact sum2_3z (by omega)) | (rw [sFus_m (s := 1) (k := 2) (by omega) (by omega) (by omega) (if_neg (by omega)) (if_pos (by omega))]; rw [show S 154 c.toNat = 3 by omega]; exact sum2_z3 (by decide)) | (rw [sFus_m (s := 1) (k := 2) (by omega) (by omega) (by omega) (if_neg (by omega)) (if_pos (by omega))]; exact sum2_zz (by decide) (by omega))
                    rw [eo]
                    exact ⟨rfl, _, _, hR, hP⟩
                · refine i_221_198 (x := 128) rfl ?_
                  refine i_221_199 (x := Int32.ofInt r) rfl ?_
                  refine i_221_200 ?_
                  refine i_221_201 (x := 128) rfl ?_
                  refine i_221_202 (v := Value.ref 156) hR.c128 rfl ?_
                  refine i_221_205 (x := Int32.ofInt c) rfl ?_
                  refine i_221_207z (v := Value.int (Int32.ofInt (S 156 ((c).toNat)))) (hR.row a156) (ix0 (T := c) (by omega) (by omega)) (ix1 (T := c) (by omega) (by omega) (by omega)) (ra (T := c) (by omega) (by omega) rfl) ?_
                  have hobj := hR.c128
                  obtain ⟨w, hrun, hR⟩ := s_special (d := d + 6) (r := r) (k := 1) (s := S 156 ((c).toNat)) hR (by omega) (by omega) (by omega)
                  refine i_221_208 hobj (Nat.le_of_ble_eq_true rfl) hrun ?_
                  refine i_221_211 ?_
                  have eo : sFus S V r.toNat a.toNat b.toNat c.toNat mode = oS 1 (S 156 ((c).toNat)) (S 128 19) := by clear hR hrun; unfold sFus; first | rw [if_pos (by omega)] | (rw [if_neg (by omega), if_pos (by unfold xorI; first | rw [if_pos (by omega)]; omega | rw [if_neg (by omega)]; omega | omega)]; done) | (rw [if_neg (by omega), if_neg (by unfold xorI; first | (rw [if_pos (by omega)]; omega) | (rw [if_neg (by omega)]; omega) | omega), if_pos (by omega)]; first | done | (congr 1; unfold xorI; first | exact if_pos (by omega) | exact if_neg (by omega))) | (rw [if_neg (by omega), if_neg (by omega), if_neg (by omega), if_pos (by omega)])
                  rw [eo]
                  exact ⟨rfl, _, _, hR, oP_special (by omega) (by decide) nS.refl nV.refl rfl⟩
              · refine i_221_126 (x := 128) rfl ?_
                refine i_221_127 (x := Int32.ofInt r) rfl ?_
                refine i_221_128 ?_
                refine i_221_129 ?_
                have hobj := hR.c128
                obtain ⟨w, hrun, hR⟩ := s_special (d := d + 6) (r := r) (k := 0) (s := 0) hR (by omega) (by omega) (by omega)
                refine i_221_130 hobj (Nat.le_of_ble_eq_true rfl) hrun ?_
                refine i_221_133 ?_
                have eo : sFus S V r.toNat a.toNat b.toNat c.toNat mode = oS 0 0 (S 128 19) := by clear hR hrun; unfold sFus; first | rw [if_pos (by omega)] | (rw [if_neg (by omega), if_pos (by unfold xorI; first | rw [if_pos (by omega)]; omega | rw [if_neg (by omega)]; omega | omega)]; done) | (rw [if_neg (by omega), if_neg (by unfold xorI; first | (rw [if_pos (by omega)]; omega) | (rw [if_neg (by omega)]; omega) | omega), if_pos (by omega)]; first | done | (congr 1; unfold xorI; first | exact if_pos (by omega) | exact if_neg (by omega))) | (rw [if_neg (by omega), if_neg (by omega), if_neg (by omega), if_pos (by omega)])
                rw [eo]
                exact ⟨rfl, _, _, hR, oP_special (by omega) (by decide) nS.refl nV.refl rfl⟩
          · refine i_221_81 (x := 128) rfl ?_
            refine i_221_82 (v := Value.ref 154) hR.c128 rfl ?_
            refine i_221_85 (x := Int32.ofInt b) rfl ?_
            refine i_221_86 (v := Value.int (Int32.ofInt (S 154 ((b).toNat)))) (hR.row a154) (ix0 (T := b) (by omega) (by omega)) (ix1 (T := b) (by omega) (by omega) (by omega)) (ra (T := b) (by omega) (by omega) rfl) ?_
            refine i_221_87 ?_
            refine i_221_88 (b_ne (a := S 154 ((b).toNat)) (b := 2) ⟨by omega, by omega⟩ ⟨by decide, by decide⟩ fun c60 => ?_) (b_eq (a := S 154 ((b).toNat)) (b := 2) ⟨by omega, by omega⟩ ⟨by decide, by decide⟩ fun c60 => ?_)
            · refine i_221_95 ?_
              refine i_221_96 (lv2 := [(8, Value.int 0), (7, Value.int 0), (6, Value.int 1), (0, Value.ref 128), (1, Value.int (Int32.ofInt r)), (2, Value.int (Int32.ofInt a)), (3, Value.int (Int32.ofInt b)), (4, Value.int (Int32.ofInt c)), (5, Value.int (Int32.ofInt mode))]) rfl ?_
              refine i_221_98 (x := 128) rfl ?_
              refine i_221_99 (v := Value.ref 154) hR.c128 rfl ?_
              refine i_221_102 (x := Int32.ofInt a) rfl ?_
              refine i_221_103 (v := Value.int (Int32.ofInt (S 154 ((a).toNat)))) (hR.row a154) (ix0 (T := a) (by omega) (by omega)) (ix1 (T := a) (by omega) (by omega) (by omega)) (ra (T := a) (by omega) (by omega) rfl) ?_
              refine i_221_104 (z_eq (a := S 154 ((a).toNat)) ⟨by omega, by omega⟩ fun c61 => ?_) (z_ne (a := S 154 ((a).toNat)) ⟨by omega, by omega⟩ fun c61 => ?_)
              · refine i_221_126 (x := 128) rfl ?_
                refine i_221_127 (x := Int32.ofInt r) rfl ?_
                refine i_221_128 ?_
                refine i_221_129 ?_
                have hobj := hR.c128
                obtain ⟨w, hrun, hR⟩ := s_special (d := d + 6) (r := r) (k := 0) (s := 0) hR (by omega) (by omega) (by omega)
                refine i_221_130 hobj (Nat.le_of_ble_eq_true rfl) hrun ?_
                refine i_221_133 ?_
                have eo : sFus S V r.toNat a.toNat b.toNat c.toNat mode = oS 0 0 (S 128 19) := by clear hR hrun; unfold sFus; first | rw [if_pos (by omega)] | (rw [if_neg (by omega), if_pos (by unfold xorI; first | rw [if_pos (by omega)]; omega | rw [if_neg (by omega)]; omega | omega)]; done) | (rw [if_neg (by omega), if_neg (by unfold xorI; first | (rw [if_pos (by omega)]; omega) | (rw [if_neg (by omega)]; omega) | omega), if_pos (by omega)]; first | done | (congr 1; unfold xorI; first | exact if_pos (by omega) | exact if_neg (by omega))) | (rw [if_neg (by omega), if_neg (by omega), if_neg (by omega), if_pos (by omega)])
                rw [eo]
                exact ⟨rfl, _, _, hR, oP_special (by omega) (by decide) nS.refl nV.refl rfl⟩
              · refine i_221_107 (x := 128) rfl ?_
                refine i_221_108 (v := Value.ref 154) hR.c128 rfl ?_
                refine i_221_111 (x := Int32.ofInt b) rfl ?_
                refine i_221_112 (v := Value.int (Int32.ofInt (S 154 ((b).toNat)))) (hR.row a154) (ix0 (T := b) (by omega) (by omega)) (ix1 (T := b) (by omega) (by omega) (by omega)) (ra (T := b) (by omega) (by omega) rfl) ?_
                refine i_221_113 (z_eq (a := S 154 ((b).toNat)) ⟨by omega, by omega⟩ fun c62 => ?_) (z_ne (a := S 154 ((b).toNat)) ⟨by omega, by omega⟩ fun c62 => ?_)
                · refine i_221_126 (x := 128) rfl ?_
                  refine i_221_127 (x := Int32.ofInt r) rfl ?_
                  refine i_221_128 ?_
                  refine i_221_129 ?_
                  have hobj := hR.c128
                  obtain ⟨w, hrun, hR⟩ := s_special (d := d + 6) (r := r) (k := 0) (s := 0) hR (by omega) (by omega) (by omega)
                  refine i_221_130 hobj (Nat.le_of_ble_eq_true rfl) hrun ?_
                  refine i_221_133 ?_
                  have eo : sFus S V r.toNat a.toNat b.toNat c.toNat mode = oS 0 0 (S 128 19) := by clear hR hrun; unfold sFus; first | rw [if_pos (by omega)] | (rw [if_neg (by omega), if_pos (by unfold xorI; first | rw [if_pos (by omega)]; omega | rw [if_neg (by omega)]; omega | omega)]; done) | (rw [if_neg (by omega), if_neg (by unfold xorI; first | (rw [if_pos (by omega)]; omega) | (rw [if_neg (by omega)]; omega) | omega), if_pos (by omega)]; first | done | (congr 1; unfold xorI; first | exact if_pos (by omega) | exact if_neg (by omega))) | (rw [if_neg (by omega), if_neg (by omega), if_neg (by omega), if_pos (by omega)])
                  rw [eo]
                  exact ⟨rfl, _, _, hR, oP_special (by omega) (by decide) nS.refl nV.refl rfl⟩
                · refine i_221_116 (x := 128) rfl ?_
                  refine i_221_117 (v := Value.ref 154) hR.c128 rfl ?_
                  refine i_221_120 (x := Int32.ofInt c) rfl ?_
                  refine i_221_122 (v := Value.int (Int32.ofInt (S 154 ((c).toNat)))) (hR.row a154) (ix0 (T := c) (by omega) (by omega)) (ix1 (T := c) (by omega) (by omega) (by omega)) (ra (T := c) (by omega) (by omega) rfl) ?_
                  refine i_221_123 (z_ne (a := S 154 ((c).toNat)) ⟨by omega, by omega⟩ fun c63 => ?_) (z_eq (a := S 154 ((c).toNat)) ⟨by omega, by omega⟩ fun c63 => ?_)
                  · refine i_221_134 (x := 0) rfl ?_
                    refine i_221_136 (fun _ => ?_) (fun c => absurd c (by decide))
                    refine i_221_173 (x := 0) rfl ?_
                    refine i_221_175 (fun _ => ?_) (fun c => absurd c (by decide))
                    refine i_221_187 (x := 128) rfl ?_
                    refine i_221_188 (v := Value.ref 154) hR.c128 rfl ?_
                    refine i_221_191 (x := Int32.ofInt c) rfl ?_
                    refine i_221_193 (v := Value.int (Int32.ofInt (S 154 ((c).toNat)))) (hR.row a154) (ix0 (T := c) (by omega) (by omega)) (ix1 (T := c) (by omega) (by omega) (by omega)) (ra (T := c) (by omega) (by omega) rfl) ?_
                    refine i_221_194 ?_
                    refine i_221_195 (b_ne (a := S 154 ((c).toNat)) (b := 1) ⟨by omega, by omega⟩ ⟨by decide, by decide⟩ fun c64 => ?_) (b_eq (a := S 154 ((c).toNat)) (b := 1) ⟨by omega, by omega⟩ ⟨by decide, by decide⟩ fun c64 => ?_)
                    · refine i_221_212 (x := 128) rfl ?_
                      refine i_221_213 (x := Int32.ofInt a) rfl ?_
                      have hobj := hR.c128
                      obtain ⟨w, hrun, hR⟩ := s_exponent (d := d + 6) (r := a) hR (by omega) (by omega)
                      refine i_221_214 hobj (Nat.le_of_ble_eq_true rfl) hrun ?_
                      refine i_221_217 (x := 128) rfl ?_
                      refine i_221_218 (x := Int32.ofInt b) rfl ?_
                      have hobj := hR.c128
                      obtain ⟨w, hrun, hR⟩ := s_exponent (d := d + 6) (r := b) hR (by omega) (by omega)
                      refine i_221_219 hobj (Nat.le_of_ble_eq_true rfl) hrun ?_
                      refine i_221_222 (c := Int32.ofInt ((S 155 a.toNat - S 153 a.toNat) + (S 155 b.toNat - S 153 b.toNat))) (o_add (S 155 a.toNat - S 153 a.toNat) (S 155 b.toNat - S 153 b.toNat)) ?_
                      refine i_221_223 (lv2 := [(9, Value.int (Int32.ofInt ((S 155 a.toNat - S 153 a.toNat) + (S 155 b.toNat - S 153 b.toNat)))), (8, Value.int 0), (7, Value.int 0), (6, Value.int 1), (0, Value.ref 128), (1, Value.int (Int32.ofInt r)), (2, Value.int (Int32.ofInt a)), (3, Value.int (Int32.ofInt b)), (4, Value.int (Int32.ofInt c)), (5, Value.int (Int32.ofInt mode))]) rfl ?_
                      refine i_221_225 (x := 128) rfl ?_
                      refine i_221_226 (x := 0) rfl ?_
                      refine i_221_228 (fun _ => ?_) (fun c => absurd c (by decide))
                      refine i_221_240 (x := 128) rfl ?_
                      refine i_221_241 (v := Value.ref 154) hR.c128 rfl ?_
                      refine i_221_244 (x := Int32.ofInt c) rfl ?_
                      refine i_221_246 (v := Value.int (Int32.ofInt (S 154 ((c).toNat)))) (hR.row a154) (ix0 (T := c) (by omega) (by omega)) (ix1 (T := c) (by omega) (by omega) (by omega)) (ra (T := c) (by omega) (by omega) rfl) ?_
                      refine i_221_247 ?_
                      refine i_221_248 (b_ne (a := S 154 ((c).toNat)) (b := 3) ⟨by omega, by omega⟩ ⟨by decide, by decide⟩ fun c65 => ?_) (b_eq (a := S 154 ((c).toNat)) (b := 3) ⟨by omega, by omega⟩ ⟨by decide, by decide⟩ fun c65 => ?_)
                      · refine i_221_265 (x := Int32.ofInt ((S 155 a.toNat - S 153 a.toNat) + (S 155 b.toNat - S 153 b.toNat))) rfl ?_
                        have hobj := hR.c128
                        obtain ⟨w, S1, V1, hrun, hR, hS⟩ := t_open (d := d + 4) (e := (S 155 a.toNat - S 153 a.toNat) + (S 155 b.toNat - S 153 b.toNat)) hR nS.refl nV.refl
                        refine i_221_267 hobj (Nat.le_of_ble_eq_true rfl) hrun ?_
                        refine i_221_270 (x := 0) rfl ?_
                        refine i_221_272 (fun _ => ?_) (fun c => absurd c (by decide))
                        refine i_221_284 (x := 128) rfl ?_
                        refine i_221_285 (v := Value.ref 133) hR.c128 rfl ?_
                        refine i_221_288 (x := 128) rfl ?_
                        refine i_221_289 (v := Value.ref 157) hR.c128 rfl ?_
                        refine i_221_292 (x := Int32.ofInt a) rfl ?_
                        obtain ⟨gp, hgp, hgr⟩ := hR.part (j := (a).toNat) (by omega)
                        refine i_221_293 (v := Value.ref (160 + 2 * a.toNat)) hgp (ix0 (by omega) (by omega)) (ix1 (by omega) (by omega) (by omega)) (by rw [ixn (by omega) (by omega)]; exact hgr) ?_
                        refine i_221_294 (x := 128) rfl ?_
                        refine i_221_295 (v := Value.ref 157) hR.c128 rfl ?_
                        refine i_221_298 (x := Int32.ofInt b) rfl ?_
                        obtain ⟨gp, hgp, hgr⟩ := hR.part (j := (b).toNat) (by omega)
                        refine i_221_299 (v := Value.ref (160 + 2 * b.toNat)) hgp (ix0 (by omega) (by omega)) (ix1 (by omega) (by omega) (by omega)) (by rw [ixn (by omega) (by omega)]; exact hgr) ?_
                        obtain ⟨fs, hobj⟩ := hR.obj (h := 133) (iNw (h := 133) (by decide) (by decide) (by decide))
                        obtain ⟨w, hrun, hR⟩ := r_prod (d := d + 5) (v2 := V (160 + 2 * a.toNat)) (v3 := V (160 + 2 * b.toNat)) (c := 4700) hR (iNw (h := 133) (by decide) (by decide) (by decide)) (iNp (r := a) (by omega) (by omega)) (iNp (r := b) (by omega) (by omega)) (by omega) (by omega) ((hS.2.1 _ (by omega))) ((hS.2.1 _ (by omega))) rfl (by omega)
                        refine i_221_300 hobj (Nat.le_of_ble_eq_true rfl) hrun ?_
                        refine i_221_303 (x := 128) rfl ?_
                        refine i_221_304 (x := 128) rfl ?_
                        refine i_221_305 (v := Value.ref 133) hR.c128 rfl ?_
                        refine i_221_308 (x := Int32.ofInt ((S 155 a.toNat - S 153 a.toNat) + (S 155 b.toNat - S 153 b.toNat))) rfl ?_
                        refine i_221_310 (x := 1) rfl ?_
                        have hobj := hR.c128
                        obtain ⟨w, S1, V1, hrun, hR, hS⟩ := t_addTo (d := d + 4) (h := 133) (m := (V (160 + 2 * a.toNat)) * (V (160 + 2 * b.toNat))) (e := (S 155 a.toNat - S 153 a.toNat) + (S 155 b.toNat - S 153 b.toNat)) (sg := 1) hR (sS.up hS (by decide) (by decide) (by decide)) (iNw (h := 133) (by decide) (by decide) (by decide)) (uv_s) (by omega) (by omega) (by omega) (by have := xbl_prod (V (160 + 2 * a.toNat)) (V (160 + 2 * b.toNat)); omega) (by first | omega | decide | exact Nat.le_trans (pl_b (n := 130000) (by decide) (Nat.le_trans (xbl_powle _ _) (by have := xbl_prod (V (160 + 2 * a.toNat)) (V (160 + 2 * b.toNat)); omega))) (by decide) | exact Nat.le_trans (mi_b (n := 130000) (by decide) (Nat.le_trans (xbl_powle _ _) (by have := xbl_prod (V (160 + 2 * a.toNat)) (V (160 + 2 * b.toNat)); omega))) (by decide) | exact Nat.le_trans (pl_b (n := 130001) (pl_b (n := 130000) (by decide) (Nat.le_trans (xbl_powle _ _) (by have := xbl_prod (V (160 + 2 * a.toNat)) (V (160 + 2 * b.toNat)); omega))) (Nat.le_trans (xbl_powle _ _) (by omega))) (by decide) | exact Nat.le_trans (mi_b (n := 130001) (mi_b (n := 130000) (by decide) (Nat.le_trans (xbl_powle _ _) (by have := xbl_prod (V (160 + 2 * a.toNat)) (V (160 + 2 * b.toNat)); omega))) (Nat.le_trans (xbl_powle _ _) (by omega))) (by decide)) (by first | omega | decide | exact Nat.le_trans (pl_b (n := 130000) (by decide) (Nat.le_trans (xbl_powle _ _) (by have := xbl_prod (V (160 + 2 * a.toNat)) (V (160 + 2 * b.toNat)); omega))) (by decide) | exact Nat.le_trans (mi_b (n := 130000) (by decide) (Nat.le_trans (xbl_powle _ _) (by have := xbl_prod (V (160 + 2 * a.toNat)) (V (160 + 2 * b.toNat)); omega))) (by decide) | exact Nat.le_trans (pl_b (n := 130001) (pl_b (n := 130000) (by decide) (Nat.le_trans (xbl_powle _ _) (by have := xbl_prod (V (160 + 2 * a.toNat)) (V (160 + 2 * b.toNat)); omega))) (Nat.le_trans (xbl_powle _ _) (by omega))) (by decide) | exact Nat.le_trans (mi_b (n := 130001) (mi_b (n := 130000) (by decide) (Nat.le_trans (xbl_powle _ _) (by have := xbl_prod (V (160 + 2 * a.toNat)) (V (160 + 2 * b.toNat)); omega))) (Nat.le_trans (xbl_powle _ _) (by omega))) (by decide))
                        refine i_221_312 hobj (Nat.le_of_ble_eq_true rfl) hrun ?_
                        refine i_221_315 (x := 128) rfl ?_
                        refine i_221_316 (v := Value.ref 154) hR.c128 rfl ?_
                        refine i_221_319 (x := Int32.ofInt c) rfl ?_
                        refine i_221_321 (v := Value.int (Int32.ofInt (S 154 ((c).toNat)))) (hR.row a154) (ix0 (T := c) (by omega) (by omega)) (ix1 (T := c) (by omega) (by omega) (by omega)) (ra (T := c) (by omega) (by omega) (hS.1.1 _ _ (by decide))) ?_
                        refine i_221_322 ?_
                        refine i_221_323 (b_ne (a := S 154 ((c).toNat)) (b := 3) ⟨by omega, by omega⟩ ⟨by decide, by decide⟩ fun c66 => ?_) (b_eq (a := S 154 ((c).toNat)) (b := 3) ⟨by omega, by omega⟩ ⟨by decide, by decide⟩ fun c66 => absurd c66 (by omega))
                        refine i_221_353 (x := 128) rfl ?_
                        refine i_221_354 (x := 128) rfl ?_
                        refine i_221_355 (v := Value.ref 156) hR.c128 rfl ?_
                        refine i_221_358 (x := Int32.ofInt c) rfl ?_
                        refine i_221_360z (v := Value.int (Int32.ofInt (S 156 ((c).toNat)))) (hR.row a156) (ix0 (T := c) (by omega) (by omega)) (ix1 (T := c) (by omega) (by omega) (by omega)) (ra (T := c) (by omega) (by omega) (hS.1.1 _ _ (by decide))) ?_
                        have hobj := hR.c128
                        obtain ⟨w, S1, V1, hrun, hR, hS⟩ := t_addZero (d := d + 6) (sg := S 156 ((c).toNat)) hR hS (by omega)
                        refine i_221_361 hobj (Nat.le_of_ble_eq_true rfl) hrun ?_
                        refine i_221_364 (x := 128) rfl ?_
                        refine i_221_365 (x := Int32.ofInt r) rfl ?_
                        refine i_221_366 (x := Int32.ofInt mode) rfl ?_
                        have hobj := hR.c128
                        obtain ⟨w, hrun, S2, V2, hR, hP⟩ := t_close (d := d + 2) (r := r) (mode := mode) hR hS hI (by omega) (by omega) (by refine ⟨?_, ?_, ?_⟩ <;> (repeat' split) <;> simp) (by first | omega | decide | exact Nat.le_trans (pl_b (n := 130000) (by decide) (Nat.le_trans (xbl_powle _ _) (by have := xbl_prod (V (160 + 2 * a.toNat)) (V (160 + 2 * b.toNat)); omega))) (by decide) | exact Nat.le_trans (mi_b (n := 130000) (by decide) (Nat.le_trans (xbl_powle _ _) (by have := xbl_prod (V (160 + 2 * a.toNat)) (V (160 + 2 * b.toNat)); omega))) (by decide) | exact Nat.le_trans (pl_b (n := 130001) (pl_b (n := 130000) (by decide) (Nat.le_trans (xbl_powle _ _) (by have := xbl_prod (V (160 + 2 * a.toNat)) (V (160 + 2 * b.toNat)); omega))) (Nat.le_trans (xbl_powle _ _) (by omega))) (by decide) | exact Nat.le_trans (mi_b (n := 130001) (mi_b (n := 130000) (by decide) (Nat.le_trans (xbl_powle _ _) (by have := xbl_prod (V (160 + 2 * a.toNat)) (V (160 + 2 * b.toNat)); omega))) (Nat.le_trans (xbl_powle _ _) (by omega))) (by decide)) (by first | omega | decide | exact Nat.le_trans (pl_b (n := 130000) (by decide) (Nat.le_trans (xbl_powle _ _) (by have := xbl_prod (V (160 + 2 * a.toNat)) (V (160 + 2 * b.toNat)); omega))) (by decide) | exact Nat.le_trans (mi_b (n := 130000) (by decide) (Nat.le_trans (xbl_powle _ _) (by have := xbl_prod (V (160 + 2 * a.toNat)) (V (160 + 2 * b.toNat)); omega))) (by decide) | exact Nat.le_trans (pl_b (n := 130001) (pl_b (n := 130000) (by decide) (Nat.le_trans (xbl_powle _ _) (by have := xbl_prod (V (160 + 2 * a.toNat)) (V (160 + 2 * b.toNat)); omega))) (Nat.le_trans (xbl_powle _ _) (by omega))) (by decide) | exact Nat.le_trans (mi_b (n := 130001) (mi_b (n := 130000) (by decide) (Nat.le_trans (xbl_powle _ _) (by have := xbl_prod (V (160 + 2 * a.toNat)) (V (160 + 2 * b.toNat)); omega))) (Nat.le_trans (xbl_powle _ _) (by omega))) (by decide)) (by intro _; omega)
                        refine i_221_368 hobj (Nat.le_of_ble_eq_true rfl) hrun ?_
                        refine i_221_371 ?_
                        have eo : sFus S V r.toNat a.toNat b.toNat c.toNat mode = sumS (S 153 r.toNat) (S 128 17) (S 128 18) (S 128 20) (S 128 19) mode (0 + if (1 : Int) = 0 then ((V (160 + 2 * a.toNat)) * (V (160 + 2 * b.toNat))) * 2 ^ (((S 155 a.toNat - S 153 a.toNat) + (S 155 b.toNat - S 153 b.toNat)) - ((S 155 a.toNat - S 153 a.toNat) + (S 155 b.toNat - S 153 b.toNat))).toNat else 0) (0 + if (1 : Int) = 0 then 0 else ((V (160 + 2 * a.toNat)) * (V (160 + 2 * b.toNat))) * 2 ^ (((S 155 a.toNat - S 153 a.toNat) + (S 155 b.toNat - S 153 b.toNat)) - ((S 155 a.toNat - S 153 a.toNat) + (S 155 b.toNat - S 153 b.toNat))).toNat) ((S 155 a.toNat - S 153 a.toNat) + (S 155 b.toNat - S 153 b.toNat)) 0 (if (S 156 ((c).toNat) : Int) = 0 then 1 else 0) (if (S 156 ((c).toNat) : Int) = 0 then 0 else 1) := by clear hR hrun hP; first | (rw [sFus_m (s := 0) (k := 3) (by omega) (by omega) (by omega) (if_pos (by omega)) (if_neg (by omega))]; rw [show S 154 c.toNat = 3 by omega]; exact sum2_33) | (rw [sFus_m (s := 0) (k := 3) (by omega) (by omega) (by omega) (if_pos (by omega)) (if_neg (by omega))]; exact sum2_3z (by omega)) | (rw [sFus_m (s := 0) (k := 2) (by omega) (by omega) (by omega) (if_pos (by omega)) (if_pos (by omega))]; rw [show S 154 c.toNat = 3 by omega]; exact sum2_z3 (by decide)) | (rw [sFus_m (s := 0) (k := 2) (by omega) (by omega) (by omega) (if_pos (by omega)) (if_pos (by omega))]; exact sum2_zz (by decide) (by omega)) | (rw [sFus_m (s := 1) (k := 3) (by omega) (by omega) (by omega) (if_neg (by omega)) (if_neg (by omega))]; rw [show S 154 c.toNat = 3 by omega]; exact sum2_33) | (rw [sFus_m (s := 1) (k := 3) (by omega) (by omega) (by omega) (if_neg (by omega)) (if_neg (by omega))]; exact sum2_3z (by omega)) | (rw [sFus_m (s := 1) (k := 2) (by omega) (by omega) (by omega) (if_neg (by omega)) (if_pos (by omega))]; rw [show S 154 c.toNat = 3 by omega]; exact sum2_z3 (by decide)) | (rw [sFus_m (s := 1) (k := 2) (by omega) (by omega) (by omega) (if_neg (by omega)) (if_pos (by omega))]; exact sum2_zz (by decide) (by omega))
                        rw [eo]
                        exact ⟨rfl, _, _, hR, hP⟩
                      · refine i_221_251 (x := Int32.ofInt ((S 155 a.toNat - S 153 a.toNat) + (S 155 b.toNat - S 153 b.toNat))) rfl ?_
                        refine i_221_253 (x := 128) rfl ?_
                        refine i_221_254 (x := Int32.ofInt c) rfl ?_
                        have hobj := hR.c128
                        obtain ⟨w, hrun, hR⟩ := s_exponent (d := d + 6) (r := c) hR (by omega) (by omega)
                        refine i_221_256 hobj (Nat.le_of_ble_eq_true rfl) hrun ?_
                        have hrun := s_min (d := d + 6) (w := w) (a := (S 155 a.toNat - S 153 a.toNat) + (S 155 b.toNat - S 153 b.toNat)) (b := S 155 c.toNat - S 153 c.toNat) ⟨by omega, by omega⟩ ⟨by omega, by omega⟩
                        refine i_221_259 (Nat.le_of_ble_eq_true rfl) hrun ?_
                        refine i_221_262 ?_
                        have hobj := hR.c128
                        obtain ⟨w, S1, V1, hrun, hR, hS⟩ := t_open (d := d + 4) (e := min ((S 155 a.toNat - S 153 a.toNat) + (S 155 b.toNat - S 153 b.toNat)) (S 155 c.toNat - S 153 c.toNat)) hR nS.refl nV.refl
                        refine i_221_267 hobj (Nat.le_of_ble_eq_true rfl) hrun ?_
                        refine i_221_270 (x := 0) rfl ?_
                        refine i_221_272 (fun _ => ?_) (fun c => absurd c (by decide))
                        refine i_221_284 (x := 128) rfl ?_
                        refine i_221_285 (v := Value.ref 133) hR.c128 rfl ?_
                        refine i_221_288 (x := 128) rfl ?_
                        refine i_221_289 (v := Value.ref 157) hR.c128 rfl ?_
                        refine i_221_292 (x := Int32.ofInt a) rfl ?_
                        obtain ⟨gp, hgp, hgr⟩ := hR.part (j := (a).toNat) (by omega)
                        refine i_221_293 (v := Value.ref (160 + 2 * a.toNat)) hgp (ix0 (by omega) (by omega)) (ix1 (by omega) (by omega) (by omega)) (by rw [ixn (by omega) (by omega)]; exact hgr) ?_
                        refine i_221_294 (x := 128) rfl ?_
                        refine i_221_295 (v := Value.ref 157) hR.c128 rfl ?_
                        refine i_221_298 (x := Int32.ofInt b) rfl ?_
                        obtain ⟨gp, hgp, hgr⟩ := hR.part (j := (b).toNat) (by omega)
                        refine i_221_299 (v := Value.ref (160 + 2 * b.toNat)) hgp (ix0 (by omega) (by omega)) (ix1 (by omega) (by omega) (by omega)) (by rw [ixn (by omega) (by omega)]; exact hgr) ?_
                        obtain ⟨fs, hobj⟩ := hR.obj (h := 133) (iNw (h := 133) (by decide) (by decide) (by decide))
                        obtain ⟨w, hrun, hR⟩ := r_prod (d := d + 5) (v2 := V (160 + 2 * a.toNat)) (v3 := V (160 + 2 * b.toNat)) (c := 4700) hR (iNw (h := 133) (by decide) (by decide) (by decide)) (iNp (r := a) (by omega) (by omega)) (iNp (r := b) (by omega) (by omega)) (by omega) (by omega) ((hS.2.1 _ (by omega))) ((hS.2.1 _ (by omega))) rfl (by omega)
                        refine i_221_300 hobj (Nat.le_of_ble_eq_true rfl) hrun ?_
                        refine i_221_303 (x := 128) rfl ?_
                        refine i_221_304 (x := 128) rfl ?_
                        refine i_221_305 (v := Value.ref 133) hR.c128 rfl ?_
                        refine i_221_308 (x := Int32.ofInt ((S 155 a.toNat - S 153 a.toNat) + (S 155 b.toNat - S 153 b.toNat))) rfl ?_
                        refine i_221_310 (x := 1) rfl ?_
                        have hobj := hR.c128
                        obtain ⟨w, S1, V1, hrun, hR, hS⟩ := t_addTo (d := d + 4) (h := 133) (m := (V (160 + 2 * a.toNat)) * (V (160 + 2 * b.toNat))) (e := (S 155 a.toNat - S 153 a.toNat) + (S 155 b.toNat - S 153 b.toNat)) (sg := 1) hR (sS.up hS (by decide) (by decide) (by decide)) (iNw (h := 133) (by decide) (by decide) (by decide)) (uv_s) (by omega) (by omega) (by omega) (by have := xbl_prod (V (160 + 2 * a.toNat)) (V (160 + 2 * b.toNat)); omega) (by first | omega | decide | exact Nat.le_trans (pl_b (n := 130000) (by decide) (Nat.le_trans (xbl_powle _ _) (by have := xbl_prod (V (160 + 2 * a.toNat)) (V (160 + 2 * b.toNat)); omega))) (by decide) | exact Nat.le_trans (mi_b (n := 130000) (by decide) (Nat.le_trans (xbl_powle _ _) (by have := xbl_prod (V (160 + 2 * a.toNat)) (V (160 + 2 * b.toNat)); omega))) (by decide) | exact Nat.le_trans (pl_b (n := 130001) (pl_b (n := 130000) (by decide) (Nat.le_trans (xbl_powle _ _) (by have := xbl_prod (V (160 + 2 * a.toNat)) (V (160 + 2 * b.toNat)); omega))) (Nat.le_trans (xbl_powle _ _) (by omega))) (by decide) | exact Nat.le_trans (mi_b (n := 130001) (mi_b (n := 130000) (by decide) (Nat.le_trans (xbl_powle _ _) (by have := xbl_prod (V (160 + 2 * a.toNat)) (V (160 + 2 * b.toNat)); omega))) (Nat.le_trans (xbl_powle _ _) (by omega))) (by decide)) (by first | omega | decide | exact Nat.le_trans (pl_b (n := 130000) (by decide) (Nat.le_trans (xbl_powle _ _) (by have := xbl_prod (V (160 + 2 * a.toNat)) (V (160 + 2 * b.toNat)); omega))) (by decide) | exact Nat.le_trans (mi_b (n := 130000) (by decide) (Nat.le_trans (xbl_powle _ _) (by have := xbl_prod (V (160 + 2 * a.toNat)) (V (160 + 2 * b.toNat)); omega))) (by decide) | exact Nat.le_trans (pl_b (n := 130001) (pl_b (n := 130000) (by decide) (Nat.le_trans (xbl_powle _ _) (by have := xbl_prod (V (160 + 2 * a.toNat)) (V (160 + 2 * b.toNat)); omega))) (Nat.le_trans (xbl_powle _ _) (by omega))) (by decide) | exact Nat.le_trans (mi_b (n := 130001) (mi_b (n := 130000) (by decide) (Nat.le_trans (xbl_powle _ _) (by have := xbl_prod (V (160 + 2 * a.toNat)) (V (160 + 2 * b.toNat)); omega))) (Nat.le_trans (xbl_powle _ _) (by omega))) (by decide))
                        refine i_221_312 hobj (Nat.le_of_ble_eq_true rfl) hrun ?_
                        refine i_221_315 (x := 128) rfl ?_
                        refine i_221_316 (v := Value.ref 154) hR.c128 rfl ?_
                        refine i_221_319 (x := Int32.ofInt c) rfl ?_
                        refine i_221_321 (v := Value.int (Int32.ofInt (S 154 ((c).toNat)))) (hR.row a154) (ix0 (T := c) (by omega) (by omega)) (ix1 (T := c) (by omega) (by omega) (by omega)) (ra (T := c) (by omega) (by omega) (hS.1.1 _ _ (by decide))) ?_
                        refine i_221_322 ?_
                        refine i_221_323 (b_ne (a := S 154 ((c).toNat)) (b := 3) ⟨by omega, by omega⟩ ⟨by decide, by decide⟩ fun c67 => absurd c67 (by omega)) (b_eq (a := S 154 ((c).toNat)) (b := 3) ⟨by omega, by omega⟩ ⟨by decide, by decide⟩ fun c67 => ?_)
                        refine i_221_326 (x := 128) rfl ?_
                        refine i_221_327 (x := 128) rfl ?_
                        refine i_221_328 (v := Value.ref 157) hR.c128 rfl ?_
                        refine i_221_331 (x := Int32.ofInt c) rfl ?_
                        obtain ⟨gp, hgp, hgr⟩ := hR.part (j := (c).toNat) (by omega)
                        refine i_221_333 (v := Value.ref (160 + 2 * c.toNat)) hgp (ix0 (by omega) (by omega)) (ix1 (by omega) (by omega) (by omega)) (by rw [ixn (by omega) (by omega)]; exact hgr) ?_
                        refine i_221_334 (x := 128) rfl ?_
                        refine i_221_335 (x := Int32.ofInt c) rfl ?_
                        have hobj := hR.c128
                        obtain ⟨w, hrun, hR⟩ := s_exponent (d := d + 6) (r := c) hR (by omega) (by omega)
                        rw [hS.1.1 155 _ (by decide), hS.1.1 153 _ (by decide)] at hrun
                        refine i_221_337 hobj (Nat.le_of_ble_eq_true rfl) hrun ?_
                        refine i_221_340 (x := 128) rfl ?_
                        refine i_221_341 (v := Value.ref 156) hR.c128 rfl ?_
                        refine i_221_344 (x := Int32.ofInt c) rfl ?_
                        refine i_221_346z (v := Value.int (Int32.ofInt (S 156 ((c).toNat)))) (hR.row a156) (ix0 (T := c) (by omega) (by omega)) (ix1 (T := c) (by omega) (by omega) (by omega)) (ra (T := c) (by omega) (by omega) (hS.1.1 _ _ (by decide))) ?_
                        have hobj := hR.c128
                        obtain ⟨w, S1, V1, hrun, hR, hS⟩ := t_addTo (d := d + 4) (h := 160 + 2 * c.toNat) (m := V (160 + 2 * c.toNat)) (e := S 155 c.toNat - S 153 c.toNat) (sg := S 156 ((c).toNat)) hR hS (iNp (r := c) (by omega) (by omega)) ((hS.2.1 _ (by omega))) (by omega) (by omega) (by omega) (by have := xbl_prod (V (160 + 2 * a.toNat)) (V (160 + 2 * b.toNat)); omega) (by first | omega | decide | exact Nat.le_trans (pl_b (n := 130000) (by decide) (Nat.le_trans (xbl_powle _ _) (by have := xbl_prod (V (160 + 2 * a.toNat)) (V (160 + 2 * b.toNat)); omega))) (by decide) | exact Nat.le_trans (mi_b (n := 130000) (by decide) (Nat.le_trans (xbl_powle _ _) (by have := xbl_prod (V (160 + 2 * a.toNat)) (V (160 + 2 * b.toNat)); omega))) (by decide) | exact Nat.le_trans (pl_b (n := 130001) (pl_b (n := 130000) (by decide) (Nat.le_trans (xbl_powle _ _) (by have := xbl_prod (V (160 + 2 * a.toNat)) (V (160 + 2 * b.toNat)); omega))) (Nat.le_trans (xbl_powle _ _) (by omega))) (by decide) | exact Nat.le_trans (mi_b (n := 130001) (mi_b (n := 130000) (by decide) (Nat.le_trans (xbl_powle _ _) (by have := xbl_prod (V (160 + 2 * a.toNat)) (V (160 + 2 * b.toNat)); omega))) (Nat.le_trans (xbl_powle _ _) (by omega))) (by decide)) (by first | omega | decide | exact Nat.le_trans (pl_b (n := 130000) (by decide) (Nat.le_trans (xbl_powle _ _) (by have := xbl_prod (V (160 + 2 * a.toNat)) (V (160 + 2 * b.toNat)); omega))) (by decide) | exact Nat.le_trans (mi_b (n := 130000) (by decide) (Nat.le_trans (xbl_powle _ _) (by have := xbl_prod (V (160 + 2 * a.toNat)) (V (160 + 2 * b.toNat)); omega))) (by decide) | exact Nat.le_trans (pl_b (n := 130001) (pl_b (n := 130000) (by decide) (Nat.le_trans (xbl_powle _ _) (by have := xbl_prod (V (160 + 2 * a.toNat)) (V (160 + 2 * b.toNat)); omega))) (Nat.le_trans (xbl_powle _ _) (by omega))) (by decide) | exact Nat.le_trans (mi_b (n := 130001) (mi_b (n := 130000) (by decide) (Nat.le_trans (xbl_powle _ _) (by have := xbl_prod (V (160 + 2 * a.toNat)) (V (160 + 2 * b.toNat)); omega))) (Nat.le_trans (xbl_powle _ _) (by omega))) (by decide))
                        refine i_221_347 hobj (Nat.le_of_ble_eq_true rfl) hrun ?_
                        refine i_221_350 ?_
                        refine i_221_364 (x := 128) rfl ?_
                        refine i_221_365 (x := Int32.ofInt r) rfl ?_
                        refine i_221_366 (x := Int32.ofInt mode) rfl ?_
                        have hobj := hR.c128
                        obtain ⟨w, hrun, S2, V2, hR, hP⟩ := t_close (d := d + 2) (r := r) (mode := mode) hR hS hI (by omega) (by omega) (by refine ⟨?_, ?_, ?_⟩ <;> (repeat' split) <;> simp) (by first | omega | decide | exact Nat.le_trans (pl_b (n := 130000) (by decide) (Nat.le_trans (xbl_powle _ _) (by have := xbl_prod (V (160 + 2 * a.toNat)) (V (160 + 2 * b.toNat)); omega))) (by decide) | exact Nat.le_trans (mi_b (n := 130000) (by decide) (Nat.le_trans (xbl_powle _ _) (by have := xbl_prod (V (160 + 2 * a.toNat)) (V (160 + 2 * b.toNat)); omega))) (by decide) | exact Nat.le_trans (pl_b (n := 130001) (pl_b (n := 130000) (by decide) (Nat.le_trans (xbl_powle _ _) (by have := xbl_prod (V (160 + 2 * a.toNat)) (V (160 + 2 * b.toNat)); omega))) (Nat.le_trans (xbl_powle _ _) (by omega))) (by decide) | exact Nat.le_trans (mi_b (n := 130001) (mi_b (n := 130000) (by decide) (Nat.le_trans (xbl_powle _ _) (by have := xbl_prod (V (160 + 2 * a.toNat)) (V (160 + 2 * b.toNat)); omega))) (Nat.le_trans (xbl_powle _ _) (by omega))) (by decide)) (by first | omega | decide | exact Nat.le_trans (pl_b (n := 130000) (by decide) (Nat.le_trans (xbl_powle _ _) (by have := xbl_prod (V (160 + 2 * a.toNat)) (V (160 + 2 * b.toNat)); omega))) (by decide) | exact Nat.le_trans (mi_b (n := 130000) (by decide) (Nat.le_trans (xbl_powle _ _) (by have := xbl_prod (V (160 + 2 * a.toNat)) (V (160 + 2 * b.toNat)); omega))) (by decide) | exact Nat.le_trans (pl_b (n := 130001) (pl_b (n := 130000) (by decide) (Nat.le_trans (xbl_powle _ _) (by have := xbl_prod (V (160 + 2 * a.toNat)) (V (160 + 2 * b.toNat)); omega))) (Nat.le_trans (xbl_powle _ _) (by omega))) (by decide) | exact Nat.le_trans (mi_b (n := 130001) (mi_b (n := 130000) (by decide) (Nat.le_trans (xbl_powle _ _) (by have := xbl_prod (V (160 + 2 * a.toNat)) (V (160 + 2 * b.toNat)); omega))) (Nat.le_trans (xbl_powle _ _) (by omega))) (by decide)) (by intro _; omega)
                        refine i_221_368 hobj (Nat.le_of_ble_eq_true rfl) hrun ?_
                        refine i_221_371 ?_
                        have eo : sFus S V r.toNat a.toNat b.toNat c.toNat mode = sumS (S 153 r.toNat) (S 128 17) (S 128 18) (S 128 20) (S 128 19) mode ((0 + if (1 : Int) = 0 then ((V (160 + 2 * a.toNat)) * (V (160 + 2 * b.toNat))) * 2 ^ (((S 155 a.toNat - S 153 a.toNat) + (S 155 b.toNat - S 153 b.toNat)) - (min ((S 155 a.toNat - S 153 a.toNat) + (S 155 b.toNat - S 153 b.toNat)) (S 155 c.toNat - S 153 c.toNat))).toNat else 0) + if (S 156 ((c).toNat) : Int) = 0 then (V (160 + 2 * c.toNat)) * 2 ^ ((S 155 c.toNat - S 153 c.toNat) - (min ((S 155 a.toNat - S 153 a.toNat) + (S 155 b.toNat - S 153 b.toNat)) (S 155 c.toNat - S 153 c.toNat))).toNat else 0) ((0 + if (1 : Int) = 0 then 0 else ((V (160 + 2 * a.toNat)) * (V (160 + 2 * b.toNat))) * 2 ^ (((S 155 a.toNat - S 153 a.toNat) + (S 155 b.toNat - S 153 b.toNat)) - (min ((S 155 a.toNat - S 153 a.toNat) + (S 155 b.toNat - S 153 b.toNat)) (S 155 c.toNat - S 153 c.toNat))).toNat) + if (S 156 ((c).toNat) : Int) = 0 then 0 else (V (160 + 2 * c.toNat)) * 2 ^ ((S 155 c.toNat - S 153 c.toNat) - (min ((S 155 a.toNat - S 153 a.toNat) + (S 155 b.toNat - S 153 b.toNat)) (S 155 c.toNat - S 153 c.toNat))).toNat) (min ((S 155 a.toNat - S 153 a.toNat) + (S 155 b.toNat - S 153 b.toNat)) (S 155 c.toNat - S 153 c.toNat)) 0 0 0 := by clear hR hrun hP; first | (rw [sFus_m (s := 0) (k := 3) (by omega) (by omega) (by omega) (if_pos (by omega)) (if_neg (by omega))]; rw [show S 154 c.toNat = 3 by omega]; exact sum2_33) | (rw [sFus_m (s := 0) (k := 3) (by omega) (by omega) (by omega) (if_pos (by omega)) (if_neg (by omega))]; exact sum2_3z (by omega)) | (rw [sFus_m (s := 0) (k := 2) (by omega) (by omega) (by omega) (if_pos (by omega)) (if_pos (by omega))]; rw [show S 154 c.toNat = 3 by omega]; exact sum2_z3 (by decide)) | (rw [sFus_m (s := 0) (k := 2) (by omega) (by omega) (by omega) (if_pos (by omega)) (if_pos (by omega))]; exact sum2_zz (by decide) (by omega)) | (rw [sFus_m (s := 1) (k := 3) (by omega) (by omega) (by omega) (if_neg (by omega)) (if_neg (by omega))]; rw [show S 154 c.toNat = 3 by omega]; exact sum2_33) | (rw [sFus_m (s := 1) (k := 3) (by omega) (by omega) (by omega) (if_neg (by omega)) (if_neg (by omega))]; exact sum2_3z (by omega)) | (rw [sFus_m (s := 1) (k := 2) (by omega) (by omega) (by omega) (if_neg (by omega)) (if_pos (by omega))]; rw [show S 154 c.toNat = 3 by omega]; exact sum2_z3 (by decide)) | (rw [sFus_m (s := 1) (k := 2) (by omega) (by omega) (by omega) (if_neg (by omega)) (if_pos (by omega))]; exact sum2_zz (by decide) (by omega))
                        rw [eo]
                        exact ⟨rfl, _, _, hR, hP⟩
                    · refine i_221_198 (x := 128) rfl ?_
                      refine i_221_199 (x := Int32.ofInt r) rfl ?_
                      refine i_221_200 ?_
                      refine i_221_201 (x := 128) rfl ?_
                      refine i_221_202 (v := Value.ref 156) hR.c128 rfl ?_
                      refine i_221_205 (x := Int32.ofInt c) rfl ?_
                      refine i_221_207z (v := Value.int (Int32.ofInt (S 156 ((c).toNat)))) (hR.row a156) (ix0 (T := c) (by omega) (by omega)) (ix1 (T := c) (by omega) (by omega) (by omega)) (ra (T := c) (by omega) (by omega) rfl) ?_
                      have hobj := hR.c128
                      obtain ⟨w, hrun, hR⟩ := s_special (d := d + 6) (r := r) (k := 1) (s := S 156 ((c).toNat)) hR (by omega) (by omega) (by omega)
                      refine i_221_208 hobj (Nat.le_of_ble_eq_true rfl) hrun ?_
                      refine i_221_211 ?_
                      have eo : sFus S V r.toNat a.toNat b.toNat c.toNat mode = oS 1 (S 156 ((c).toNat)) (S 128 19) := by clear hR hrun; unfold sFus; first | rw [if_pos (by omega)] | (rw [if_neg (by omega), if_pos (by unfold xorI; first | rw [if_pos (by omega)]; omega | rw [if_neg (by omega)]; omega | omega)]; done) | (rw [if_neg (by omega), if_neg (by unfold xorI; first | (rw [if_pos (by omega)]; omega) | (rw [if_neg (by omega)]; omega) | omega), if_pos (by omega)]; first | done | (congr 1; unfold xorI; first | exact if_pos (by omega) | exact if_neg (by omega))) | (rw [if_neg (by omega), if_neg (by omega), if_neg (by omega), if_pos (by omega)])
                      rw [eo]
                      exact ⟨rfl, _, _, hR, oP_special (by omega) (by decide) nS.refl nV.refl rfl⟩
                  · refine i_221_126 (x := 128) rfl ?_
                    refine i_221_127 (x := Int32.ofInt r) rfl ?_
                    refine i_221_128 ?_
                    refine i_221_129 ?_
                    have hobj := hR.c128
                    obtain ⟨w, hrun, hR⟩ := s_special (d := d + 6) (r := r) (k := 0) (s := 0) hR (by omega) (by omega) (by omega)
                    refine i_221_130 hobj (Nat.le_of_ble_eq_true rfl) hrun ?_
                    refine i_221_133 ?_
                    have eo : sFus S V r.toNat a.toNat b.toNat c.toNat mode = oS 0 0 (S 128 19) := by clear hR hrun; unfold sFus; first | rw [if_pos (by omega)] | (rw [if_neg (by omega), if_pos (by unfold xorI; first | rw [if_pos (by omega)]; omega | rw [if_neg (by omega)]; omega | omega)]; done) | (rw [if_neg (by omega), if_neg (by unfold xorI; first | (rw [if_pos (by omega)]; omega) | (rw [if_neg (by omega)]; omega) | omega), if_pos (by omega)]; first | done | (congr 1; unfold xorI; first | exact if_pos (by omega) | exact if_neg (by omega))) | (rw [if_neg (by omega), if_neg (by omega), if_neg (by omega), if_pos (by omega)])
                    rw [eo]
                    exact ⟨rfl, _, _, hR, oP_special (by omega) (by decide) nS.refl nV.refl rfl⟩
            · refine i_221_91 ?_
              refine i_221_92 ?_
              refine i_221_96 (lv2 := [(8, Value.int 1), (7, Value.int 0), (6, Value.int 1), (0, Value.ref 128), (1, Value.int (Int32.ofInt r)), (2, Value.int (Int32.ofInt a)), (3, Value.int (Int32.ofInt b)), (4, Value.int (Int32.ofInt c)), (5, Value.int (Int32.ofInt mode))]) rfl ?_
              refine i_221_98 (x := 128) rfl ?_
              refine i_221_99 (v := Value.ref 154) hR.c128 rfl ?_
              refine i_221_102 (x := Int32.ofInt a) rfl ?_
              refine i_221_103 (v := Value.int (Int32.ofInt (S 154 ((a).toNat)))) (hR.row a154) (ix0 (T := a) (by omega) (by omega)) (ix1 (T := a) (by omega) (by omega) (by omega)) (ra (T := a) (by omega) (by omega) rfl) ?_
              refine i_221_104 (z_eq (a := S 154 ((a).toNat)) ⟨by omega, by omega⟩ fun c68 => ?_) (z_ne (a := S 154 ((a).toNat)) ⟨by omega, by omega⟩ fun c68 => ?_)
              · refine i_221_126 (x := 128) rfl ?_
                refine i_221_127 (x := Int32.ofInt r) rfl ?_
                refine i_221_128 ?_
                refine i_221_129 ?_
                have hobj := hR.c128
                obtain ⟨w, hrun, hR⟩ := s_special (d := d + 6) (r := r) (k := 0) (s := 0) hR (by omega) (by omega) (by omega)
                refine i_221_130 hobj (Nat.le_of_ble_eq_true rfl) hrun ?_
                refine i_221_133 ?_
                have eo : sFus S V r.toNat a.toNat b.toNat c.toNat mode = oS 0 0 (S 128 19) := by clear hR hrun; unfold sFus; first | rw [if_pos (by omega)] | (rw [if_neg (by omega), if_pos (by unfold xorI; first | rw [if_pos (by omega)]; omega | rw [if_neg (by omega)]; omega | omega)]; done) | (rw [if_neg (by omega), if_neg (by unfold xorI; first | (rw [if_pos (by omega)]; omega) | (rw [if_neg (by omega)]; omega) | omega), if_pos (by omega)]; first | done | (congr 1; unfold xorI; first | exact if_pos (by omega) | exact if_neg (by omega))) | (rw [if_neg (by omega), if_neg (by omega), if_neg (by omega), if_pos (by omega)])
                rw [eo]
                exact ⟨rfl, _, _, hR, oP_special (by omega) (by decide) nS.refl nV.refl rfl⟩
              · refine i_221_107 (x := 128) rfl ?_
                refine i_221_108 (v := Value.ref 154) hR.c128 rfl ?_
                refine i_221_111 (x := Int32.ofInt b) rfl ?_
                refine i_221_112 (v := Value.int (Int32.ofInt (S 154 ((b).toNat)))) (hR.row a154) (ix0 (T := b) (by omega) (by omega)) (ix1 (T := b) (by omega) (by omega) (by omega)) (ra (T := b) (by omega) (by omega) rfl) ?_
                refine i_221_113 (z_eq (a := S 154 ((b).toNat)) ⟨by omega, by omega⟩ fun c69 => absurd c69 (by omega)) (z_ne (a := S 154 ((b).toNat)) ⟨by omega, by omega⟩ fun c69 => ?_)
                refine i_221_116 (x := 128) rfl ?_
                refine i_221_117 (v := Value.ref 154) hR.c128 rfl ?_
                refine i_221_120 (x := Int32.ofInt c) rfl ?_
                refine i_221_122 (v := Value.int (Int32.ofInt (S 154 ((c).toNat)))) (hR.row a154) (ix0 (T := c) (by omega) (by omega)) (ix1 (T := c) (by omega) (by omega) (by omega)) (ra (T := c) (by omega) (by omega) rfl) ?_
                refine i_221_123 (z_ne (a := S 154 ((c).toNat)) ⟨by omega, by omega⟩ fun c70 => ?_) (z_eq (a := S 154 ((c).toNat)) ⟨by omega, by omega⟩ fun c70 => ?_)
                · refine i_221_134 (x := 0) rfl ?_
                  refine i_221_136 (fun _ => ?_) (fun c => absurd c (by decide))
                  refine i_221_173 (x := 0) rfl ?_
                  refine i_221_175 (fun _ => ?_) (fun c => absurd c (by decide))
                  refine i_221_187 (x := 128) rfl ?_
                  refine i_221_188 (v := Value.ref 154) hR.c128 rfl ?_
                  refine i_221_191 (x := Int32.ofInt c) rfl ?_
                  refine i_221_193 (v := Value.int (Int32.ofInt (S 154 ((c).toNat)))) (hR.row a154) (ix0 (T := c) (by omega) (by omega)) (ix1 (T := c) (by omega) (by omega) (by omega)) (ra (T := c) (by omega) (by omega) rfl) ?_
                  refine i_221_194 ?_
                  refine i_221_195 (b_ne (a := S 154 ((c).toNat)) (b := 1) ⟨by omega, by omega⟩ ⟨by decide, by decide⟩ fun c71 => ?_) (b_eq (a := S 154 ((c).toNat)) (b := 1) ⟨by omega, by omega⟩ ⟨by decide, by decide⟩ fun c71 => ?_)
                  · refine i_221_212 (x := 128) rfl ?_
                    refine i_221_213 (x := Int32.ofInt a) rfl ?_
                    have hobj := hR.c128
                    obtain ⟨w, hrun, hR⟩ := s_exponent (d := d + 6) (r := a) hR (by omega) (by omega)
                    refine i_221_214 hobj (Nat.le_of_ble_eq_true rfl) hrun ?_
                    refine i_221_217 (x := 128) rfl ?_
                    refine i_221_218 (x := Int32.ofInt b) rfl ?_
                    have hobj := hR.c128
                    obtain ⟨w, hrun, hR⟩ := s_exponent (d := d + 6) (r := b) hR (by omega) (by omega)
                    refine i_221_219 hobj (Nat.le_of_ble_eq_true rfl) hrun ?_
                    refine i_221_222 (c := Int32.ofInt ((S 155 a.toNat - S 153 a.toNat) + (S 155 b.toNat - S 153 b.toNat))) (o_add (S 155 a.toNat - S 153 a.toNat) (S 155 b.toNat - S 153 b.toNat)) ?_
                    refine i_221_223 (lv2 := [(9, Value.int (Int32.ofInt ((S 155 a.toNat - S 153 a.toNat) + (S 155 b.toNat - S 153 b.toNat)))), (8, Value.int 1), (7, Value.int 0), (6, Value.int 1), (0, Value.ref 128), (1, Value.int (Int32.ofInt r)), (2, Value.int (Int32.ofInt a)), (3, Value.int (Int32.ofInt b)), (4, Value.int (Int32.ofInt c)), (5, Value.int (Int32.ofInt mode))]) rfl ?_
                    refine i_221_225 (x := 128) rfl ?_
                    refine i_221_226 (x := 1) rfl ?_
                    refine i_221_228 (fun c => absurd c (by decide)) (fun _ => ?_)
                    refine i_221_231 (x := 128) rfl ?_
                    refine i_221_232 (x := Int32.ofInt c) rfl ?_
                    have hobj := hR.c128
                    obtain ⟨w, hrun, hR⟩ := s_exponent (d := d + 6) (r := c) hR (by omega) (by omega)
                    refine i_221_234 hobj (Nat.le_of_ble_eq_true rfl) hrun ?_
                    refine i_221_237 ?_
                    have hobj := hR.c128
                    obtain ⟨w, S1, V1, hrun, hR, hS⟩ := t_open (d := d + 4) (e := S 155 c.toNat - S 153 c.toNat) hR nS.refl nV.refl
                    refine i_221_267 hobj (Nat.le_of_ble_eq_true rfl) hrun ?_
                    refine i_221_270 (x := 1) rfl ?_
                    refine i_221_272 (fun c => absurd c (by decide)) (fun _ => ?_)
                    refine i_221_275 (x := 128) rfl ?_
                    refine i_221_276 (x := 1) rfl ?_
                    have hobj := hR.c128
                    obtain ⟨w, S1, V1, hrun, hR, hS⟩ := t_addZero (d := d + 6) (sg := 1) hR hS (by omega)
                    refine i_221_278 hobj (Nat.le_of_ble_eq_true rfl) hrun ?_
                    refine i_221_281 ?_
                    refine i_221_315 (x := 128) rfl ?_
                    refine i_221_316 (v := Value.ref 154) hR.c128 rfl ?_
                    refine i_221_319 (x := Int32.ofInt c) rfl ?_
                    refine i_221_321 (v := Value.int (Int32.ofInt (S 154 ((c).toNat)))) (hR.row a154) (ix0 (T := c) (by omega) (by omega)) (ix1 (T := c) (by omega) (by omega) (by omega)) (ra (T := c) (by omega) (by omega) (hS.1.1 _ _ (by decide))) ?_
                    refine i_221_322 ?_
                    refine i_221_323 (b_ne (a := S 154 ((c).toNat)) (b := 3) ⟨by omega, by omega⟩ ⟨by decide, by decide⟩ fun c72 => ?_) (b_eq (a := S 154 ((c).toNat)) (b := 3) ⟨by omega, by omega⟩ ⟨by decide, by decide⟩ fun c72 => ?_)
                    · refine i_221_353 (x := 128) rfl ?_
                      refine i_221_354 (x := 128) rfl ?_
                      refine i_221_355 (v := Value.ref 156) hR.c128 rfl ?_
                      refine i_221_358 (x := Int32.ofInt c) rfl ?_
                      refine i_221_360z (v := Value.int (Int32.ofInt (S 156 ((c).toNat)))) (hR.row a156) (ix0 (T := c) (by omega) (by omega)) (ix1 (T := c) (by omega) (by omega) (by omega)) (ra (T := c) (by omega) (by omega) (hS.1.1 _ _ (by decide))) ?_
                      have hobj := hR.c128
                      obtain ⟨w, S1, V1, hrun, hR, hS⟩ := t_addZero (d := d + 6) (sg := S 156 ((c).toNat)) hR hS (by omega)
                      refine i_221_361 hobj (Nat.le_of_ble_eq_true rfl) hrun ?_
                      refine i_221_364 (x := 128) rfl ?_
                      refine i_221_365 (x := Int32.ofInt r) rfl ?_
                      refine i_221_366 (x := Int32.ofInt mode) rfl ?_
                      have hobj := hR.c128
                      obtain ⟨w, hrun, S2, V2, hR, hP⟩ := t_close (d := d + 2) (r := r) (mode := mode) hR hS hI (by omega) (by omega) (by refine ⟨?_, ?_, ?_⟩ <;> (repeat' split) <;> simp) (by first | omega | decide | exact Nat.le_trans (pl_b (n := 130000) (by decide) (Nat.le_trans (xbl_powle _ _) (by have := xbl_prod (V (160 + 2 * a.toNat)) (V (160 + 2 * b.toNat)); omega))) (by decide) | exact Nat.le_trans (mi_b (n := 130000) (by decide) (Nat.le_trans (xbl_powle _ _) (by have := xbl_prod (V (160 + 2 * a.toNat)) (V (160 + 2 * b.toNat)); omega))) (by decide) | exact Nat.le_trans (pl_b (n := 130001) (pl_b (n := 130000) (by decide) (Nat.le_trans (xbl_powle _ _) (by have := xbl_prod (V (160 + 2 * a.toNat)) (V (160 + 2 * b.toNat)); omega))) (Nat.le_trans (xbl_powle _ _) (by omega))) (by decide) | exact Nat.le_trans (mi_b (n := 130001) (mi_b (n := 130000) (by decide) (Nat.le_trans (xbl_powle _ _) (by have := xbl_prod (V (160 + 2 * a.toNat)) (V (160 + 2 * b.toNat)); omega))) (Nat.le_trans (xbl_powle _ _) (by omega))) (by decide)) (by first | omega | decide | exact Nat.le_trans (pl_b (n := 130000) (by decide) (Nat.le_trans (xbl_powle _ _) (by have := xbl_prod (V (160 + 2 * a.toNat)) (V (160 + 2 * b.toNat)); omega))) (by decide) | exact Nat.le_trans (mi_b (n := 130000) (by decide) (Nat.le_trans (xbl_powle _ _) (by have := xbl_prod (V (160 + 2 * a.toNat)) (V (160 + 2 * b.toNat)); omega))) (by decide) | exact Nat.le_trans (pl_b (n := 130001) (pl_b (n := 130000) (by decide) (Nat.le_trans (xbl_powle _ _) (by have := xbl_prod (V (160 + 2 * a.toNat)) (V (160 + 2 * b.toNat)); omega))) (Nat.le_trans (xbl_powle _ _) (by omega))) (by decide) | exact Nat.le_trans (mi_b (n := 130001) (mi_b (n := 130000) (by decide) (Nat.le_trans (xbl_powle _ _) (by have := xbl_prod (V (160 + 2 * a.toNat)) (V (160 + 2 * b.toNat)); omega))) (Nat.le_trans (xbl_powle _ _) (by omega))) (by decide)) (by intro _; omega)
                      refine i_221_368 hobj (Nat.le_of_ble_eq_true rfl) hrun ?_
                      refine i_221_371 ?_
                      have eo : sFus S V r.toNat a.toNat b.toNat c.toNat mode = sumS (S 153 r.toNat) (S 128 17) (S 128 18) (S 128 20) (S 128 19) mode 0 0 (S 155 c.toNat - S 153 c.toNat) 1 (if (S 156 ((c).toNat) : Int) = 0 then 1 else if (1 : Int) = 0 then 1 else 0) (if (S 156 ((c).toNat) : Int) = 0 then if (1 : Int) = 0 then 0 else 1 else 1) := by clear hR hrun hP; first | (rw [sFus_m (s := 0) (k := 3) (by omega) (by omega) (by omega) (if_pos (by omega)) (if_neg (by omega))]; rw [show S 154 c.toNat = 3 by omega]; exact sum2_33) | (rw [sFus_m (s := 0) (k := 3) (by omega) (by omega) (by omega) (if_pos (by omega)) (if_neg (by omega))]; exact sum2_3z (by omega)) | (rw [sFus_m (s := 0) (k := 2) (by omega) (by omega) (by omega) (if_pos (by omega)) (if_pos (by omega))]; rw [show S 154 c.toNat = 3 by omega]; exact sum2_z3 (by decide)) | (rw [sFus_m (s := 0) (k := 2) (by omega) (by omega) (by omega) (if_pos (by omega)) (if_pos (by omega))]; exact sum2_zz (by decide) (by omega)) | (rw [sFus_m (s := 1) (k := 3) (by omega) (by omega) (by omega) (if_neg (by omega)) (if_neg (by omega))]; rw [show S 154 c.toNat = 3 by omega]; exact sum2_33) | (rw [sFus_m (s := 1) (k := 3) (by omega) (by omega) (by omega) (if_neg (by omega)) (if_neg (by omega))]; exact sum2_3z (by omega)) | (rw [sFus_m (s := 1) (k := 2) (by omega) (by omega) (by omega) (if_neg (by omega)) (if_pos (by omega))]; rw [show S 154 c.toNat = 3 by omega]; exact sum2_z3 (by decide)) | (rw [sFus_m (s := 1) (k := 2) (by omega) (by omega) (by omega) (if_neg (by omega)) (if_pos (by omega))]; exact sum2_zz (by decide) (by omega))
                      rw [eo]
                      exact ⟨rfl, _, _, hR, hP⟩
                    · refine i_221_326 (x := 128) rfl ?_
                      refine i_221_327 (x := 128) rfl ?_
                      refine i_221_328 (v := Value.ref 157) hR.c128 rfl ?_
                      refine i_221_331 (x := Int32.ofInt c) rfl ?_
                      obtain ⟨gp, hgp, hgr⟩ := hR.part (j := (c).toNat) (by omega)
                      refine i_221_333 (v := Value.ref (160 + 2 * c.toNat)) hgp (ix0 (by omega) (by omega)) (ix1 (by omega) (by omega) (by omega)) (by rw [ixn (by omega) (by omega)]; exact hgr) ?_
                      refine i_221_334 (x := 128) rfl ?_
                      refine i_221_335 (x := Int32.ofInt c) rfl ?_
                      have hobj := hR.c128
                      obtain ⟨w, hrun, hR⟩ := s_exponent (d := d + 6) (r := c) hR (by omega) (by omega)
                      rw [hS.1.1 155 _ (by decide), hS.1.1 153 _ (by decide)] at hrun
                      refine i_221_337 hobj (Nat.le_of_ble_eq_true rfl) hrun ?_
                      refine i_221_340 (x := 128) rfl ?_
                      refine i_221_341 (v := Value.ref 156) hR.c128 rfl ?_
                      refine i_221_344 (x := Int32.ofInt c) rfl ?_
                      refine i_221_346z (v := Value.int (Int32.ofInt (S 156 ((c).toNat)))) (hR.row a156) (ix0 (T := c) (by omega) (by omega)) (ix1 (T := c) (by omega) (by omega) (by omega)) (ra (T := c) (by omega) (by omega) (hS.1.1 _ _ (by decide))) ?_
                      have hobj := hR.c128
                      obtain ⟨w, S1, V1, hrun, hR, hS⟩ := t_addTo (d := d + 4) (h := 160 + 2 * c.toNat) (m := V (160 + 2 * c.toNat)) (e := S 155 c.toNat - S 153 c.toNat) (sg := S 156 ((c).toNat)) hR hS (iNp (r := c) (by omega) (by omega)) ((hS.2.1 _ (by omega))) (by omega) (by omega) (by omega) (by have := xbl_prod (V (160 + 2 * a.toNat)) (V (160 + 2 * b.toNat)); omega) (by first | omega | decide | exact Nat.le_trans (pl_b (n := 130000) (by decide) (Nat.le_trans (xbl_powle _ _) (by have := xbl_prod (V (160 + 2 * a.toNat)) (V (160 + 2 * b.toNat)); omega))) (by decide) | exact Nat.le_trans (mi_b (n := 130000) (by decide) (Nat.le_trans (xbl_powle _ _) (by have := xbl_prod (V (160 + 2 * a.toNat)) (V (160 + 2 * b.toNat)); omega))) (by decide) | exact Nat.le_trans (pl_b (n := 130001) (pl_b (n := 130000) (by decide) (Nat.le_trans (xbl_powle _ _) (by have := xbl_prod (V (160 + 2 * a.toNat)) (V (160 + 2 * b.toNat)); omega))) (Nat.le_trans (xbl_powle _ _) (by omega))) (by decide) | exact Nat.le_trans (mi_b (n := 130001) (mi_b (n := 130000) (by decide) (Nat.le_trans (xbl_powle _ _) (by have := xbl_prod (V (160 + 2 * a.toNat)) (V (160 + 2 * b.toNat)); omega))) (Nat.le_trans (xbl_powle _ _) (by omega))) (by decide)) (by first | omega | decide | exact Nat.le_trans (pl_b (n := 130000) (by decide) (Nat.le_trans (xbl_powle _ _) (by have := xbl_prod (V (160 + 2 * a.toNat)) (V (160 + 2 * b.toNat)); omega))) (by decide) | exact Nat.le_trans (mi_b (n := 130000) (by decide) (Nat.le_trans (xbl_powle _ _) (by have := xbl_prod (V (160 + 2 * a.toNat)) (V (160 + 2 * b.toNat)); omega))) (by decide) | exact Nat.le_trans (pl_b (n := 130001) (pl_b (n := 130000) (by decide) (Nat.le_trans (xbl_powle _ _) (by have := xbl_prod (V (160 + 2 * a.toNat)) (V (160 + 2 * b.toNat)); omega))) (Nat.le_trans (xbl_powle _ _) (by omega))) (by decide) | exact Nat.le_trans (mi_b (n := 130001) (mi_b (n := 130000) (by decide) (Nat.le_trans (xbl_powle _ _) (by have := xbl_prod (V (160 + 2 * a.toNat)) (V (160 + 2 * b.toNat)); omega))) (Nat.le_trans (xbl_powle _ _) (by omega))) (by decide))
                      refine i_221_347 hobj (Nat.le_of_ble_eq_true rfl) hrun ?_
                      refine i_221_350 ?_
                      refine i_221_364 (x := 128) rfl ?_
                      refine i_221_365 (x := Int32.ofInt r) rfl ?_
                      refine i_221_366 (x := Int32.ofInt mode) rfl ?_
                      have hobj := hR.c128
                      obtain ⟨w, hrun, S2, V2, hR, hP⟩ := t_close (d := d + 2) (r := r) (mode := mode) hR hS hI (by omega) (by omega) (by refine ⟨?_, ?_, ?_⟩ <;> (repeat' split) <;> simp) (by first | omega | decide | exact Nat.le_trans (pl_b (n := 130000) (by decide) (Nat.le_trans (xbl_powle _ _) (by have := xbl_prod (V (160 + 2 * a.toNat)) (V (160 + 2 * b.toNat)); omega))) (by decide) | exact Nat.le_trans (mi_b (n := 130000) (by decide) (Nat.le_trans (xbl_powle _ _) (by have := xbl_prod (V (160 + 2 * a.toNat)) (V (160 + 2 * b.toNat)); omega))) (by decide) | exact Nat.le_trans (pl_b (n := 130001) (pl_b (n := 130000) (by decide) (Nat.le_trans (xbl_powle _ _) (by have := xbl_prod (V (160 + 2 * a.toNat)) (V (160 + 2 * b.toNat)); omega))) (Nat.le_trans (xbl_powle _ _) (by omega))) (by decide) | exact Nat.le_trans (mi_b (n := 130001) (mi_b (n := 130000) (by decide) (Nat.le_trans (xbl_powle _ _) (by have := xbl_prod (V (160 + 2 * a.toNat)) (V (160 + 2 * b.toNat)); omega))) (Nat.le_trans (xbl_powle _ _) (by omega))) (by decide)) (by first | omega | decide | exact Nat.le_trans (pl_b (n := 130000) (by decide) (Nat.le_trans (xbl_powle _ _) (by have := xbl_prod (V (160 + 2 * a.toNat)) (V (160 + 2 * b.toNat)); omega))) (by decide) | exact Nat.le_trans (mi_b (n := 130000) (by decide) (Nat.le_trans (xbl_powle _ _) (by have := xbl_prod (V (160 + 2 * a.toNat)) (V (160 + 2 * b.toNat)); omega))) (by decide) | exact Nat.le_trans (pl_b (n := 130001) (pl_b (n := 130000) (by decide) (Nat.le_trans (xbl_powle _ _) (by have := xbl_prod (V (160 + 2 * a.toNat)) (V (160 + 2 * b.toNat)); omega))) (Nat.le_trans (xbl_powle _ _) (by omega))) (by decide) | exact Nat.le_trans (mi_b (n := 130001) (mi_b (n := 130000) (by decide) (Nat.le_trans (xbl_powle _ _) (by have := xbl_prod (V (160 + 2 * a.toNat)) (V (160 + 2 * b.toNat)); omega))) (Nat.le_trans (xbl_powle _ _) (by omega))) (by decide)) (by intro _; omega)
                      refine i_221_368 hobj (Nat.le_of_ble_eq_true rfl) hrun ?_
                      refine i_221_371 ?_
                      have eo : sFus S V r.toNat a.toNat b.toNat c.toNat mode = sumS (S 153 r.toNat) (S 128 17) (S 128 18) (S 128 20) (S 128 19) mode (0 + if (S 156 ((c).toNat) : Int) = 0 then (V (160 + 2 * c.toNat)) * 2 ^ ((S 155 c.toNat - S 153 c.toNat) - (S 155 c.toNat - S 153 c.toNat)).toNat else 0) (0 + if (S 156 ((c).toNat) : Int) = 0 then 0 else (V (160 + 2 * c.toNat)) * 2 ^ ((S 155 c.toNat - S 153 c.toNat) - (S 155 c.toNat - S 153 c.toNat)).toNat) (S 155 c.toNat - S 153 c.toNat) 0 (if (1 : Int) = 0 then 1 else 0) (if (1 : Int) = 0 then 0 else 1) := by clear hR hrun hP; first | (rw [sFus_m (s := 0) (k := 3) (by omega) (by omega) (by omega) (if_pos (by omega)) (if_neg (by omega))]; rw [show S 154 c.toNat = 3 by omega]; exact sum2_33) | (rw [sFus_m (s := 0) (k := 3) (by omega) (by omega) (by omega) (if_pos (by omega)) (if_neg (by omega))]; exact sum2_3z (by omega)) | (rw [sFus_m (s := 0) (k := 2) (by omega) (by omega) (by omega) (if_pos (by omega)) (if_pos (by omega))]; rw [show S 154 c.toNat = 3 by omega]; exact sum2_z3 (by decide)) | (rw [sFus_m (s := 0) (k := 2) (by omega) (by omega) (by omega) (if_pos (by omega)) (if_pos (by omega))]; exact sum2_zz (by decide) (by omega)) | (rw [sFus_m (s := 1) (k := 3) (by omega) (by omega) (by omega) (if_neg (by omega)) (if_neg (by omega))]; rw [show S 154 c.toNat = 3 by omega]; exact sum2_33) | (rw [sFus_m (s := 1) (k := 3) (by omega) (by omega) (by omega) (if_neg (by omega)) (if_neg (by omega))]; exact sum2_3z (by omega)) | (rw [sFus_m (s := 1) (k := 2) (by omega) (by omega) (by omega) (if_neg (by omega)) (if_pos (by omega))]; rw [show S 154 c.toNat = 3 by omega]; exact sum2_z3 (by decide)) | (rw [sFus_m (s := 1) (k := 2) (by omega) (by omega) (by omega) (if_neg (by omega)) (if_pos (by omega))]; exact sum2_zz (by decide) (by omega))
                      rw [eo]
                      exact ⟨rfl, _, _, hR, hP⟩
                  · refine i_221_198 (x := 128) rfl ?_
                    refine i_221_199 (x := Int32.ofInt r) rfl ?_
                    refine i_221_200 ?_
                    refine i_221_201 (x := 128) rfl ?_
                    refine i_221_202 (v := Value.ref 156) hR.c128 rfl ?_
                    refine i_221_205 (x := Int32.ofInt c) rfl ?_
                    refine i_221_207z (v := Value.int (Int32.ofInt (S 156 ((c).toNat)))) (hR.row a156) (ix0 (T := c) (by omega) (by omega)) (ix1 (T := c) (by omega) (by omega) (by omega)) (ra (T := c) (by omega) (by omega) rfl) ?_
                    have hobj := hR.c128
                    obtain ⟨w, hrun, hR⟩ := s_special (d := d + 6) (r := r) (k := 1) (s := S 156 ((c).toNat)) hR (by omega) (by omega) (by omega)
                    refine i_221_208 hobj (Nat.le_of_ble_eq_true rfl) hrun ?_
                    refine i_221_211 ?_
                    have eo : sFus S V r.toNat a.toNat b.toNat c.toNat mode = oS 1 (S 156 ((c).toNat)) (S 128 19) := by clear hR hrun; unfold sFus; first | rw [if_pos (by omega)] | (rw [if_neg (by omega), if_pos (by unfold xorI; first | rw [if_pos (by omega)]; omega | rw [if_neg (by omega)]; omega | omega)]; done) | (rw [if_neg (by omega), if_neg (by unfold xorI; first | (rw [if_pos (by omega)]; omega) | (rw [if_neg (by omega)]; omega) | omega), if_pos (by omega)]; first | done | (congr 1; unfold xorI; first | exact if_pos (by omega) | exact if_neg (by omega))) | (rw [if_neg (by omega), if_neg (by omega), if_neg (by omega), if_pos (by omega)])
                    rw [eo]
                    exact ⟨rfl, _, _, hR, oP_special (by omega) (by decide) nS.refl nV.refl rfl⟩
                · refine i_221_126 (x := 128) rfl ?_
                  refine i_221_127 (x := Int32.ofInt r) rfl ?_
                  refine i_221_128 ?_
                  refine i_221_129 ?_
                  have hobj := hR.c128
                  obtain ⟨w, hrun, hR⟩ := s_special (d := d + 6) (r := r) (k := 0) (s := 0) hR (by omega) (by omega) (by omega)
                  refine i_221_130 hobj (Nat.le_of_ble_eq_true rfl) hrun ?_
                  refine i_221_133 ?_
                  have eo : sFus S V r.toNat a.toNat b.toNat c.toNat mode = oS 0 0 (S 128 19) := by clear hR hrun; unfold sFus; first | rw [if_pos (by omega)] | (rw [if_neg (by omega), if_pos (by unfold xorI; first | rw [if_pos (by omega)]; omega | rw [if_neg (by omega)]; omega | omega)]; done) | (rw [if_neg (by omega), if_neg (by unfold xorI; first | (rw [if_pos (by omega)]; omega) | (rw [if_neg (by omega)]; omega) | omega), if_pos (by omega)]; first | done | (congr 1; unfold xorI; first | exact if_pos (by omega) | exact if_neg (by omega))) | (rw [if_neg (by omega), if_neg (by omega), if_neg (by omega), if_pos (by omega)])
                  rw [eo]
                  exact ⟨rfl, _, _, hR, oP_special (by omega) (by decide) nS.refl nV.refl rfl⟩
        · refine i_221_64 ?_
          refine i_221_65 ?_
          refine i_221_69 (lv2 := [(7, Value.int 1), (6, Value.int 1), (0, Value.ref 128), (1, Value.int (Int32.ofInt r)), (2, Value.int (Int32.ofInt a)), (3, Value.int (Int32.ofInt b)), (4, Value.int (Int32.ofInt c)), (5, Value.int (Int32.ofInt mode))]) rfl ?_
          refine i_221_71 (x := 128) rfl ?_
          refine i_221_72 (v := Value.ref 154) hR.c128 rfl ?_
          refine i_221_75 (x := Int32.ofInt a) rfl ?_
          refine i_221_76 (v := Value.int (Int32.ofInt (S 154 ((a).toNat)))) (hR.row a154) (ix0 (T := a) (by omega) (by omega)) (ix1 (T := a) (by omega) (by omega) (by omega)) (ra (T := a) (by omega) (by omega) rfl) ?_
          refine i_221_77 ?_
          refine i_221_78 (b_eq (a := S 154 ((a).toNat)) (b := 2) ⟨by omega, by omega⟩ ⟨by decide, by decide⟩ fun c73 => ?_) (b_ne (a := S 154 ((a).toNat)) (b := 2) ⟨by omega, by omega⟩ ⟨by decide, by decide⟩ fun c73 => ?_)
          · refine i_221_91 ?_
            refine i_221_92 ?_
            refine i_221_96 (lv2 := [(8, Value.int 1), (7, Value.int 1), (6, Value.int 1), (0, Value.ref 128), (1, Value.int (Int32.ofInt r)), (2, Value.int (Int32.ofInt a)), (3, Value.int (Int32.ofInt b)), (4, Value.int (Int32.ofInt c)), (5, Value.int (Int32.ofInt mode))]) rfl ?_
            refine i_221_98 (x := 128) rfl ?_
            refine i_221_99 (v := Value.ref 154) hR.c128 rfl ?_
            refine i_221_102 (x := Int32.ofInt a) rfl ?_
            refine i_221_103 (v := Value.int (Int32.ofInt (S 154 ((a).toNat)))) (hR.row a154) (ix0 (T := a) (by omega) (by omega)) (ix1 (T := a) (by omega) (by omega) (by omega)) (ra (T := a) (by omega) (by omega) rfl) ?_
            refine i_221_104 (z_eq (a := S 154 ((a).toNat)) ⟨by omega, by omega⟩ fun c74 => absurd c74 (by omega)) (z_ne (a := S 154 ((a).toNat)) ⟨by omega, by omega⟩ fun c74 => ?_)
            refine i_221_107 (x := 128) rfl ?_
            refine i_221_108 (v := Value.ref 154) hR.c128 rfl ?_
            refine i_221_111 (x := Int32.ofInt b) rfl ?_
            refine i_221_112 (v := Value.int (Int32.ofInt (S 154 ((b).toNat)))) (hR.row a154) (ix0 (T := b) (by omega) (by omega)) (ix1 (T := b) (by omega) (by omega) (by omega)) (ra (T := b) (by omega) (by omega) rfl) ?_
            refine i_221_113 (z_eq (a := S 154 ((b).toNat)) ⟨by omega, by omega⟩ fun c75 => absurd c75 (by omega)) (z_ne (a := S 154 ((b).toNat)) ⟨by omega, by omega⟩ fun c75 => ?_)
            refine i_221_116 (x := 128) rfl ?_
            refine i_221_117 (v := Value.ref 154) hR.c128 rfl ?_
            refine i_221_120 (x := Int32.ofInt c) rfl ?_
            refine i_221_122 (v := Value.int (Int32.ofInt (S 154 ((c).toNat)))) (hR.row a154) (ix0 (T := c) (by omega) (by omega)) (ix1 (T := c) (by omega) (by omega) (by omega)) (ra (T := c) (by omega) (by omega) rfl) ?_
            refine i_221_123 (z_ne (a := S 154 ((c).toNat)) ⟨by omega, by omega⟩ fun c76 => ?_) (z_eq (a := S 154 ((c).toNat)) ⟨by omega, by omega⟩ fun c76 => ?_)
            · refine i_221_134 (x := 1) rfl ?_
              refine i_221_136 (fun c => absurd c (by decide)) (fun _ => ?_)
              refine i_221_139 (x := 1) rfl ?_
              refine i_221_141 (fun _ => ?_) (fun c => absurd c (by decide))
              refine i_221_167 (x := 128) rfl ?_
              refine i_221_168 (x := Int32.ofInt r) rfl ?_
              have hobj := hR.c128
              obtain ⟨w, hrun, hR⟩ := s_invalid (d := d + 5) (r := r) hR (by omega) (by omega)
              refine i_221_169 hobj (Nat.le_of_ble_eq_true rfl) hrun ?_
              refine i_221_172 ?_
              have eo : sFus S V r.toNat a.toNat b.toNat c.toNat mode = oS 0 0 (zor (S 128 19) 8) := by clear hR hrun; unfold sFus; first | rw [if_pos (by omega)] | (rw [if_neg (by omega), if_pos (by unfold xorI; first | rw [if_pos (by omega)]; omega | rw [if_neg (by omega)]; omega | omega)]; done) | (rw [if_neg (by omega), if_neg (by unfold xorI; first | (rw [if_pos (by omega)]; omega) | (rw [if_neg (by omega)]; omega) | omega), if_pos (by omega)]; first | done | (congr 1; unfold xorI; first | exact if_pos (by omega) | exact if_neg (by omega))) | (rw [if_neg (by omega), if_neg (by omega), if_neg (by omega), if_pos (by omega)])
              rw [eo]
              exact ⟨rfl, _, _, hR, oP_flag (by omega) (by decide) nS.refl nV.refl rfl⟩
            · refine i_221_126 (x := 128) rfl ?_
              refine i_221_127 (x := Int32.ofInt r) rfl ?_
              refine i_221_128 ?_
              refine i_221_129 ?_
              have hobj := hR.c128
              obtain ⟨w, hrun, hR⟩ := s_special (d := d + 6) (r := r) (k := 0) (s := 0) hR (by omega) (by omega) (by omega)
              refine i_221_130 hobj (Nat.le_of_ble_eq_true rfl) hrun ?_
              refine i_221_133 ?_
              have eo : sFus S V r.toNat a.toNat b.toNat c.toNat mode = oS 0 0 (S 128 19) := by clear hR hrun; unfold sFus; first | rw [if_pos (by omega)] | (rw [if_neg (by omega), if_pos (by unfold xorI; first | rw [if_pos (by omega)]; omega | rw [if_neg (by omega)]; omega | omega)]; done) | (rw [if_neg (by omega), if_neg (by unfold xorI; first | (rw [if_pos (by omega)]; omega) | (rw [if_neg (by omega)]; omega) | omega), if_pos (by omega)]; first | done | (congr 1; unfold xorI; first | exact if_pos (by omega) | exact if_neg (by omega))) | (rw [if_neg (by omega), if_neg (by omega), if_neg (by omega), if_pos (by omega)])
              rw [eo]
              exact ⟨rfl, _, _, hR, oP_special (by omega) (by decide) nS.refl nV.refl rfl⟩
          · refine i_221_81 (x := 128) rfl ?_
            refine i_221_82 (v := Value.ref 154) hR.c128 rfl ?_
            refine i_221_85 (x := Int32.ofInt b) rfl ?_
            refine i_221_86 (v := Value.int (Int32.ofInt (S 154 ((b).toNat)))) (hR.row a154) (ix0 (T := b) (by omega) (by omega)) (ix1 (T := b) (by omega) (by omega) (by omega)) (ra (T := b) (by omega) (by omega) rfl) ?_
            refine i_221_87 ?_
            refine i_221_88 (b_ne (a := S 154 ((b).toNat)) (b := 2) ⟨by omega, by omega⟩ ⟨by decide, by decide⟩ fun c77 => ?_) (b_eq (a := S 154 ((b).toNat)) (b := 2) ⟨by omega, by omega⟩ ⟨by decide, by decide⟩ fun c77 => absurd c77 (by omega))
            refine i_221_95 ?_
            refine i_221_96 (lv2 := [(8, Value.int 0), (7, Value.int 1), (6, Value.int 1), (0, Value.ref 128), (1, Value.int (Int32.ofInt r)), (2, Value.int (Int32.ofInt a)), (3, Value.int (Int32.ofInt b)), (4, Value.int (Int32.ofInt c)), (5, Value.int (Int32.ofInt mode))]) rfl ?_
            refine i_221_98 (x := 128) rfl ?_
            refine i_221_99 (v := Value.ref 154) hR.c128 rfl ?_
            refine i_221_102 (x := Int32.ofInt a) rfl ?_
            refine i_221_103 (v := Value.int (Int32.ofInt (S 154 ((a).toNat)))) (hR.row a154) (ix0 (T := a) (by omega) (by omega)) (ix1 (T := a) (by omega) (by omega) (by omega)) (ra (T := a) (by omega) (by omega) rfl) ?_
            refine i_221_104 (z_eq (a := S 154 ((a).toNat)) ⟨by omega, by omega⟩ fun c78 => ?_) (z_ne (a := S 154 ((a).toNat)) ⟨by omega, by omega⟩ fun c78 => ?_)
            · refine i_221_126 (x := 128) rfl ?_
              refine i_221_127 (x := Int32.ofInt r) rfl ?_
              refine i_221_128 ?_
              refine i_221_129 ?_
              have hobj := hR.c128
              obtain ⟨w, hrun, hR⟩ := s_special (d := d + 6) (r := r) (k := 0) (s := 0) hR (by omega) (by omega) (by omega)
              refine i_221_130 hobj (Nat.le_of_ble_eq_true rfl) hrun ?_
              refine i_221_133 ?_
              have eo : sFus S V r.toNat a.toNat b.toNat c.toNat mode = oS 0 0 (S 128 19) := by clear hR hrun; unfold sFus; first | rw [if_pos (by omega)] | (rw [if_neg (by omega), if_pos (by unfold xorI; first | rw [if_pos (by omega)]; omega | rw [if_neg (by omega)]; omega | omega)]; done) | (rw [if_neg (by omega), if_neg (by unfold xorI; first | (rw [if_pos (by omega)]; omega) | (rw [if_neg (by omega)]; omega) | omega), if_pos (by omega)]; first | done | (congr 1; unfold xorI; first | exact if_pos (by omega) | exact if_neg (by omega))) | (rw [if_neg (by omega), if_neg (by omega), if_neg (by omega), if_pos (by omega)])
              rw [eo]
              exact ⟨rfl, _, _, hR, oP_special (by omega) (by decide) nS.refl nV.refl rfl⟩
            · refine i_221_107 (x := 128) rfl ?_
              refine i_221_108 (v := Value.ref 154) hR.c128 rfl ?_
              refine i_221_111 (x := Int32.ofInt b) rfl ?_
              refine i_221_112 (v := Value.int (Int32.ofInt (S 154 ((b).toNat)))) (hR.row a154) (ix0 (T := b) (by omega) (by omega)) (ix1 (T := b) (by omega) (by omega) (by omega)) (ra (T := b) (by omega) (by omega) rfl) ?_
              refine i_221_113 (z_eq (a := S 154 ((b).toNat)) ⟨by omega, by omega⟩ fun c79 => absurd c79 (by omega)) (z_ne (a := S 154 ((b).toNat)) ⟨by omega, by omega⟩ fun c79 => ?_)
              refine i_221_116 (x := 128) rfl ?_
              refine i_221_117 (v := Value.ref 154) hR.c128 rfl ?_
              refine i_221_120 (x := Int32.ofInt c) rfl ?_
              refine i_221_122 (v := Value.int (Int32.ofInt (S 154 ((c).toNat)))) (hR.row a154) (ix0 (T := c) (by omega) (by omega)) (ix1 (T := c) (by omega) (by omega) (by omega)) (ra (T := c) (by omega) (by omega) rfl) ?_
              refine i_221_123 (z_ne (a := S 154 ((c).toNat)) ⟨by omega, by omega⟩ fun c80 => ?_) (z_eq (a := S 154 ((c).toNat)) ⟨by omega, by omega⟩ fun c80 => ?_)
              · refine i_221_134 (x := 1) rfl ?_
                refine i_221_136 (fun c => absurd c (by decide)) (fun _ => ?_)
                refine i_221_139 (x := 0) rfl ?_
                refine i_221_141 (fun c => absurd c (by decide)) (fun _ => ?_)
                refine i_221_144 (x := 128) rfl ?_
                refine i_221_145 (v := Value.ref 154) hR.c128 rfl ?_
                refine i_221_148 (x := Int32.ofInt c) rfl ?_
                refine i_221_150 (v := Value.int (Int32.ofInt (S 154 ((c).toNat)))) (hR.row a154) (ix0 (T := c) (by omega) (by omega)) (ix1 (T := c) (by omega) (by omega) (by omega)) (ra (T := c) (by omega) (by omega) rfl) ?_
                refine i_221_151 ?_
                refine i_221_152 (b_ne (a := S 154 ((c).toNat)) (b := 1) ⟨by omega, by omega⟩ ⟨by decide, by decide⟩ fun c81 => ?_) (b_eq (a := S 154 ((c).toNat)) (b := 1) ⟨by omega, by omega⟩ ⟨by decide, by decide⟩ fun c81 => ?_)
                · refine i_221_173 (x := 1) rfl ?_
                  refine i_221_175 (fun c => absurd c (by decide)) (fun _ => ?_)
                  refine i_221_178 (x := 128) rfl ?_
                  refine i_221_179 (x := Int32.ofInt r) rfl ?_
                  refine i_221_180 ?_
                  refine i_221_181 (x := 1) rfl ?_
                  have hobj := hR.c128
                  obtain ⟨w, hrun, hR⟩ := s_special (d := d + 6) (r := r) (k := 1) (s := 1) hR (by omega) (by omega) (by omega)
                  refine i_221_183 hobj (Nat.le_of_ble_eq_true rfl) hrun ?_
                  refine i_221_186 ?_
                  have eo : sFus S V r.toNat a.toNat b.toNat c.toNat mode = oS 1 1 (S 128 19) := by clear hR hrun; unfold sFus; first | rw [if_pos (by omega)] | (rw [if_neg (by omega), if_pos (by unfold xorI; first | rw [if_pos (by omega)]; omega | rw [if_neg (by omega)]; omega | omega)]; done) | (rw [if_neg (by omega), if_neg (by unfold xorI; first | (rw [if_pos (by omega)]; omega) | (rw [if_neg (by omega)]; omega) | omega), if_pos (by omega)]; first | done | (congr 1; unfold xorI; first | exact if_pos (by omega) | exact if_neg (by omega))) | (rw [if_neg (by omega), if_neg (by omega), if_neg (by omega), if_pos (by omega)])
                  rw [eo]
                  exact ⟨rfl, _, _, hR, oP_special (by omega) (by decide) nS.refl nV.refl rfl⟩
                · refine i_221_155 (x := 128) rfl ?_
                  refine i_221_156 (v := Value.ref 156) hR.c128 rfl ?_
                  refine i_221_159 (x := Int32.ofInt c) rfl ?_
                  refine i_221_161z (v := Value.int (Int32.ofInt (S 156 ((c).toNat)))) (hR.row a156) (ix0 (T := c) (by omega) (by omega)) (ix1 (T := c) (by omega) (by omega) (by omega)) (ra (T := c) (by omega) (by omega) rfl) ?_
                  refine i_221_162 (x := 1) rfl ?_
                  refine i_221_164 (b_eq (a := S 156 ((c).toNat)) (b := 1) ⟨by omega, by omega⟩ ⟨by decide, by decide⟩ fun c82 => ?_) (b_ne (a := S 156 ((c).toNat)) (b := 1) ⟨by omega, by omega⟩ ⟨by decide, by decide⟩ fun c82 => ?_)
                  · refine i_221_173 (x := 1) rfl ?_
                    refine i_221_175 (fun c => absurd c (by decide)) (fun _ => ?_)
                    refine i_221_178 (x := 128) rfl ?_
                    refine i_221_179 (x := Int32.ofInt r) rfl ?_
                    refine i_221_180 ?_
                    refine i_221_181 (x := 1) rfl ?_
                    have hobj := hR.c128
                    obtain ⟨w, hrun, hR⟩ := s_special (d := d + 6) (r := r) (k := 1) (s := 1) hR (by omega) (by omega) (by omega)
                    refine i_221_183 hobj (Nat.le_of_ble_eq_true rfl) hrun ?_
                    refine i_221_186 ?_
                    have eo : sFus S V r.toNat a.toNat b.toNat c.toNat mode = oS 1 1 (S 128 19) := by clear hR hrun; unfold sFus; first | rw [if_pos (by omega)] | (rw [if_neg (by omega), if_pos (by unfold xorI; first | rw [if_pos (by omega)]; omega | rw [if_neg (by omega)]; omega | omega)]; done) | (rw [if_neg (by omega), if_neg (by unfold xorI; first | (rw [if_pos (by omega)]; omega) | (rw [if_neg (by omega)]; omega) | omega), if_pos (by omega)]; first | done | (congr 1; unfold xorI; first | exact if_pos (by omega) | exact if_neg (by omega))) | (rw [if_neg (by omega), if_neg (by omega), if_neg (by omega), if_pos (by omega)])
                    rw [eo]
                    exact ⟨rfl, _, _, hR, oP_special (by omega) (by decide) nS.refl nV.refl rfl⟩
                  · refine i_221_167 (x := 128) rfl ?_
                    refine i_221_168 (x := Int32.ofInt r) rfl ?_
                    have hobj := hR.c128
                    obtain ⟨w, hrun, hR⟩ := s_invalid (d := d + 5) (r := r) hR (by omega) (by omega)
                    refine i_221_169 hobj (Nat.le_of_ble_eq_true rfl) hrun ?_
                    refine i_221_172 ?_
                    have eo : sFus S V r.toNat a.toNat b.toNat c.toNat mode = oS 0 0 (zor (S 128 19) 8) := by clear hR hrun; unfold sFus; first | rw [if_pos (by omega)] | (rw [if_neg (by omega), if_pos (by unfold xorI; first | rw [if_pos (by omega)]; omega | rw [if_neg (by omega)]; omega | omega)]; done) | (rw [if_neg (by omega), if_neg (by unfold xorI; first | (rw [if_pos (by omega)]; omega) | (rw [if_neg (by omega)]; omega) | omega), if_pos (by omega)]; first | done | (congr 1; unfold xorI; first | exact if_pos (by omega) | exact if_neg (by omega))) | (rw [if_neg (by omega), if_neg (by omega), if_neg (by omega), if_pos (by omega)])
                    rw [eo]
                    exact ⟨rfl, _, _, hR, oP_flag (by omega) (by decide) nS.refl nV.refl rfl⟩
              · refine i_221_126 (x := 128) rfl ?_
                refine i_221_127 (x := Int32.ofInt r) rfl ?_
                refine i_221_128 ?_
                refine i_221_129 ?_
                have hobj := hR.c128
                obtain ⟨w, hrun, hR⟩ := s_special (d := d + 6) (r := r) (k := 0) (s := 0) hR (by omega) (by omega) (by omega)
                refine i_221_130 hobj (Nat.le_of_ble_eq_true rfl) hrun ?_
                refine i_221_133 ?_
                have eo : sFus S V r.toNat a.toNat b.toNat c.toNat mode = oS 0 0 (S 128 19) := by clear hR hrun; unfold sFus; first | rw [if_pos (by omega)] | (rw [if_neg (by omega), if_pos (by unfold xorI; first | rw [if_pos (by omega)]; omega | rw [if_neg (by omega)]; omega | omega)]; done) | (rw [if_neg (by omega), if_neg (by unfold xorI; first | (rw [if_pos (by omega)]; omega) | (rw [if_neg (by omega)]; omega) | omega), if_pos (by omega)]; first | done | (congr 1; unfold xorI; first | exact if_pos (by omega) | exact if_neg (by omega))) | (rw [if_neg (by omega), if_neg (by omega), if_neg (by omega), if_pos (by omega)])
                rw [eo]
                exact ⟨rfl, _, _, hR, oP_special (by omega) (by decide) nS.refl nV.refl rfl⟩
  obtain ⟨o, w', h1, rfl, h2⟩ := key.run
  exact ⟨w', h1, h2⟩
theorem b_fus {d : Nat} {w : xW} {r a b c mode : Int} (b_r : -2147483648 ≤ r ∧ r < 2147483648) (b_a : -2147483648 ≤ a ∧ a < 2147483648) (b_b : -2147483648 ≤ b ∧ b < 2147483648) (b_c : -2147483648 ≤ c ∧ c < 2147483648) (b_mode : -2147483648 ≤ mode ∧ mode < 2147483648) (h : ¬ ((0 ≤ r ∧ r ≤ 15) ∧ (0 ≤ a ∧ a ≤ 15) ∧ (0 ≤ b ∧ b ≤ 15) ∧ (0 ≤ c ∧ c ≤ 15) ∧ (0 ≤ mode ∧ mode ≤ 4))) : xRun (d + 8) 221 [Value.ref 128, Value.int (Int32.ofInt r), Value.int (Int32.ofInt a), Value.int (Int32.ofInt b), Value.int (Int32.ofInt c), Value.int (Int32.ofInt mode)] w (.inr w.length) (w ++ [.inr (14, [])]) := by
  refine xRun.of ?_
  refine i_221_0 (x := Int32.ofInt r) rfl ?_
  rcases Classical.em (0 ≤ r ∧ r ≤ 15) with hc1 | hc1
  · have hrun := s_reg1 (d := d + 5) (w := w) (r := r) (by omega) hc1
    refine i_221_1 (Nat.le_of_ble_eq_true rfl) hrun ?_
    refine i_221_4 (x := Int32.ofInt a) rfl ?_
    rcases Classical.em (0 ≤ a ∧ a ≤ 15) with hc2 | hc2
    · have hrun := s_reg1 (d := d + 5) (w := w) (r := a) (by omega) hc2
      refine i_221_5 (Nat.le_of_ble_eq_true rfl) hrun ?_
      refine i_221_8 (x := Int32.ofInt b) rfl ?_
      rcases Classical.em (0 ≤ b ∧ b ≤ 15) with hc3 | hc3
      · have hrun := s_reg1 (d := d + 5) (w := w) (r := b) (by omega) hc3
        refine i_221_9 (Nat.le_of_ble_eq_true rfl) hrun ?_
        refine i_221_12 (x := Int32.ofInt c) rfl ?_
        rcases Classical.em (0 ≤ c ∧ c ≤ 15) with hc4 | hc4
        · have hrun := s_reg1 (d := d + 5) (w := w) (r := c) (by omega) hc4
          refine i_221_14 (Nat.le_of_ble_eq_true rfl) hrun ?_
          refine i_221_17 (x := Int32.ofInt mode) rfl ?_
          rcases Classical.em (0 ≤ mode ∧ mode ≤ 4) with hc5 | hc5
          · have hrun := s_mode1 (d := d + 5) (w := w) (r := mode) (by omega) hc5
            refine i_221_19 (Nat.le_of_ble_eq_true rfl) hrun ?_
            exfalso; omega
          · have hrun := s_mode0 (d := d) (w := w) (r := mode) (by omega) hc5
            refine j_221_19 (Nat.le_of_ble_eq_true rfl) hrun (xDone.t (ci := 14) xgl rfl rfl ?_)
            exact ⟨rfl, rfl⟩
        · have hrun := s_reg0 (d := d) (w := w) (r := c) (by omega) hc4
          refine j_221_14 (Nat.le_of_ble_eq_true rfl) hrun (xDone.t (ci := 14) xgl rfl rfl ?_)
          exact ⟨rfl, rfl⟩
      · have hrun := s_reg0 (d := d) (w := w) (r := b) (by omega) hc3
        refine j_221_9 (Nat.le_of_ble_eq_true rfl) hrun (xDone.t (ci := 14) xgl rfl rfl ?_)
        exact ⟨rfl, rfl⟩
    · have hrun := s_reg0 (d := d) (w := w) (r := a) (by omega) hc2
      refine j_221_5 (Nat.le_of_ble_eq_true rfl) hrun (xDone.t (ci := 14) xgl rfl rfl ?_)
      exact ⟨rfl, rfl⟩
  · have hrun := s_reg0 (d := d) (w := w) (r := r) (by omega) hc1
    refine j_221_1 (Nat.le_of_ble_eq_true rfl) hrun (xDone.t (ci := 14) xgl rfl rfl ?_)
    exact ⟨rfl, rfl⟩
