/-! Addition of the class: a sum under way; finish -/
/-- a sum under way -/
def aS (S : Nat → Nat → Int) (V : Nat → Nat) (S1 : Nat → Nat → Int) (V1 : Nat → Nat) (nan inv pi mi b : Int) (P N : Nat) (num pz nz : Int) : Prop :=
  nC S S1 ∧ nW V V1 ∧ S1 19 4 = b ∧ S1 19 5 = nan ∧ S1 19 6 = inv ∧ S1 19 7 = pi ∧ S1 19 8 = mi ∧ S1 19 9 = num ∧ S1 19 10 = pz ∧ S1 19 11 = nz ∧ V1 20 = P ∧ V1 22 = N
def sFin (p least greatest gradual f mode nan inv pi mi b : Int) (P N : Nat) (num pz nz : Int) : OO :=
  if nan ≠ 0 then oS 0 0 f else if inv ≠ 0 ∨ (pi ≠ 0 ∧ mi ≠ 0) then oS 0 0 (zor f 8) else if pi ≠ 0 ∨ mi ≠ 0 then oS 1 mi f
  else sumS p least greatest gradual f mode P N b (if num = 0 then 1 else 0) pz nz
theorem cOut.near {S S1 S' : Nat → Nat → Int} {V V1 V' : Nat → Nat} {t : Nat} {o : OO} (h1 : nC S S1) (h2 : nW V V1) (h : cOut S1 S' V1 V' t o) : cOut S S' V V' t o := by
  obtain ⟨a1, a2, a3, a4, a5, a6, a7, a8⟩ := h
  exact ⟨a1, a2, a3, a4, a5, fun b j hb g1 g2 => (a6 b j hb g1 g2).trans (h1.1 b j hb), h1.2.trans a7, fun k k1 k2 k3 => (a8 k k1 k2 k3).trans (h2 k k1 k2)⟩
section
variable {w0 w : xW} {L Z : Nat} {S : Nat → Nat → Int} {V : Nat → Nat} {d h t r : Nat}
set_option maxHeartbeats 8000000 in
theorem x_fin {r mode : Int} (hR : cX w0 L Z S V w) (hI : cI S V) (hr : 0 ≤ r ∧ r ≤ 15) (hmo : 0 ≤ mode ∧ mode ≤ 4) (hf5 : S 19 5 = 0 ∨ S 19 5 = 1) (hf6 : S 19 6 = 0 ∨ S 19 6 = 1) (hf7 : S 19 7 = 0 ∨ S 19 7 = 1) (hf8 : S 19 8 = 0 ∨ S 19 8 = 1) (hf9 : S 19 9 = 0 ∨ S 19 9 = 1) (hf10 : S 19 10 = 0 ∨ S 19 10 = 1) (hf11 : S 19 11 = 0 ∨ S 19 11 = 1) (hb : -100000 ≤ S 19 4 ∧ S 19 4 ≤ 100000) (hP : xbl (V 20) ≤ 600000) (hN : xbl (V 22) ≤ 600000) : ∃ w', xRun (d + 10) 64 [Value.ref 19, Value.ref 78, Value.ref (30 + 3 * r.toNat), Value.int (Int32.ofInt mode)] w (.inl (some (.int (Int32.ofInt (sFin (S (30 + 3 * r.toNat) 0) (S 78 0) (S 78 1) (S 78 2) (S 78 3) mode (S 19 5) (S 19 6) (S 19 7) (S 19 8) (S 19 4) (V 20) (V 22) (S 19 9) (S 19 10) (S 19 11)).2.2.2.2.1)))) w' ∧ ∃ S' V', cX w0 L Z S' V' w' ∧ cOut S S' V V' (30 + 3 * r.toNat) (sFin (S (30 + 3 * r.toNat) 0) (S 78 0) (S 78 1) (S 78 2) (S 78 3) mode (S 19 5) (S 19 6) (S 19 7) (S 19 8) (S 19 4) (V 20) (V 22) (S 19 9) (S 19 10) (S 19 11)) := by
  have key : ∀ lv, xld lv 0 = some (Value.ref 19) → xld lv 1 = some (Value.ref 78) → xld lv 2 = some (Value.ref (30 + 3 * r.toNat)) → xld lv 3 = some (Value.int (Int32.ofInt mode)) → xEv (d + 10) 64 0 lv [] w (fun o w' => o = .inl (some (.int (Int32.ofInt (sFin (S (30 + 3 * r.toNat) 0) (S 78 0) (S 78 1) (S 78 2) (S 78 3) mode (S 19 5) (S 19 6) (S 19 7) (S 19 8) (S 19 4) (V 20) (V 22) (S 19 9) (S 19 10) (S 19 11)).2.2.2.2.1))) ∧ ∃ S' V', cX w0 L Z S' V' w' ∧ cOut S S' V V' (30 + 3 * r.toNat) (sFin (S (30 + 3 * r.toNat) 0) (S 78 0) (S 78 1) (S 78 2) (S 78 3) mode (S 19 5) (S 19 6) (S 19 7) (S 19 8) (S 19 4) (V 20) (V 22) (S 19 9) (S 19 10) (S 19 11))) := by
    intro lv l0 l1 l2 l3
    obtain ⟨hp_r, hk_r, hn_r, ht_r, hx_r, hz_r⟩ := hI.1 r.toNat (by omega)
    have hi_l := hI.2.1
    have hi_g := hI.2.2.1
    refine i_64_0 (x := 19) l0 ?_
    refine i_64_1 (v := Value.int (Int32.ofInt (S 19 5))) (hR.k5 kq_19) rfl ?_
    refine i_64_4 (z_eq (a := S 19 5) ⟨by omega, by omega⟩ fun c0 => ?_) (z_ne (a := S 19 5) ⟨by omega, by omega⟩ fun c0 => ?_)
    · refine i_64_12 (x := 19) l0 ?_
      refine i_64_13 (v := Value.int (Int32.ofInt (S 19 6))) (hR.k5 kq_19) rfl ?_
      refine i_64_16 (z_ne (a := S 19 6) ⟨by omega, by omega⟩ fun c1 => ?_) (z_eq (a := S 19 6) ⟨by omega, by omega⟩ fun c1 => ?_)
      · refine i_64_33 (x := 78) l1 ?_
        refine i_64_34 (x := 30 + 3 * r.toNat) l2 ?_
        have hobj := hR.k1 kq_78
        obtain ⟨w, hrun, hR⟩ := x_refuse (d := d + 6) (g := 78) (t := 30 + 3 * r.toNat) hR kq_78 (kd_reg (r := r.toNat) (by omega))
        refine i_64_35 hobj (Nat.le_of_ble_eq_true rfl) hrun ?_
        refine i_64_38 ?_
        have eo : sFin (S (30 + 3 * r.toNat) 0) (S 78 0) (S 78 1) (S 78 2) (S 78 3) mode (S 19 5) (S 19 6) (S 19 7) (S 19 8) (S 19 4) (V 20) (V 22) (S 19 9) (S 19 10) (S 19 11) = oS 0 0 (zor (S 78 3) 8) := by clear hR; simp only [sFin, sumS]; grind
        rw [eo]
        exact ⟨rfl, _, _, hR, cP_flag (by first | omega | exact bb_01 _) (by decide) nC.refl nW.refl (by omega)⟩
      · refine i_64_19 (x := 19) l0 ?_
        refine i_64_20 (v := Value.int (Int32.ofInt (S 19 7))) (hR.k5 kq_19) rfl ?_
        refine i_64_23 (z_eq (a := S 19 7) ⟨by omega, by omega⟩ fun c2 => ?_) (z_ne (a := S 19 7) ⟨by omega, by omega⟩ fun c2 => ?_)
        · refine i_64_39 (x := 19) l0 ?_
          refine i_64_40 (v := Value.int (Int32.ofInt (S 19 7))) (hR.k5 kq_19) rfl ?_
          refine i_64_43 (z_ne (a := S 19 7) ⟨by omega, by omega⟩ fun c3 => absurd c3 (by omega)) (z_eq (a := S 19 7) ⟨by omega, by omega⟩ fun c3 => ?_)
          refine i_64_46 (x := 19) l0 ?_
          refine i_64_47 (v := Value.int (Int32.ofInt (S 19 8))) (hR.k5 kq_19) rfl ?_
          refine i_64_50 (z_eq (a := S 19 8) ⟨by omega, by omega⟩ fun c4 => ?_) (z_ne (a := S 19 8) ⟨by omega, by omega⟩ fun c4 => ?_)
          · refine i_64_62 (x := 19) l0 ?_
            refine i_64_63 (v := Value.ref 20) (hR.k5 kq_19) rfl ?_
            refine i_64_66 (x := 19) l0 ?_
            refine i_64_67 (v := Value.ref 22) (hR.k5 kq_19) rfl ?_
            obtain ⟨fs, hobj⟩ := hR.nat kq_20
            have hrun := X_ord (d := d + 9) (h := 20) (h2 := 22) (u := V 20) (u2 := V 22) hR kq_20 kq_22 (rfl) (rfl)
            have hcmp := ncmp_3 (V 20) (V 22)
            refine i_64_70 hobj (Nat.le_of_ble_eq_true rfl) hrun ?_
            refine i_64_73 rfl ?_
            refine lgen1 (i := 4) (v := Value.int (Int32.ofInt (ncmp (V 20) (V 22)))) (fun lv lg ls => ?_)
            replace l0 := lg 0 _ rfl rfl l0
            replace l1 := lg 1 _ rfl rfl l1
            replace l2 := lg 2 _ rfl rfl l2
            replace l3 := lg 3 _ rfl rfl l3
            have l4 := ls
            refine i_64_75 (x := Int32.ofInt (ncmp (V 20) (V 22))) l4 ?_
            refine i_64_77 (z_ne (a := ncmp (V 20) (V 22)) ⟨by omega, by omega⟩ fun c5 => ?_) (z_eq (a := ncmp (V 20) (V 22)) ⟨by omega, by omega⟩ fun c5 => ?_)
            · refine i_64_132 (x := 19) l0 ?_
              refine i_64_133 (v := Value.ref 26) (hR.k5 kq_19) rfl ?_
              refine i_64_136 (x := Int32.ofInt (ncmp (V 20) (V 22))) l4 ?_
              refine i_64_138 (z_ge (a := ncmp (V 20) (V 22)) ⟨by omega, by omega⟩ fun c6 => ?_) (z_lt (a := ncmp (V 20) (V 22)) ⟨by omega, by omega⟩ fun c6 => ?_)
              · refine i_64_145 ?_
                refine i_64_146 (fs2 := f4 26 (u1 (S 26) 0 0)) (hR.k4 kq_26) rfl (Nat.le_of_ble_eq_true rfl) rfl (h7k kq_26 (by decide)) ?_
                refine xgen (P := cX w0 L Z (u2 S 26 0 0) V) (hR.p4 kq_26) (fun w hR => ?_)
                refine i_64_149 (x := 19) l0 ?_
                refine i_64_150 (v := Value.ref 26) (hR.k5 kq_19) rfl ?_
                refine i_64_153 (v := Value.ref 27) (hR.k4 kq_26) rfl ?_
                refine i_64_156 (x := Int32.ofInt (ncmp (V 20) (V 22))) l4 ?_
                refine i_64_158 (z_ge (a := ncmp (V 20) (V 22)) ⟨by omega, by omega⟩ fun c7 => ?_) (z_lt (a := ncmp (V 20) (V 22)) ⟨by omega, by omega⟩ fun c7 => absurd c7 (by omega))
                refine i_64_168 (x := 19) l0 ?_
                refine i_64_169 (v := Value.ref 20) (hR.k5 kq_19) rfl ?_
                obtain ⟨fs, hobj⟩ := hR.nat kq_27
                obtain ⟨w, hrun, hR⟩ := X_set (d := d + 6) (h := 27) (h2 := 20) (u := V 20) hR kq_27 kq_20 (by decide) (rfl) (by omega)
                refine i_64_172 hobj (Nat.le_of_ble_eq_true rfl) hrun ?_
                refine i_64_175 (x := 19) l0 ?_
                refine i_64_176 (v := Value.ref 26) (hR.k5 kq_19) rfl ?_
                refine i_64_179 (v := Value.ref 27) (hR.k4 kq_26) rfl ?_
                refine i_64_182 (x := Int32.ofInt (ncmp (V 20) (V 22))) l4 ?_
                refine i_64_184 (z_ge (a := ncmp (V 20) (V 22)) ⟨by omega, by omega⟩ fun c8 => ?_) (z_lt (a := ncmp (V 20) (V 22)) ⟨by omega, by omega⟩ fun c8 => absurd c8 (by omega))
                refine i_64_194 (x := 19) l0 ?_
                refine i_64_195 (v := Value.ref 22) (hR.k5 kq_19) rfl ?_
                obtain ⟨fs, hobj⟩ := hR.nat kq_27
                obtain ⟨w, hrun, hR⟩ := X_sub (d := d + 8) (h := 27) (h2 := 22) (u := V 20) (u2 := V 22) hR kq_27 kq_22 (by decide) (uv_s) ((uv_n (by omega)).trans (rfl)) (by omega)
                rw [uvv] at hR
                refine i_64_198 hobj (Nat.le_of_ble_eq_true rfl) hrun ?_
                refine i_64_201 (x := 19) l0 ?_
                refine i_64_202 (v := Value.ref 26) (hR.k5 kq_19) rfl ?_
                refine i_64_205 (x := 19) l0 ?_
                refine i_64_206 (v := Value.int (Int32.ofInt ((u2 S 26 0 0) 19 4))) (hR.k5 kq_19) rfl ?_
                rw [show Int32.ofInt ((u2 S 26 0 0) 19 4) = Int32.ofInt (S 19 4) by rw [u2_eq, if_neg (fun e => absurd e.2 (by decide))]]
                refine i_64_209 (fs2 := f4 26 (u1 ((u2 S 26 0 0) 26) 2 (S 19 4))) (hR.k4 kq_26) (Nat.le_of_ble_eq_true rfl) rfl (h7k kq_26 (by decide)) ?_
                refine xgen (P := cX w0 L Z (u2 (u2 S 26 0 0) 26 2 (S 19 4)) (uv V 27 ((V 20) - (V 22)))) (hR.p4 kq_26) (fun w hR => ?_)
                refine i_64_212 (x := 19) l0 ?_
                refine i_64_213 (v := Value.ref 26) (hR.k5 kq_19) rfl ?_
                refine i_64_216 ?_
                refine i_64_217 (fs2 := f4 26 (u1 ((u2 (u2 S 26 0 0) 26 2 (S 19 4)) 26) 3 0)) (hR.k4 kq_26) rfl (Nat.le_of_ble_eq_true rfl) rfl (h7k kq_26 (by decide)) ?_
                refine xgen (P := cX w0 L Z (u2 (u2 (u2 S 26 0 0) 26 2 (S 19 4)) 26 3 0) (uv V 27 ((V 20) - (V 22)))) (hR.p4 kq_26) (fun w hR => ?_)
                refine i_64_220 (x := 78) l1 ?_
                refine i_64_221 (x := 30 + 3 * r.toNat) l2 ?_
                refine i_64_222 (x := 19) l0 ?_
                refine i_64_223 (v := Value.ref 26) (hR.k5 kq_19) rfl ?_
                refine i_64_226 (x := Int32.ofInt mode) l3 ?_
                have hobj := hR.k1 kq_78
                have ep : (u2 (u2 (u2 S 26 0 0) 26 2 (S 19 4)) 26 3 0) (30 + 3 * r.toNat) 0 = S (30 + 3 * r.toNat) 0 := by rw [u2_eq, if_neg (fun e => absurd e.2 (by decide)), u2_eq, if_neg (fun e => absurd e.2 (by decide)), u2_eq, if_neg (fun e => absurd e.1 (by omega))]
                have el : (u2 (u2 (u2 S 26 0 0) 26 2 (S 19 4)) 26 3 0) 78 0 = S 78 0 := by rw [u2_eq, if_neg (fun e => absurd e.2 (by decide)), u2_eq, if_neg (fun e => absurd e.2 (by decide)), u2_eq, if_neg (fun e => absurd e.1 (by decide))]
                have eg : (u2 (u2 (u2 S 26 0 0) 26 2 (S 19 4)) 26 3 0) 78 1 = S 78 1 := by rw [u2_eq, if_neg (fun e => absurd e.2 (by decide)), u2_eq, if_neg (fun e => absurd e.2 (by decide)), u2_eq, if_neg (fun e => absurd e.2 (by decide))]
                have ed : (u2 (u2 (u2 S 26 0 0) 26 2 (S 19 4)) 26 3 0) 78 2 = S 78 2 := by rw [u2_eq, if_neg (fun e => absurd e.2 (by decide)), u2_eq, if_neg (fun e => absurd e.1 (by decide)), u2_eq, if_neg (fun e => absurd e.2 (by decide))]
                have ef : (u2 (u2 (u2 S 26 0 0) 26 2 (S 19 4)) 26 3 0) 78 3 = S 78 3 := by rw [u2_eq, if_neg (fun e => absurd e.1 (by decide)), u2_eq, if_neg (fun e => absurd e.2 (by decide)), u2_eq, if_neg (fun e => absurd e.2 (by decide))]
                have es : (u2 (u2 (u2 S 26 0 0) 26 2 (S 19 4)) 26 3 0) 26 0 = 0 := by rw [u2_eq, if_neg (fun e => absurd e.2 (by decide)), u2_eq, if_neg (fun e => absurd e.2 (by decide)), u2_eq, if_pos ⟨rfl, rfl⟩]
                have ec : (u2 (u2 (u2 S 26 0 0) 26 2 (S 19 4)) 26 3 0) 26 2 = S 19 4 := by rw [u2_eq, if_neg (fun e => absurd e.2 (by decide)), u2_eq, if_pos ⟨rfl, rfl⟩]
                have em : (u2 (u2 (u2 S 26 0 0) 26 2 (S 19 4)) 26 3 0) 26 3 = 0 := by rw [u2_eq, if_pos ⟨rfl, rfl⟩]
                have ev : (uv V 27 ((V 20) - (V 22))) 27 = (V 20) - (V 22) := uv_s
                obtain ⟨w, hrun, S10, V10, hR, hP⟩ := x_settle (d := d) (g := 78) (t := 30 + 3 * r.toNat) (h := 26) (mode := mode) hR kq_78 (kd_reg (r := r.toNat) (by omega)) kq_26 (by rw [ep]; omega) (by rw [es]; first | omega | exact bb_01 _) (by rw [em]; omega) (by omega) (by rw [ev]; omega) (by rw [ev]; exact Nat.le_trans (xbl_mono (Nat.sub_le _ _)) (by omega)) (by rw [ec]; omega) (by rw [el, eg]; omega) (by rw [ed]; omega) (by rw [ep, el, ed, ev, ec, em]; exact fun _ _ => Or.inl rfl)
                rw [ep, el, eg, ed, ef, es, ec, em, ev] at hrun hP
                refine i_64_227 hobj (Nat.le_of_ble_eq_true rfl) hrun ?_
                refine i_64_230 ?_
                have eo : sFin (S (30 + 3 * r.toNat) 0) (S 78 0) (S 78 1) (S 78 2) (S 78 3) mode (S 19 5) (S 19 6) (S 19 7) (S 19 8) (S 19 4) (V 20) (V 22) (S 19 9) (S 19 10) (S 19 11) = oR (S (30 + 3 * r.toNat) 0) (S 78 0) (S 78 1) (S 78 2) 0 mode 0 ((V 20) - (V 22)) (S 19 4) (S 78 3) := by clear hR; simp only [sFin, sumS]; rw [if_neg (by omega), if_neg (by omega), if_neg (by omega), if_neg (by omega)]; first | (rw [if_pos (by omega), if_pos (by omega)]; done) | (rw [if_neg (by omega), if_neg (by omega)]; done)
                rw [eo]
                exact ⟨rfl, _, _, hR, cP_round hP (by first | omega | exact bb_01 _) (nC.up (nC.up (nC.up nC.refl (by unfold cKeep; omega) (by omega)) (by unfold cKeep; omega) (by omega)) (by unfold cKeep; omega) (by omega)) (nW.up nW.refl (by omega)) (by omega)⟩
              · refine i_64_141 ?_
                refine i_64_142 ?_
                refine i_64_146 (fs2 := f4 26 (u1 (S 26) 0 1)) (hR.k4 kq_26) rfl (Nat.le_of_ble_eq_true rfl) rfl (h7k kq_26 (by decide)) ?_
                refine xgen (P := cX w0 L Z (u2 S 26 0 1) V) (hR.p4 kq_26) (fun w hR => ?_)
                refine i_64_149 (x := 19) l0 ?_
                refine i_64_150 (v := Value.ref 26) (hR.k5 kq_19) rfl ?_
                refine i_64_153 (v := Value.ref 27) (hR.k4 kq_26) rfl ?_
                refine i_64_156 (x := Int32.ofInt (ncmp (V 20) (V 22))) l4 ?_
                refine i_64_158 (z_ge (a := ncmp (V 20) (V 22)) ⟨by omega, by omega⟩ fun c10 => absurd c10 (by omega)) (z_lt (a := ncmp (V 20) (V 22)) ⟨by omega, by omega⟩ fun c10 => ?_)
                refine i_64_161 (x := 19) l0 ?_
                refine i_64_162 (v := Value.ref 22) (hR.k5 kq_19) rfl ?_
                refine i_64_165 ?_
                obtain ⟨fs, hobj⟩ := hR.nat kq_27
                obtain ⟨w, hrun, hR⟩ := X_set (d := d + 6) (h := 27) (h2 := 22) (u := V 22) hR kq_27 kq_22 (by decide) (rfl) (by omega)
                refine i_64_172 hobj (Nat.le_of_ble_eq_true rfl) hrun ?_
                refine i_64_175 (x := 19) l0 ?_
                refine i_64_176 (v := Value.ref 26) (hR.k5 kq_19) rfl ?_
                refine i_64_179 (v := Value.ref 27) (hR.k4 kq_26) rfl ?_
                refine i_64_182 (x := Int32.ofInt (ncmp (V 20) (V 22))) l4 ?_
                refine i_64_184 (z_ge (a := ncmp (V 20) (V 22)) ⟨by omega, by omega⟩ fun c11 => absurd c11 (by omega)) (z_lt (a := ncmp (V 20) (V 22)) ⟨by omega, by omega⟩ fun c11 => ?_)
                refine i_64_187 (x := 19) l0 ?_
                refine i_64_188 (v := Value.ref 20) (hR.k5 kq_19) rfl ?_
                refine i_64_191 ?_
                obtain ⟨fs, hobj⟩ := hR.nat kq_27
                obtain ⟨w, hrun, hR⟩ := X_sub (d := d + 8) (h := 27) (h2 := 20) (u := V 22) (u2 := V 20) hR kq_27 kq_20 (by decide) (uv_s) ((uv_n (by omega)).trans (rfl)) (by omega)
                rw [uvv] at hR
                refine i_64_198 hobj (Nat.le_of_ble_eq_true rfl) hrun ?_
                refine i_64_201 (x := 19) l0 ?_
                refine i_64_202 (v := Value.ref 26) (hR.k5 kq_19) rfl ?_
                refine i_64_205 (x := 19) l0 ?_
                refine i_64_206 (v := Value.int (Int32.ofInt ((u2 S 26 0 1) 19 4))) (hR.k5 kq_19) rfl ?_
                rw [show Int32.ofInt ((u2 S 26 0 1) 19 4) = Int32.ofInt (S 19 4) by rw [u2_eq, if_neg (fun e => absurd e.2 (by decide))]]
                refine i_64_209 (fs2 := f4 26 (u1 ((u2 S 26 0 1) 26) 2 (S 19 4))) (hR.k4 kq_26) (Nat.le_of_ble_eq_true rfl) rfl (h7k kq_26 (by decide)) ?_
                refine xgen (P := cX w0 L Z (u2 (u2 S 26 0 1) 26 2 (S 19 4)) (uv V 27 ((V 22) - (V 20)))) (hR.p4 kq_26) (fun w hR => ?_)
                refine i_64_212 (x := 19) l0 ?_
                refine i_64_213 (v := Value.ref 26) (hR.k5 kq_19) rfl ?_
                refine i_64_216 ?_
                refine i_64_217 (fs2 := f4 26 (u1 ((u2 (u2 S 26 0 1) 26 2 (S 19 4)) 26) 3 0)) (hR.k4 kq_26) rfl (Nat.le_of_ble_eq_true rfl) rfl (h7k kq_26 (by decide)) ?_
                refine xgen (P := cX w0 L Z (u2 (u2 (u2 S 26 0 1) 26 2 (S 19 4)) 26 3 0) (uv V 27 ((V 22) - (V 20)))) (hR.p4 kq_26) (fun w hR => ?_)
                refine i_64_220 (x := 78) l1 ?_
                refine i_64_221 (x := 30 + 3 * r.toNat) l2 ?_
                refine i_64_222 (x := 19) l0 ?_
                refine i_64_223 (v := Value.ref 26) (hR.k5 kq_19) rfl ?_
                refine i_64_226 (x := Int32.ofInt mode) l3 ?_
                have hobj := hR.k1 kq_78
                have ep : (u2 (u2 (u2 S 26 0 1) 26 2 (S 19 4)) 26 3 0) (30 + 3 * r.toNat) 0 = S (30 + 3 * r.toNat) 0 := by rw [u2_eq, if_neg (fun e => absurd e.2 (by decide)), u2_eq, if_neg (fun e => absurd e.2 (by decide)), u2_eq, if_neg (fun e => absurd e.1 (by omega))]
                have el : (u2 (u2 (u2 S 26 0 1) 26 2 (S 19 4)) 26 3 0) 78 0 = S 78 0 := by rw [u2_eq, if_neg (fun e => absurd e.2 (by decide)), u2_eq, if_neg (fun e => absurd e.2 (by decide)), u2_eq, if_neg (fun e => absurd e.1 (by decide))]
                have eg : (u2 (u2 (u2 S 26 0 1) 26 2 (S 19 4)) 26 3 0) 78 1 = S 78 1 := by rw [u2_eq, if_neg (fun e => absurd e.2 (by decide)), u2_eq, if_neg (fun e => absurd e.2 (by decide)), u2_eq, if_neg (fun e => absurd e.2 (by decide))]
                have ed : (u2 (u2 (u2 S 26 0 1) 26 2 (S 19 4)) 26 3 0) 78 2 = S 78 2 := by rw [u2_eq, if_neg (fun e => absurd e.2 (by decide)), u2_eq, if_neg (fun e => absurd e.1 (by decide)), u2_eq, if_neg (fun e => absurd e.2 (by decide))]
                have ef : (u2 (u2 (u2 S 26 0 1) 26 2 (S 19 4)) 26 3 0) 78 3 = S 78 3 := by rw [u2_eq, if_neg (fun e => absurd e.1 (by decide)), u2_eq, if_neg (fun e => absurd e.2 (by decide)), u2_eq, if_neg (fun e => absurd e.2 (by decide))]
                have es : (u2 (u2 (u2 S 26 0 1) 26 2 (S 19 4)) 26 3 0) 26 0 = 1 := by rw [u2_eq, if_neg (fun e => absurd e.2 (by decide)), u2_eq, if_neg (fun e => absurd e.2 (by decide)), u2_eq, if_pos ⟨rfl, rfl⟩]
                have ec : (u2 (u2 (u2 S 26 0 1) 26 2 (S 19 4)) 26 3 0) 26 2 = S 19 4 := by rw [u2_eq, if_neg (fun e => absurd e.2 (by decide)), u2_eq, if_pos ⟨rfl, rfl⟩]
                have em : (u2 (u2 (u2 S 26 0 1) 26 2 (S 19 4)) 26 3 0) 26 3 = 0 := by rw [u2_eq, if_pos ⟨rfl, rfl⟩]
                have ev : (uv V 27 ((V 22) - (V 20))) 27 = (V 22) - (V 20) := uv_s
                obtain ⟨w, hrun, S13, V13, hR, hP⟩ := x_settle (d := d) (g := 78) (t := 30 + 3 * r.toNat) (h := 26) (mode := mode) hR kq_78 (kd_reg (r := r.toNat) (by omega)) kq_26 (by rw [ep]; omega) (by rw [es]; first | omega | exact bb_01 _) (by rw [em]; omega) (by omega) (by rw [ev]; omega) (by rw [ev]; exact Nat.le_trans (xbl_mono (Nat.sub_le _ _)) (by omega)) (by rw [ec]; omega) (by rw [el, eg]; omega) (by rw [ed]; omega) (by rw [ep, el, ed, ev, ec, em]; exact fun _ _ => Or.inl rfl)
                rw [ep, el, eg, ed, ef, es, ec, em, ev] at hrun hP
                refine i_64_227 hobj (Nat.le_of_ble_eq_true rfl) hrun ?_
                refine i_64_230 ?_
                have eo : sFin (S (30 + 3 * r.toNat) 0) (S 78 0) (S 78 1) (S 78 2) (S 78 3) mode (S 19 5) (S 19 6) (S 19 7) (S 19 8) (S 19 4) (V 20) (V 22) (S 19 9) (S 19 10) (S 19 11) = oR (S (30 + 3 * r.toNat) 0) (S 78 0) (S 78 1) (S 78 2) 1 mode 0 ((V 22) - (V 20)) (S 19 4) (S 78 3) := by clear hR; simp only [sFin, sumS]; rw [if_neg (by omega), if_neg (by omega), if_neg (by omega), if_neg (by omega)]; first | (rw [if_pos (by omega), if_pos (by omega)]; done) | (rw [if_neg (by omega), if_neg (by omega)]; done)
                rw [eo]
                exact ⟨rfl, _, _, hR, cP_round hP (by first | omega | exact bb_01 _) (nC.up (nC.up (nC.up nC.refl (by unfold cKeep; omega) (by omega)) (by unfold cKeep; omega) (by omega)) (by unfold cKeep; omega) (by omega)) (nW.up nW.refl (by omega)) (by omega)⟩
            · refine i_64_80 (x := 19) l0 ?_
              refine i_64_81 (v := Value.int (Int32.ofInt (S 19 9))) (hR.k5 kq_19) rfl ?_
              refine i_64_84 (z_ne (a := S 19 9) ⟨by omega, by omega⟩ fun c13 => ?_) (z_eq (a := S 19 9) ⟨by omega, by omega⟩ fun c13 => ?_)
              · refine i_64_102 ?_
                refine i_64_103 rfl ?_
                refine lgen1 (i := 5) (v := Value.int 0) (fun lv lg ls => ?_)
                replace l4 := lg 4 _ rfl rfl l4
                replace l0 := lg 0 _ rfl rfl l0
                replace l1 := lg 1 _ rfl rfl l1
                replace l2 := lg 2 _ rfl rfl l2
                replace l3 := lg 3 _ rfl rfl l3
                have l5 := ls
                refine i_64_105 (x := 30 + 3 * r.toNat) l2 ?_
                refine i_64_106 (x := 0) l5 ?_
                refine i_64_108 (fun _ => ?_) (fun c => absurd c (by decide))
                refine i_64_118 (x := Int32.ofInt mode) l3 ?_
                refine i_64_119 ?_
                refine i_64_120 (b_ne (a := mode) (b := 3) ⟨by omega, by omega⟩ ⟨by decide, by decide⟩ fun c14 => ?_) (b_eq (a := mode) (b := 3) ⟨by omega, by omega⟩ ⟨by decide, by decide⟩ fun c14 => ?_)
                · refine i_64_127 ?_
                  have hobj := hR.k2 (kd_reg (r := r.toNat) (by omega))
                  obtain ⟨w, hrun, hR⟩ := x_zero (d := d + 8) (t := 30 + 3 * r.toNat) (sg := 0) hR (kd_reg (r := r.toNat) (by omega)) (by first | omega | exact bb_01 _)
                  refine i_64_128 hobj (Nat.le_of_ble_eq_true rfl) hrun ?_
                  refine i_64_131 ?_
                  have eo : sFin (S (30 + 3 * r.toNat) 0) (S 78 0) (S 78 1) (S 78 2) (S 78 3) mode (S 19 5) (S 19 6) (S 19 7) (S 19 8) (S 19 4) (V 20) (V 22) (S 19 9) (S 19 10) (S 19 11) = oS 2 0 (S 78 3) := by clear hR; simp only [sFin, sumS]; grind
                  rw [eo]
                  exact ⟨rfl, _, _, hR, cP_special (by first | omega | exact bb_01 _) (by decide) nC.refl nW.refl rfl (by omega)⟩
                · refine i_64_123 ?_
                  refine i_64_124 ?_
                  have hobj := hR.k2 (kd_reg (r := r.toNat) (by omega))
                  obtain ⟨w, hrun, hR⟩ := x_zero (d := d + 8) (t := 30 + 3 * r.toNat) (sg := 1) hR (kd_reg (r := r.toNat) (by omega)) (by first | omega | exact bb_01 _)
                  refine i_64_128 hobj (Nat.le_of_ble_eq_true rfl) hrun ?_
                  refine i_64_131 ?_
                  have eo : sFin (S (30 + 3 * r.toNat) 0) (S 78 0) (S 78 1) (S 78 2) (S 78 3) mode (S 19 5) (S 19 6) (S 19 7) (S 19 8) (S 19 4) (V 20) (V 22) (S 19 9) (S 19 10) (S 19 11) = oS 2 1 (S 78 3) := by clear hR; simp only [sFin, sumS]; grind
                  rw [eo]
                  exact ⟨rfl, _, _, hR, cP_special (by first | omega | exact bb_01 _) (by decide) nC.refl nW.refl rfl (by omega)⟩
              · refine i_64_87 (x := 19) l0 ?_
                refine i_64_88 (v := Value.int (Int32.ofInt (S 19 10))) (hR.k5 kq_19) rfl ?_
                refine i_64_91 (x := 19) l0 ?_
                refine i_64_92 (v := Value.int (Int32.ofInt (S 19 11))) (hR.k5 kq_19) rfl ?_
                refine i_64_95 (b_eq (a := S 19 10) (b := S 19 11) ⟨by omega, by omega⟩ ⟨by omega, by omega⟩ fun c15 => ?_) (b_ne (a := S 19 10) (b := S 19 11) ⟨by omega, by omega⟩ ⟨by omega, by omega⟩ fun c15 => ?_)
                · refine i_64_102 ?_
                  refine i_64_103 rfl ?_
                  refine lgen1 (i := 5) (v := Value.int 0) (fun lv lg ls => ?_)
                  replace l4 := lg 4 _ rfl rfl l4
                  replace l0 := lg 0 _ rfl rfl l0
                  replace l1 := lg 1 _ rfl rfl l1
                  replace l2 := lg 2 _ rfl rfl l2
                  replace l3 := lg 3 _ rfl rfl l3
                  have l5 := ls
                  refine i_64_105 (x := 30 + 3 * r.toNat) l2 ?_
                  refine i_64_106 (x := 0) l5 ?_
                  refine i_64_108 (fun _ => ?_) (fun c => absurd c (by decide))
                  refine i_64_118 (x := Int32.ofInt mode) l3 ?_
                  refine i_64_119 ?_
                  refine i_64_120 (b_ne (a := mode) (b := 3) ⟨by omega, by omega⟩ ⟨by decide, by decide⟩ fun c16 => ?_) (b_eq (a := mode) (b := 3) ⟨by omega, by omega⟩ ⟨by decide, by decide⟩ fun c16 => ?_)
                  · refine i_64_127 ?_
                    have hobj := hR.k2 (kd_reg (r := r.toNat) (by omega))
                    obtain ⟨w, hrun, hR⟩ := x_zero (d := d + 8) (t := 30 + 3 * r.toNat) (sg := 0) hR (kd_reg (r := r.toNat) (by omega)) (by first | omega | exact bb_01 _)
                    refine i_64_128 hobj (Nat.le_of_ble_eq_true rfl) hrun ?_
                    refine i_64_131 ?_
                    have eo : sFin (S (30 + 3 * r.toNat) 0) (S 78 0) (S 78 1) (S 78 2) (S 78 3) mode (S 19 5) (S 19 6) (S 19 7) (S 19 8) (S 19 4) (V 20) (V 22) (S 19 9) (S 19 10) (S 19 11) = oS 2 0 (S 78 3) := by clear hR; simp only [sFin, sumS]; grind
                    rw [eo]
                    exact ⟨rfl, _, _, hR, cP_special (by first | omega | exact bb_01 _) (by decide) nC.refl nW.refl rfl (by omega)⟩
                  · refine i_64_123 ?_
                    refine i_64_124 ?_
                    have hobj := hR.k2 (kd_reg (r := r.toNat) (by omega))
                    obtain ⟨w, hrun, hR⟩ := x_zero (d := d + 8) (t := 30 + 3 * r.toNat) (sg := 1) hR (kd_reg (r := r.toNat) (by omega)) (by first | omega | exact bb_01 _)
                    refine i_64_128 hobj (Nat.le_of_ble_eq_true rfl) hrun ?_
                    refine i_64_131 ?_
                    have eo : sFin (S (30 + 3 * r.toNat) 0) (S 78 0) (S 78 1) (S 78 2) (S 78 3) mode (S 19 5) (S 19 6) (S 19 7) (S 19 8) (S 19 4) (V 20) (V 22) (S 19 9) (S 19 10) (S 19 11) = oS 2 1 (S 78 3) := by clear hR; simp only [sFin, sumS]; grind
                    rw [eo]
                    exact ⟨rfl, _, _, hR, cP_special (by first | omega | exact bb_01 _) (by decide) nC.refl nW.refl rfl (by omega)⟩
                · refine i_64_98 ?_
                  refine i_64_99 ?_
                  refine i_64_103 rfl ?_
                  refine lgen1 (i := 5) (v := Value.int 1) (fun lv lg ls => ?_)
                  replace l4 := lg 4 _ rfl rfl l4
                  replace l0 := lg 0 _ rfl rfl l0
                  replace l1 := lg 1 _ rfl rfl l1
                  replace l2 := lg 2 _ rfl rfl l2
                  replace l3 := lg 3 _ rfl rfl l3
                  have l5 := ls
                  refine i_64_105 (x := 30 + 3 * r.toNat) l2 ?_
                  refine i_64_106 (x := 1) l5 ?_
                  refine i_64_108 (fun c => absurd c (by decide)) (fun _ => ?_)
                  refine i_64_111 (x := 19) l0 ?_
                  refine i_64_112 (v := Value.int (Int32.ofInt (S 19 11))) (hR.k5 kq_19) rfl ?_
                  refine i_64_115 ?_
                  have hobj := hR.k2 (kd_reg (r := r.toNat) (by omega))
                  obtain ⟨w, hrun, hR⟩ := x_zero (d := d + 8) (t := 30 + 3 * r.toNat) (sg := S 19 11) hR (kd_reg (r := r.toNat) (by omega)) (by first | omega | exact bb_01 _)
                  refine i_64_128 hobj (Nat.le_of_ble_eq_true rfl) hrun ?_
                  refine i_64_131 ?_
                  have eo : sFin (S (30 + 3 * r.toNat) 0) (S 78 0) (S 78 1) (S 78 2) (S 78 3) mode (S 19 5) (S 19 6) (S 19 7) (S 19 8) (S 19 4) (V 20) (V 22) (S 19 9) (S 19 10) (S 19 11) = oS 2 (S 19 11) (S 78 3) := by clear hR; simp only [sFin, sumS]; grind
                  rw [eo]
                  exact ⟨rfl, _, _, hR, cP_special (by first | omega | exact bb_01 _) (by decide) nC.refl nW.refl rfl (by omega)⟩
          · refine i_64_53 (x := 30 + 3 * r.toNat) l2 ?_
            refine i_64_54 (x := 19) l0 ?_
            refine i_64_55 (v := Value.int (Int32.ofInt (S 19 8))) (hR.k5 kq_19) rfl ?_
            have hobj := hR.k2 (kd_reg (r := r.toNat) (by omega))
            obtain ⟨w, hrun, hR⟩ := x_inf (d := d + 8) (t := 30 + 3 * r.toNat) (sg := S 19 8) hR (kd_reg (r := r.toNat) (by omega)) (by first | omega | exact bb_01 _)
            refine i_64_58 hobj (Nat.le_of_ble_eq_true rfl) hrun ?_
            refine i_64_61 ?_
            have eo : sFin (S (30 + 3 * r.toNat) 0) (S 78 0) (S 78 1) (S 78 2) (S 78 3) mode (S 19 5) (S 19 6) (S 19 7) (S 19 8) (S 19 4) (V 20) (V 22) (S 19 9) (S 19 10) (S 19 11) = oS 1 (S 19 8) (S 78 3) := by clear hR; simp only [sFin, sumS]; grind
            rw [eo]
            exact ⟨rfl, _, _, hR, cP_special (by first | omega | exact bb_01 _) (by decide) nC.refl nW.refl rfl (by omega)⟩
        · refine i_64_26 (x := 19) l0 ?_
          refine i_64_27 (v := Value.int (Int32.ofInt (S 19 8))) (hR.k5 kq_19) rfl ?_
          refine i_64_30 (z_eq (a := S 19 8) ⟨by omega, by omega⟩ fun c17 => ?_) (z_ne (a := S 19 8) ⟨by omega, by omega⟩ fun c17 => ?_)
          · refine i_64_39 (x := 19) l0 ?_
            refine i_64_40 (v := Value.int (Int32.ofInt (S 19 7))) (hR.k5 kq_19) rfl ?_
            refine i_64_43 (z_ne (a := S 19 7) ⟨by omega, by omega⟩ fun c18 => ?_) (z_eq (a := S 19 7) ⟨by omega, by omega⟩ fun c18 => absurd c18 (by omega))
            refine i_64_53 (x := 30 + 3 * r.toNat) l2 ?_
            refine i_64_54 (x := 19) l0 ?_
            refine i_64_55 (v := Value.int (Int32.ofInt (S 19 8))) (hR.k5 kq_19) rfl ?_
            have hobj := hR.k2 (kd_reg (r := r.toNat) (by omega))
            obtain ⟨w, hrun, hR⟩ := x_inf (d := d + 8) (t := 30 + 3 * r.toNat) (sg := S 19 8) hR (kd_reg (r := r.toNat) (by omega)) (by first | omega | exact bb_01 _)
            refine i_64_58 hobj (Nat.le_of_ble_eq_true rfl) hrun ?_
            refine i_64_61 ?_
            have eo : sFin (S (30 + 3 * r.toNat) 0) (S 78 0) (S 78 1) (S 78 2) (S 78 3) mode (S 19 5) (S 19 6) (S 19 7) (S 19 8) (S 19 4) (V 20) (V 22) (S 19 9) (S 19 10) (S 19 11) = oS 1 (S 19 8) (S 78 3) := by clear hR; simp only [sFin, sumS]; grind
            rw [eo]
            exact ⟨rfl, _, _, hR, cP_special (by first | omega | exact bb_01 _) (by decide) nC.refl nW.refl rfl (by omega)⟩
          · refine i_64_33 (x := 78) l1 ?_
            refine i_64_34 (x := 30 + 3 * r.toNat) l2 ?_
            have hobj := hR.k1 kq_78
            obtain ⟨w, hrun, hR⟩ := x_refuse (d := d + 6) (g := 78) (t := 30 + 3 * r.toNat) hR kq_78 (kd_reg (r := r.toNat) (by omega))
            refine i_64_35 hobj (Nat.le_of_ble_eq_true rfl) hrun ?_
            refine i_64_38 ?_
            have eo : sFin (S (30 + 3 * r.toNat) 0) (S 78 0) (S 78 1) (S 78 2) (S 78 3) mode (S 19 5) (S 19 6) (S 19 7) (S 19 8) (S 19 4) (V 20) (V 22) (S 19 9) (S 19 10) (S 19 11) = oS 0 0 (zor (S 78 3) 8) := by clear hR; simp only [sFin, sumS]; grind
            rw [eo]
            exact ⟨rfl, _, _, hR, cP_flag (by first | omega | exact bb_01 _) (by decide) nC.refl nW.refl (by omega)⟩
    · refine i_64_7 (x := 30 + 3 * r.toNat) l2 ?_
      have hobj := hR.k2 (kd_reg (r := r.toNat) (by omega))
      obtain ⟨w, hrun, hR⟩ := x_nan (d := d + 8) (t := 30 + 3 * r.toNat) hR (kd_reg (r := r.toNat) (by omega))
      refine i_64_8 hobj (Nat.le_of_ble_eq_true rfl) hrun ?_
      refine i_64_11 ?_
      have eo : sFin (S (30 + 3 * r.toNat) 0) (S 78 0) (S 78 1) (S 78 2) (S 78 3) mode (S 19 5) (S 19 6) (S 19 7) (S 19 8) (S 19 4) (V 20) (V 22) (S 19 9) (S 19 10) (S 19 11) = oS 0 0 (S 78 3) := by clear hR; simp only [sFin, sumS]; grind
      rw [eo]
      exact ⟨rfl, _, _, hR, cP_special (by first | omega | exact bb_01 _) (by decide) nC.refl nW.refl rfl (by omega)⟩
  obtain ⟨o, w', h1, rfl, h2⟩ := (key (lv_args 0 [Value.ref 19, Value.ref 78, Value.ref (30 + 3 * r.toNat), Value.int (Int32.ofInt mode)]) rfl rfl rfl rfl).run
  exact ⟨w', h1, h2⟩
end
