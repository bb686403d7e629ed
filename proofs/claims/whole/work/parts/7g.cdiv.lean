/-! divide of the class -/
theorem quo_bl {x y : Nat} (hy : y ≠ 0) : xbl x ≤ xbl (x / y) + xbl y := by
  have h1 := Nat.lt_div_mul_add (a := x) (b := y) (by omega)
  have h2 := xbl_lt (x / y)
  have h3 := xbl_lt y
  have h4 : (x / y + 1) * y ≤ 2 ^ xbl (x / y) * 2 ^ xbl y := Nat.mul_le_mul h2 (by omega)
  rw [← Nat.pow_add, Nat.add_mul, Nat.one_mul] at h4
  exact xbl_le (by omega)
def sQuo2 (S : Nat → Nat → Int) (V : Nat → Nat) (r a b : Nat) (mode : Int) : OO := if S 154 a = 0 ∨ S 154 b = 0 then oS 0 0 (S 128 19) else sQuo S V r a b mode
section
variable {w0 w : xW} {L Z : Nat} {S : Nat → Nat → Int} {V : Nat → Nat} {d h t r : Nat}
set_option maxHeartbeats 8000000 in
theorem x_div {r a b mode : Int} (hR : cX w0 L Z S V w) (hI : cI S V) (hr : 0 ≤ r ∧ r ≤ 15) (ha : 0 ≤ a ∧ a ≤ 15) (hb : 0 ≤ b ∧ b ≤ 15) (hmo : 0 ≤ mode ∧ mode ≤ 4) : ∃ w', xRun (d + 10) 71 [Value.ref 93, Value.ref (30 + 3 * r.toNat), Value.ref (30 + 3 * a.toNat), Value.ref (30 + 3 * b.toNat), Value.int (Int32.ofInt mode)] w (.inl (some (.int (Int32.ofInt (sQuo2 (vS S) (vV V) r.toNat a.toNat b.toNat mode).2.2.2.2.1)))) w' ∧ ∃ S' V', cX w0 L Z S' V' w' ∧ cOut S S' V V' (30 + 3 * r.toNat) (sQuo2 (vS S) (vV V) r.toNat a.toNat b.toNat mode) := by
  have key : ∀ lv, xld lv 0 = some (Value.ref 93) → xld lv 1 = some (Value.ref (30 + 3 * r.toNat)) → xld lv 2 = some (Value.ref (30 + 3 * a.toNat)) → xld lv 3 = some (Value.ref (30 + 3 * b.toNat)) → xld lv 4 = some (Value.int (Int32.ofInt mode)) → xEv (d + 10) 71 0 lv [] w (fun o w' => o = .inl (some (.int (Int32.ofInt (sQuo2 (vS S) (vV V) r.toNat a.toNat b.toNat mode).2.2.2.2.1))) ∧ ∃ S' V', cX w0 L Z S' V' w' ∧ cOut S S' V V' (30 + 3 * r.toNat) (sQuo2 (vS S) (vV V) r.toNat a.toNat b.toNat mode)) := by
    intro lv l0 l1 l2 l3 l4
    obtain ⟨hp_r, hk_r, hn_r, ht_r, hx_r, hz_r⟩ := hI.1 r.toNat (by omega)
    obtain ⟨hp_a, hk_a, hn_a, ht_a, hx_a, hz_a⟩ := hI.1 a.toNat (by omega)
    obtain ⟨hp_b, hk_b, hn_b, ht_b, hx_b, hz_b⟩ := hI.1 b.toNat (by omega)
    have hi_l := hI.2.1
    have hi_g := hI.2.2.1
    have hm_a : S (30 + 3 * a.toNat) 1 = 3 → V (30 + 3 * a.toNat + 1) ≠ 0 := fun e => hI.nz (by omega) e
    have hm_b : S (30 + 3 * b.toNat) 1 = 3 → V (30 + 3 * b.toNat + 1) ≠ 0 := fun e => hI.nz (by omega) e
    have tail : ∀ sg lv, sg = xorI (S (30 + 3 * a.toNat) 2) (S (30 + 3 * b.toNat) 2) → (sg = 0 ∨ sg = 1) → xld lv 0 = some (Value.ref 93) → xld lv 1 = some (Value.ref (30 + 3 * r.toNat)) → xld lv 2 = some (Value.ref (30 + 3 * a.toNat)) → xld lv 3 = some (Value.ref (30 + 3 * b.toNat)) → xld lv 4 = some (Value.int (Int32.ofInt mode)) → xEv (d + 10) 71 16 lv [.int (Int32.ofInt sg)] w (fun o w' => o = .inl (some (.int (Int32.ofInt (sQuo2 (vS S) (vV V) r.toNat a.toNat b.toNat mode).2.2.2.2.1))) ∧ ∃ S' V', cX w0 L Z S' V' w' ∧ cOut S S' V V' (30 + 3 * r.toNat) (sQuo2 (vS S) (vV V) r.toNat a.toNat b.toNat mode)) := by
      intro sg lv hsg hsg1 l0 l1 l2 l3 l4
      refine i_71_16 rfl ?_
      refine lgen1 (i := 5) (v := Value.int (Int32.ofInt sg)) (fun lv lg ls => ?_)
      replace l0 := lg 0 _ rfl rfl l0
      replace l1 := lg 1 _ rfl rfl l1
      replace l2 := lg 2 _ rfl rfl l2
      replace l3 := lg 3 _ rfl rfl l3
      replace l4 := lg 4 _ rfl rfl l4
      have l5 := ls
      refine i_71_18 (x := 30 + 3 * a.toNat) l2 ?_
      refine i_71_19 (v := Value.int (Int32.ofInt (S (30 + 3 * a.toNat) 1))) (hR.k2 (kd_reg (r := a.toNat) (by omega))) rfl ?_
      refine i_71_22 (z_eq (a := S (30 + 3 * a.toNat) 1) ⟨by omega, by omega⟩ fun c20 => ?_) (z_ne (a := S (30 + 3 * a.toNat) 1) ⟨by omega, by omega⟩ fun c20 => ?_)
      · refine i_71_32 (x := 30 + 3 * r.toNat) l1 ?_
        have hobj := hR.k2 (kd_reg (r := r.toNat) (by omega))
        obtain ⟨w, hrun, hR⟩ := x_nan (d := d + 8) (t := 30 + 3 * r.toNat) hR (kd_reg (r := r.toNat) (by omega))
        refine i_71_33 hobj (Nat.le_of_ble_eq_true rfl) hrun ?_
        refine i_71_36 ?_
        have eo : sQuo2 (vS S) (vV V) r.toNat a.toNat b.toNat mode = oS 0 0 (S 78 3) := by clear hR; simp only [sQuo2, sQuo, vS_153, vS_154, vS_155, vS_156, vS_17, vS_18, vS_19, vS_20, vV_r]; grind
        rw [eo]
        exact ⟨rfl, _, _, hR, cP_special (by first | omega | exact bb_01 _) (by decide) nC.refl nW.refl rfl (by omega)⟩
      · refine i_71_25 (x := 30 + 3 * b.toNat) l3 ?_
        refine i_71_26 (v := Value.int (Int32.ofInt (S (30 + 3 * b.toNat) 1))) (hR.k2 (kd_reg (r := b.toNat) (by omega))) rfl ?_
        refine i_71_29 (z_ne (a := S (30 + 3 * b.toNat) 1) ⟨by omega, by omega⟩ fun c21 => ?_) (z_eq (a := S (30 + 3 * b.toNat) 1) ⟨by omega, by omega⟩ fun c21 => ?_)
        · refine i_71_37 (x := 30 + 3 * a.toNat) l2 ?_
          refine i_71_38 (v := Value.int (Int32.ofInt (S (30 + 3 * a.toNat) 1))) (hR.k2 (kd_reg (r := a.toNat) (by omega))) rfl ?_
          refine i_71_41 ?_
          refine i_71_42 (b_eq (a := S (30 + 3 * a.toNat) 1) (b := 3) ⟨by omega, by omega⟩ ⟨by decide, by decide⟩ fun c22 => ?_) (b_ne (a := S (30 + 3 * a.toNat) 1) (b := 3) ⟨by omega, by omega⟩ ⟨by decide, by decide⟩ fun c22 => ?_)
          · try replace ht_a := ht_a.resolve_left (by omega)
            try replace hx_a := hx_a.resolve_left (by omega)
            refine i_71_65 (x := 30 + 3 * a.toNat) l2 ?_
            refine i_71_66 (v := Value.int (Int32.ofInt (S (30 + 3 * a.toNat) 1))) (hR.k2 (kd_reg (r := a.toNat) (by omega))) rfl ?_
            refine i_71_69 ?_
            refine i_71_70 (b_ne (a := S (30 + 3 * a.toNat) 1) (b := 3) ⟨by omega, by omega⟩ ⟨by decide, by decide⟩ fun c23 => absurd c23 (by omega)) (b_eq (a := S (30 + 3 * a.toNat) 1) (b := 3) ⟨by omega, by omega⟩ ⟨by decide, by decide⟩ fun c23 => ?_)
            refine i_71_73 (x := 30 + 3 * b.toNat) l3 ?_
            refine i_71_74 (v := Value.int (Int32.ofInt (S (30 + 3 * b.toNat) 1))) (hR.k2 (kd_reg (r := b.toNat) (by omega))) rfl ?_
            refine i_71_77 ?_
            refine i_71_78 (b_ne (a := S (30 + 3 * b.toNat) 1) (b := 2) ⟨by omega, by omega⟩ ⟨by decide, by decide⟩ fun c24 => ?_) (b_eq (a := S (30 + 3 * b.toNat) 1) (b := 2) ⟨by omega, by omega⟩ ⟨by decide, by decide⟩ fun c24 => ?_)
            · refine i_71_95 (x := 30 + 3 * a.toNat) l2 ?_
              refine i_71_96 (v := Value.int (Int32.ofInt (S (30 + 3 * a.toNat) 1))) (hR.k2 (kd_reg (r := a.toNat) (by omega))) rfl ?_
              refine i_71_99 ?_
              refine i_71_100 (b_ne (a := S (30 + 3 * a.toNat) 1) (b := 3) ⟨by omega, by omega⟩ ⟨by decide, by decide⟩ fun c25 => absurd c25 (by omega)) (b_eq (a := S (30 + 3 * a.toNat) 1) (b := 3) ⟨by omega, by omega⟩ ⟨by decide, by decide⟩ fun c25 => ?_)
              refine i_71_103 (x := 30 + 3 * b.toNat) l3 ?_
              refine i_71_104 (v := Value.int (Int32.ofInt (S (30 + 3 * b.toNat) 1))) (hR.k2 (kd_reg (r := b.toNat) (by omega))) rfl ?_
              refine i_71_107 ?_
              refine i_71_108 (b_eq (a := S (30 + 3 * b.toNat) 1) (b := 3) ⟨by omega, by omega⟩ ⟨by decide, by decide⟩ fun c26 => ?_) (b_ne (a := S (30 + 3 * b.toNat) 1) (b := 3) ⟨by omega, by omega⟩ ⟨by decide, by decide⟩ fun c26 => ?_)
              · try replace ht_b := ht_b.resolve_left (by omega)
                try replace hx_b := hx_b.resolve_left (by omega)
                refine i_71_151 ?_
                refine i_71_152 (x := 30 + 3 * r.toNat) l1 ?_
                refine i_71_153 (v := Value.int (Int32.ofInt (S (30 + 3 * r.toNat) 0))) (hR.k2 (kd_reg (r := r.toNat) (by omega))) rfl ?_
                refine i_71_156 ?_
                refine i_71_157 (c := Int32.ofInt ((S (30 + 3 * r.toNat) 0) + 3)) (o_add (S (30 + 3 * r.toNat) 0) 3) ?_
                refine i_71_158 (x := 30 + 3 * b.toNat) l3 ?_
                refine i_71_159 (v := Value.int (Int32.ofInt (S (30 + 3 * b.toNat) 0))) (hR.k2 (kd_reg (r := b.toNat) (by omega))) rfl ?_
                refine i_71_162 (c := Int32.ofInt (((S (30 + 3 * r.toNat) 0) + 3) + (S (30 + 3 * b.toNat) 0))) (o_add ((S (30 + 3 * r.toNat) 0) + 3) (S (30 + 3 * b.toNat) 0)) ?_
                refine i_71_163 (x := 30 + 3 * a.toNat) l2 ?_
                refine i_71_164 (v := Value.int (Int32.ofInt (S (30 + 3 * a.toNat) 0))) (hR.k2 (kd_reg (r := a.toNat) (by omega))) rfl ?_
                refine i_71_167 (c := Int32.ofInt ((((S (30 + 3 * r.toNat) 0) + 3) + (S (30 + 3 * b.toNat) 0)) - (S (30 + 3 * a.toNat) 0))) (o_sub (((S (30 + 3 * r.toNat) 0) + 3) + (S (30 + 3 * b.toNat) 0)) (S (30 + 3 * a.toNat) 0)) ?_
                have hrun := s_max (d := d + 8) (w := w) (a := 0) (b := (((S (30 + 3 * r.toNat) 0) + 3) + (S (30 + 3 * b.toNat) 0)) - (S (30 + 3 * a.toNat) 0)) ⟨by decide, by decide⟩ ⟨by omega, by omega⟩
                refine i_71_168 (Nat.le_of_ble_eq_true rfl) hrun ?_
                obtain ⟨sh, hsh⟩ : ∃ sh : Nat, (sh : Int) = max (0 : Int) ((((S (30 + 3 * r.toNat) 0) + 3) + (S (30 + 3 * b.toNat) 0)) - (S (30 + 3 * a.toNat) 0)) := ⟨(max (0 : Int) ((((S (30 + 3 * r.toNat) 0) + 3) + (S (30 + 3 * b.toNat) 0)) - (S (30 + 3 * a.toNat) 0))).toNat, by omega⟩
                rw [← hsh]
                have hxa := hz_a (by assumption)
                have hxb := hz_b (by assumption)
                have hXb : xbl (V (30 + 3 * a.toNat + 1) * 2 ^ sh) = xbl (V (30 + 3 * a.toNat + 1)) + sh := xbl_pow _ _ (hm_a (by assumption))
                have hqb := quo_bl (x := V (30 + 3 * a.toNat + 1) * 2 ^ sh) (y := V (30 + 3 * b.toNat + 1)) (hm_b (by assumption))
                have hql : xbl (V (30 + 3 * a.toNat + 1) * 2 ^ sh / V (30 + 3 * b.toNat + 1)) ≤ xbl (V (30 + 3 * a.toNat + 1) * 2 ^ sh) := xbl_mono (Nat.div_le_self _ _)
                refine i_71_171 rfl ?_
                refine lgen1 (i := 6) (v := Value.int (Int32.ofInt (sh : Int))) (fun lv lg ls => ?_)
                replace l5 := lg 5 _ rfl rfl l5
                replace l0 := lg 0 _ rfl rfl l0
                replace l1 := lg 1 _ rfl rfl l1
                replace l2 := lg 2 _ rfl rfl l2
                replace l3 := lg 3 _ rfl rfl l3
                replace l4 := lg 4 _ rfl rfl l4
                have l6 := ls
                refine i_71_173 (x := 93) l0 ?_
                refine i_71_174 (v := Value.ref 97) (hR.k8 kq_93) rfl ?_
                refine i_71_177 (x := 30 + 3 * a.toNat) l2 ?_
                refine i_71_178 (v := Value.ref ((30 + 3 * a.toNat) + 1)) (hR.k2 (kd_reg (r := a.toNat) (by omega))) rfl ?_
                refine i_71_181 (x := Int32.ofInt (sh : Int)) l6 ?_
                obtain ⟨fs, hobj⟩ := hR.nat kq_97
                obtain ⟨w, hrun, hR⟩ := X_shift (d := d + 6) (h := 97) (h2 := (30 + 3 * a.toNat) + 1) (u := V ((30 + 3 * a.toNat) + 1)) (k := (sh : Int)) hR kq_97 (kd_rem (r := a.toNat) (by omega)) (rfl) (by omega) (by omega)
                rw [shf_p] at hR
                refine i_71_183 hobj (Nat.le_of_ble_eq_true rfl) hrun ?_
                refine i_71_186 (x := 93) l0 ?_
                refine i_71_187 (v := Value.ref 86) (hR.k8 kq_93) rfl ?_
                refine i_71_190 (x := 93) l0 ?_
                refine i_71_191 (v := Value.ref 97) (hR.k8 kq_93) rfl ?_
                refine i_71_194 (x := 30 + 3 * b.toNat) l3 ?_
                refine i_71_195 (v := Value.ref ((30 + 3 * b.toNat) + 1)) (hR.k2 (kd_reg (r := b.toNat) (by omega))) rfl ?_
                have exx : (uv V 97 ((V ((30 + 3 * a.toNat) + 1)) * 2 ^ sh)) 97 = (V ((30 + 3 * a.toNat) + 1)) * 2 ^ sh := uv_s
                have eyy : (uv V 97 ((V ((30 + 3 * a.toNat) + 1)) * 2 ^ sh)) ((30 + 3 * b.toNat) + 1) = V ((30 + 3 * b.toNat) + 1) := (uv_n (by omega)).trans (rfl)
                have hobj := hR.k7 kq_86
                obtain ⟨w, hrun, z41, hR⟩ := X_divide (d := d + 5) (hx := 97) (hy := (30 + 3 * b.toNat) + 1) hR kq_97 (kd_rem (r := b.toNat) (by omega)) (by decide) (by decide) (by decide) (by omega) (by omega) (by omega) (by rw [eyy]; exact hm_b (by assumption)) (by rw [exx]; omega) (by rw [eyy]; omega)
                rw [exx, eyy] at hR
                refine i_71_198 hobj (Nat.le_of_ble_eq_true rfl) hrun ?_
                refine i_71_201 (x := 93) l0 ?_
                refine i_71_202 (v := Value.ref 94) (hR.k8 kq_93) rfl ?_
                refine i_71_205 (x := Int32.ofInt sg) l5 ?_
                refine i_71_207 (fs2 := f4 94 (u1 (S 94) 0 sg)) (hR.k4 kq_94) (o_bool (by omega)) (Nat.le_of_ble_eq_true rfl) rfl (h7k kq_94 (by decide)) ?_
                refine xgen (P := cX w0 L Z (u2 S 94 0 sg) (uv (uv (uv (uv V 97 ((V ((30 + 3 * a.toNat) + 1)) * 2 ^ sh)) 87 (((V ((30 + 3 * a.toNat) + 1)) * 2 ^ sh) / (V ((30 + 3 * b.toNat) + 1)))) 91 z41) 89 (((V ((30 + 3 * a.toNat) + 1)) * 2 ^ sh) % (V ((30 + 3 * b.toNat) + 1))))) (hR.p4 kq_94) (fun w hR => ?_)
                refine i_71_210 (x := 93) l0 ?_
                refine i_71_211 (v := Value.ref 94) (hR.k8 kq_93) rfl ?_
                refine i_71_214 (v := Value.ref 95) (hR.k4 kq_94) rfl ?_
                refine i_71_217 (x := 93) l0 ?_
                refine i_71_218 (v := Value.ref 86) (hR.k8 kq_93) rfl ?_
                refine i_71_221 (v := Value.ref 87) (hR.k7 kq_86) rfl ?_
                obtain ⟨fs, hobj⟩ := hR.nat kq_95
                obtain ⟨w, hrun, hR⟩ := X_set (d := d + 6) (h := 95) (h2 := 87) (u := ((V ((30 + 3 * a.toNat) + 1)) * 2 ^ sh) / (V ((30 + 3 * b.toNat) + 1))) hR kq_95 kq_87 (by decide) ((uv_n (by omega)).trans ((uv_n (by omega)).trans (uv_s))) (by omega)
                refine i_71_224 hobj (Nat.le_of_ble_eq_true rfl) hrun ?_
                refine i_71_227 (x := 93) l0 ?_
                refine i_71_228 (v := Value.ref 94) (hR.k8 kq_93) rfl ?_
                refine i_71_231 (x := 30 + 3 * a.toNat) l2 ?_
                refine i_71_232 (v := Value.int (Int32.ofInt ((u2 S 94 0 sg) (30 + 3 * a.toNat) 3))) (hR.k2 (kd_reg (r := a.toNat) (by omega))) rfl ?_
                rw [show Int32.ofInt ((u2 S 94 0 sg) (30 + 3 * a.toNat) 3) = Int32.ofInt (S (30 + 3 * a.toNat) 3) by rw [u2_eq, if_neg (fun e => absurd e.2 (by decide))]]
                refine i_71_235 (x := 30 + 3 * a.toNat) l2 ?_
                refine i_71_236 (v := Value.int (Int32.ofInt ((u2 S 94 0 sg) (30 + 3 * a.toNat) 0))) (hR.k2 (kd_reg (r := a.toNat) (by omega))) rfl ?_
                rw [show Int32.ofInt ((u2 S 94 0 sg) (30 + 3 * a.toNat) 0) = Int32.ofInt (S (30 + 3 * a.toNat) 0) by rw [u2_eq, if_neg (fun e => absurd e.1 (by omega))]]
                refine i_71_239 (c := Int32.ofInt ((S (30 + 3 * a.toNat) 3) - (S (30 + 3 * a.toNat) 0))) (o_sub (S (30 + 3 * a.toNat) 3) (S (30 + 3 * a.toNat) 0)) ?_
                refine i_71_240 (x := 30 + 3 * b.toNat) l3 ?_
                refine i_71_241 (v := Value.int (Int32.ofInt ((u2 S 94 0 sg) (30 + 3 * b.toNat) 3))) (hR.k2 (kd_reg (r := b.toNat) (by omega))) rfl ?_
                rw [show Int32.ofInt ((u2 S 94 0 sg) (30 + 3 * b.toNat) 3) = Int32.ofInt (S (30 + 3 * b.toNat) 3) by rw [u2_eq, if_neg (fun e => absurd e.2 (by decide))]]
                refine i_71_244 (c := Int32.ofInt (((S (30 + 3 * a.toNat) 3) - (S (30 + 3 * a.toNat) 0)) - (S (30 + 3 * b.toNat) 3))) (o_sub ((S (30 + 3 * a.toNat) 3) - (S (30 + 3 * a.toNat) 0)) (S (30 + 3 * b.toNat) 3)) ?_
                refine i_71_245 (x := 30 + 3 * b.toNat) l3 ?_
                refine i_71_246 (v := Value.int (Int32.ofInt ((u2 S 94 0 sg) (30 + 3 * b.toNat) 0))) (hR.k2 (kd_reg (r := b.toNat) (by omega))) rfl ?_
                rw [show Int32.ofInt ((u2 S 94 0 sg) (30 + 3 * b.toNat) 0) = Int32.ofInt (S (30 + 3 * b.toNat) 0) by rw [u2_eq, if_neg (fun e => absurd e.1 (by omega))]]
                refine i_71_249 (c := Int32.ofInt ((((S (30 + 3 * a.toNat) 3) - (S (30 + 3 * a.toNat) 0)) - (S (30 + 3 * b.toNat) 3)) + (S (30 + 3 * b.toNat) 0))) (o_add (((S (30 + 3 * a.toNat) 3) - (S (30 + 3 * a.toNat) 0)) - (S (30 + 3 * b.toNat) 3)) (S (30 + 3 * b.toNat) 0)) ?_
                refine i_71_250 (x := Int32.ofInt (sh : Int)) l6 ?_
                refine i_71_252 (c := Int32.ofInt (((((S (30 + 3 * a.toNat) 3) - (S (30 + 3 * a.toNat) 0)) - (S (30 + 3 * b.toNat) 3)) + (S (30 + 3 * b.toNat) 0)) - (sh : Int))) (o_sub ((((S (30 + 3 * a.toNat) 3) - (S (30 + 3 * a.toNat) 0)) - (S (30 + 3 * b.toNat) 3)) + (S (30 + 3 * b.toNat) 0)) (sh : Int)) ?_
                refine i_71_253 (fs2 := f4 94 (u1 ((u2 S 94 0 sg) 94) 2 (((((S (30 + 3 * a.toNat) 3) - (S (30 + 3 * a.toNat) 0)) - (S (30 + 3 * b.toNat) 3)) + (S (30 + 3 * b.toNat) 0)) - (sh : Int)))) (hR.k4 kq_94) (Nat.le_of_ble_eq_true rfl) rfl (h7k kq_94 (by decide)) ?_
                refine xgen (P := cX w0 L Z (u2 (u2 S 94 0 sg) 94 2 (((((S (30 + 3 * a.toNat) 3) - (S (30 + 3 * a.toNat) 0)) - (S (30 + 3 * b.toNat) 3)) + (S (30 + 3 * b.toNat) 0)) - (sh : Int))) (uv (uv (uv (uv (uv V 97 ((V ((30 + 3 * a.toNat) + 1)) * 2 ^ sh)) 87 (((V ((30 + 3 * a.toNat) + 1)) * 2 ^ sh) / (V ((30 + 3 * b.toNat) + 1)))) 91 z41) 89 (((V ((30 + 3 * a.toNat) + 1)) * 2 ^ sh) % (V ((30 + 3 * b.toNat) + 1)))) 95 (((V ((30 + 3 * a.toNat) + 1)) * 2 ^ sh) / (V ((30 + 3 * b.toNat) + 1))))) (hR.p4 kq_94) (fun w hR => ?_)
                refine i_71_256 (x := 93) l0 ?_
                refine i_71_257 (v := Value.ref 94) (hR.k8 kq_93) rfl ?_
                refine i_71_260 (x := 93) l0 ?_
                refine i_71_261 (v := Value.ref 86) (hR.k8 kq_93) rfl ?_
                refine i_71_264 (v := Value.ref 89) (hR.k7 kq_86) rfl ?_
                obtain ⟨a42, hsz, hz42⟩ := hR.size (h := 89) (u := ((V ((30 + 3 * a.toNat) + 1)) * 2 ^ sh) % (V ((30 + 3 * b.toNat) + 1))) kq_89 ((uv_n (by omega)).trans (uv_s))
                refine i_71_267 (v := Value.int (Int32.ofInt (((xbl (((V ((30 + 3 * a.toNat) + 1)) * 2 ^ sh) % (V ((30 + 3 * b.toNat) + 1))) + 31) / 32 : Nat) : Int))) hsz rfl ?_
                by_cases hrem : V (30 + 3 * a.toNat + 1) * 2 ^ sh % V (30 + 3 * b.toNat + 1) = 0
                · have hrz : xbl (V (30 + 3 * a.toNat + 1) * 2 ^ sh % V (30 + 3 * b.toNat + 1)) = 0 := xbl_nz.mpr hrem
                  refine i_71_270 (z_eq (a := (((xbl (((V ((30 + 3 * a.toNat) + 1)) * 2 ^ sh) % (V ((30 + 3 * b.toNat) + 1))) + 31) / 32 : Nat) : Int)) ⟨by omega, by omega⟩ fun c80 => ?_) (z_ne (a := (((xbl (((V ((30 + 3 * a.toNat) + 1)) * 2 ^ sh) % (V ((30 + 3 * b.toNat) + 1))) + 31) / 32 : Nat) : Int)) ⟨by omega, by omega⟩ fun c80 => absurd c80 (by omega))
                  refine i_71_277 ?_
                  refine i_71_278 (fs2 := f4 94 (u1 ((u2 (u2 S 94 0 sg) 94 2 (((((S (30 + 3 * a.toNat) 3) - (S (30 + 3 * a.toNat) 0)) - (S (30 + 3 * b.toNat) 3)) + (S (30 + 3 * b.toNat) 0)) - (sh : Int))) 94) 3 0)) (hR.k4 kq_94) rfl (Nat.le_of_ble_eq_true rfl) rfl (h7k kq_94 (by decide)) ?_
                  refine xgen (P := cX w0 L Z (u2 (u2 (u2 S 94 0 sg) 94 2 (((((S (30 + 3 * a.toNat) 3) - (S (30 + 3 * a.toNat) 0)) - (S (30 + 3 * b.toNat) 3)) + (S (30 + 3 * b.toNat) 0)) - (sh : Int))) 94 3 0) (uv (uv (uv (uv (uv V 97 ((V ((30 + 3 * a.toNat) + 1)) * 2 ^ sh)) 87 (((V ((30 + 3 * a.toNat) + 1)) * 2 ^ sh) / (V ((30 + 3 * b.toNat) + 1)))) 91 z41) 89 (((V ((30 + 3 * a.toNat) + 1)) * 2 ^ sh) % (V ((30 + 3 * b.toNat) + 1)))) 95 (((V ((30 + 3 * a.toNat) + 1)) * 2 ^ sh) / (V ((30 + 3 * b.toNat) + 1))))) (hR.p4 kq_94) (fun w hR => ?_)
                  refine i_71_281 (x := 93) l0 ?_
                  refine i_71_282 (v := Value.ref 78) (hR.k8 kq_93) rfl ?_
                  refine i_71_285 (x := 30 + 3 * r.toNat) l1 ?_
                  refine i_71_286 (x := 93) l0 ?_
                  refine i_71_287 (v := Value.ref 94) (hR.k8 kq_93) rfl ?_
                  refine i_71_290 (x := Int32.ofInt mode) l4 ?_
                  have hobj := hR.k1 kq_78
                  have ep : (u2 (u2 (u2 S 94 0 sg) 94 2 (((((S (30 + 3 * a.toNat) 3) - (S (30 + 3 * a.toNat) 0)) - (S (30 + 3 * b.toNat) 3)) + (S (30 + 3 * b.toNat) 0)) - (sh : Int))) 94 3 0) (30 + 3 * r.toNat) 0 = S (30 + 3 * r.toNat) 0 := by rw [u2_eq, if_neg (fun e => absurd e.2 (by decide)), u2_eq, if_neg (fun e => absurd e.2 (by decide)), u2_eq, if_neg (fun e => absurd e.1 (by omega))]
                  have el : (u2 (u2 (u2 S 94 0 sg) 94 2 (((((S (30 + 3 * a.toNat) 3) - (S (30 + 3 * a.toNat) 0)) - (S (30 + 3 * b.toNat) 3)) + (S (30 + 3 * b.toNat) 0)) - (sh : Int))) 94 3 0) 78 0 = S 78 0 := by rw [u2_eq, if_neg (fun e => absurd e.2 (by decide)), u2_eq, if_neg (fun e => absurd e.2 (by decide)), u2_eq, if_neg (fun e => absurd e.1 (by decide))]
                  have eg : (u2 (u2 (u2 S 94 0 sg) 94 2 (((((S (30 + 3 * a.toNat) 3) - (S (30 + 3 * a.toNat) 0)) - (S (30 + 3 * b.toNat) 3)) + (S (30 + 3 * b.toNat) 0)) - (sh : Int))) 94 3 0) 78 1 = S 78 1 := by rw [u2_eq, if_neg (fun e => absurd e.2 (by decide)), u2_eq, if_neg (fun e => absurd e.2 (by decide)), u2_eq, if_neg (fun e => absurd e.2 (by decide))]
                  have ed : (u2 (u2 (u2 S 94 0 sg) 94 2 (((((S (30 + 3 * a.toNat) 3) - (S (30 + 3 * a.toNat) 0)) - (S (30 + 3 * b.toNat) 3)) + (S (30 + 3 * b.toNat) 0)) - (sh : Int))) 94 3 0) 78 2 = S 78 2 := by rw [u2_eq, if_neg (fun e => absurd e.2 (by decide)), u2_eq, if_neg (fun e => absurd e.1 (by decide)), u2_eq, if_neg (fun e => absurd e.2 (by decide))]
                  have ef : (u2 (u2 (u2 S 94 0 sg) 94 2 (((((S (30 + 3 * a.toNat) 3) - (S (30 + 3 * a.toNat) 0)) - (S (30 + 3 * b.toNat) 3)) + (S (30 + 3 * b.toNat) 0)) - (sh : Int))) 94 3 0) 78 3 = S 78 3 := by rw [u2_eq, if_neg (fun e => absurd e.1 (by decide)), u2_eq, if_neg (fun e => absurd e.2 (by decide)), u2_eq, if_neg (fun e => absurd e.2 (by decide))]
                  have es : (u2 (u2 (u2 S 94 0 sg) 94 2 (((((S (30 + 3 * a.toNat) 3) - (S (30 + 3 * a.toNat) 0)) - (S (30 + 3 * b.toNat) 3)) + (S (30 + 3 * b.toNat) 0)) - (sh : Int))) 94 3 0) 94 0 = sg := by rw [u2_eq, if_neg (fun e => absurd e.2 (by decide)), u2_eq, if_neg (fun e => absurd e.2 (by decide)), u2_eq, if_pos ⟨rfl, rfl⟩]
                  have ec : (u2 (u2 (u2 S 94 0 sg) 94 2 (((((S (30 + 3 * a.toNat) 3) - (S (30 + 3 * a.toNat) 0)) - (S (30 + 3 * b.toNat) 3)) + (S (30 + 3 * b.toNat) 0)) - (sh : Int))) 94 3 0) 94 2 = ((((S (30 + 3 * a.toNat) 3) - (S (30 + 3 * a.toNat) 0)) - (S (30 + 3 * b.toNat) 3)) + (S (30 + 3 * b.toNat) 0)) - (sh : Int) := by rw [u2_eq, if_neg (fun e => absurd e.2 (by decide)), u2_eq, if_pos ⟨rfl, rfl⟩]
                  have em : (u2 (u2 (u2 S 94 0 sg) 94 2 (((((S (30 + 3 * a.toNat) 3) - (S (30 + 3 * a.toNat) 0)) - (S (30 + 3 * b.toNat) 3)) + (S (30 + 3 * b.toNat) 0)) - (sh : Int))) 94 3 0) 94 3 = 0 := by rw [u2_eq, if_pos ⟨rfl, rfl⟩]
                  have ev : (uv (uv (uv (uv (uv V 97 ((V ((30 + 3 * a.toNat) + 1)) * 2 ^ sh)) 87 (((V ((30 + 3 * a.toNat) + 1)) * 2 ^ sh) / (V ((30 + 3 * b.toNat) + 1)))) 91 z41) 89 (((V ((30 + 3 * a.toNat) + 1)) * 2 ^ sh) % (V ((30 + 3 * b.toNat) + 1)))) 95 (((V ((30 + 3 * a.toNat) + 1)) * 2 ^ sh) / (V ((30 + 3 * b.toNat) + 1)))) 95 = ((V ((30 + 3 * a.toNat) + 1)) * 2 ^ sh) / (V ((30 + 3 * b.toNat) + 1)) := uv_s
                  obtain ⟨w, hrun, S82, V82, hR, hP⟩ := x_settle (d := d) (g := 78) (t := 30 + 3 * r.toNat) (h := 94) (mode := mode) hR kq_78 (kd_reg (r := r.toNat) (by omega)) kq_94 (by rw [ep]; omega) (by rw [es]; first | omega | exact bb_01 _) (by rw [em]; omega) (by omega) (by rw [ev]; exact fun e => by rw [e, xbl_zero] at hqb; omega) (by rw [ev]; omega) (by rw [ec]; omega) (by rw [el, eg]; omega) (by rw [ed]; omega) (by rw [ep, el, ed, ev, ec, em]; exact fun _ _ => Or.inl rfl)
                  rw [ep, el, eg, ed, ef, es, ec, em, ev] at hrun hP
                  refine i_71_292 hobj (Nat.le_of_ble_eq_true rfl) hrun ?_
                  refine i_71_295 ?_
                  have eo : sQuo2 (vS S) (vV V) r.toNat a.toNat b.toNat mode = oR (S (30 + 3 * r.toNat) 0) (S 78 0) (S 78 1) (S 78 2) sg mode 0 (((V ((30 + 3 * a.toNat) + 1)) * 2 ^ sh) / (V ((30 + 3 * b.toNat) + 1))) (((((S (30 + 3 * a.toNat) 3) - (S (30 + 3 * a.toNat) 0)) - (S (30 + 3 * b.toNat) 3)) + (S (30 + 3 * b.toNat) 0)) - (sh : Int)) (S 78 3) := by
                    clear hR hP
                    simp only [sQuo2, sQuo, sRat, ratX, moreOf, ex, vS_153, vS_154, vS_155, vS_156, vS_17, vS_18, vS_19, vS_20, vV_r]
                    rw [if_neg (by omega), if_neg (by omega), if_neg (by omega), if_neg (by omega), if_neg (by omega), show (max 0 (S (30 + 3 * r.toNat) 0 + 3 + (xbl (V (30 + 3 * b.toNat + 1)) : Int) - (xbl (V (30 + 3 * a.toNat + 1)) : Int))).toNat = sh by omega, show max 0 (S (30 + 3 * r.toNat) 0 + 3 + (xbl (V (30 + 3 * b.toNat + 1)) : Int) - (xbl (V (30 + 3 * a.toNat + 1)) : Int)) = (sh : Int) by omega, ← hsg, if_pos hrem]
                    congr 1
                    omega
                  rw [eo]
                  exact ⟨rfl, _, _, hR, cP_round hP (by omega) (nC.up (nC.up (nC.up nC.refl (by unfold cKeep; omega) (by omega)) (by unfold cKeep; omega) (by omega)) (by unfold cKeep; omega) (by omega)) (nW.up (nW.up (nW.up (nW.up (nW.up nW.refl (by omega)) (by omega)) (by omega)) (by omega)) (by omega)) (by omega)⟩
                · have hrz : xbl (V (30 + 3 * a.toNat + 1) * 2 ^ sh % V (30 + 3 * b.toNat + 1)) ≠ 0 := fun e => hrem (xbl_nz.mp e)
                  refine i_71_270 (z_eq (a := (((xbl (((V ((30 + 3 * a.toNat) + 1)) * 2 ^ sh) % (V ((30 + 3 * b.toNat) + 1))) + 31) / 32 : Nat) : Int)) ⟨by omega, by omega⟩ fun c60 => absurd c60 (by omega)) (z_ne (a := (((xbl (((V ((30 + 3 * a.toNat) + 1)) * 2 ^ sh) % (V ((30 + 3 * b.toNat) + 1))) + 31) / 32 : Nat) : Int)) ⟨by omega, by omega⟩ fun c60 => ?_)
                  refine i_71_273 ?_
                  refine i_71_274 ?_
                  refine i_71_278 (fs2 := f4 94 (u1 ((u2 (u2 S 94 0 sg) 94 2 (((((S (30 + 3 * a.toNat) 3) - (S (30 + 3 * a.toNat) 0)) - (S (30 + 3 * b.toNat) 3)) + (S (30 + 3 * b.toNat) 0)) - (sh : Int))) 94) 3 1)) (hR.k4 kq_94) rfl (Nat.le_of_ble_eq_true rfl) rfl (h7k kq_94 (by decide)) ?_
                  refine xgen (P := cX w0 L Z (u2 (u2 (u2 S 94 0 sg) 94 2 (((((S (30 + 3 * a.toNat) 3) - (S (30 + 3 * a.toNat) 0)) - (S (30 + 3 * b.toNat) 3)) + (S (30 + 3 * b.toNat) 0)) - (sh : Int))) 94 3 1) (uv (uv (uv (uv (uv V 97 ((V ((30 + 3 * a.toNat) + 1)) * 2 ^ sh)) 87 (((V ((30 + 3 * a.toNat) + 1)) * 2 ^ sh) / (V ((30 + 3 * b.toNat) + 1)))) 91 z41) 89 (((V ((30 + 3 * a.toNat) + 1)) * 2 ^ sh) % (V ((30 + 3 * b.toNat) + 1)))) 95 (((V ((30 + 3 * a.toNat) + 1)) * 2 ^ sh) / (V ((30 + 3 * b.toNat) + 1))))) (hR.p4 kq_94) (fun w hR => ?_)
                  refine i_71_281 (x := 93) l0 ?_
                  refine i_71_282 (v := Value.ref 78) (hR.k8 kq_93) rfl ?_
                  refine i_71_285 (x := 30 + 3 * r.toNat) l1 ?_
                  refine i_71_286 (x := 93) l0 ?_
                  refine i_71_287 (v := Value.ref 94) (hR.k8 kq_93) rfl ?_
                  refine i_71_290 (x := Int32.ofInt mode) l4 ?_
                  have hobj := hR.k1 kq_78
                  have ep : (u2 (u2 (u2 S 94 0 sg) 94 2 (((((S (30 + 3 * a.toNat) 3) - (S (30 + 3 * a.toNat) 0)) - (S (30 + 3 * b.toNat) 3)) + (S (30 + 3 * b.toNat) 0)) - (sh : Int))) 94 3 1) (30 + 3 * r.toNat) 0 = S (30 + 3 * r.toNat) 0 := by rw [u2_eq, if_neg (fun e => absurd e.2 (by decide)), u2_eq, if_neg (fun e => absurd e.2 (by decide)), u2_eq, if_neg (fun e => absurd e.1 (by omega))]
                  have el : (u2 (u2 (u2 S 94 0 sg) 94 2 (((((S (30 + 3 * a.toNat) 3) - (S (30 + 3 * a.toNat) 0)) - (S (30 + 3 * b.toNat) 3)) + (S (30 + 3 * b.toNat) 0)) - (sh : Int))) 94 3 1) 78 0 = S 78 0 := by rw [u2_eq, if_neg (fun e => absurd e.2 (by decide)), u2_eq, if_neg (fun e => absurd e.2 (by decide)), u2_eq, if_neg (fun e => absurd e.1 (by decide))]
                  have eg : (u2 (u2 (u2 S 94 0 sg) 94 2 (((((S (30 + 3 * a.toNat) 3) - (S (30 + 3 * a.toNat) 0)) - (S (30 + 3 * b.toNat) 3)) + (S (30 + 3 * b.toNat) 0)) - (sh : Int))) 94 3 1) 78 1 = S 78 1 := by rw [u2_eq, if_neg (fun e => absurd e.2 (by decide)), u2_eq, if_neg (fun e => absurd e.2 (by decide)), u2_eq, if_neg (fun e => absurd e.2 (by decide))]
                  have ed : (u2 (u2 (u2 S 94 0 sg) 94 2 (((((S (30 + 3 * a.toNat) 3) - (S (30 + 3 * a.toNat) 0)) - (S (30 + 3 * b.toNat) 3)) + (S (30 + 3 * b.toNat) 0)) - (sh : Int))) 94 3 1) 78 2 = S 78 2 := by rw [u2_eq, if_neg (fun e => absurd e.2 (by decide)), u2_eq, if_neg (fun e => absurd e.1 (by decide)), u2_eq, if_neg (fun e => absurd e.2 (by decide))]
                  have ef : (u2 (u2 (u2 S 94 0 sg) 94 2 (((((S (30 + 3 * a.toNat) 3) - (S (30 + 3 * a.toNat) 0)) - (S (30 + 3 * b.toNat) 3)) + (S (30 + 3 * b.toNat) 0)) - (sh : Int))) 94 3 1) 78 3 = S 78 3 := by rw [u2_eq, if_neg (fun e => absurd e.1 (by decide)), u2_eq, if_neg (fun e => absurd e.2 (by decide)), u2_eq, if_neg (fun e => absurd e.2 (by decide))]
                  have es : (u2 (u2 (u2 S 94 0 sg) 94 2 (((((S (30 + 3 * a.toNat) 3) - (S (30 + 3 * a.toNat) 0)) - (S (30 + 3 * b.toNat) 3)) + (S (30 + 3 * b.toNat) 0)) - (sh : Int))) 94 3 1) 94 0 = sg := by rw [u2_eq, if_neg (fun e => absurd e.2 (by decide)), u2_eq, if_neg (fun e => absurd e.2 (by decide)), u2_eq, if_pos ⟨rfl, rfl⟩]
                  have ec : (u2 (u2 (u2 S 94 0 sg) 94 2 (((((S (30 + 3 * a.toNat) 3) - (S (30 + 3 * a.toNat) 0)) - (S (30 + 3 * b.toNat) 3)) + (S (30 + 3 * b.toNat) 0)) - (sh : Int))) 94 3 1) 94 2 = ((((S (30 + 3 * a.toNat) 3) - (S (30 + 3 * a.toNat) 0)) - (S (30 + 3 * b.toNat) 3)) + (S (30 + 3 * b.toNat) 0)) - (sh : Int) := by rw [u2_eq, if_neg (fun e => absurd e.2 (by decide)), u2_eq, if_pos ⟨rfl, rfl⟩]
                  have em : (u2 (u2 (u2 S 94 0 sg) 94 2 (((((S (30 + 3 * a.toNat) 3) - (S (30 + 3 * a.toNat) 0)) - (S (30 + 3 * b.toNat) 3)) + (S (30 + 3 * b.toNat) 0)) - (sh : Int))) 94 3 1) 94 3 = 1 := by rw [u2_eq, if_pos ⟨rfl, rfl⟩]
                  have ev : (uv (uv (uv (uv (uv V 97 ((V ((30 + 3 * a.toNat) + 1)) * 2 ^ sh)) 87 (((V ((30 + 3 * a.toNat) + 1)) * 2 ^ sh) / (V ((30 + 3 * b.toNat) + 1)))) 91 z41) 89 (((V ((30 + 3 * a.toNat) + 1)) * 2 ^ sh) % (V ((30 + 3 * b.toNat) + 1)))) 95 (((V ((30 + 3 * a.toNat) + 1)) * 2 ^ sh) / (V ((30 + 3 * b.toNat) + 1)))) 95 = ((V ((30 + 3 * a.toNat) + 1)) * 2 ^ sh) / (V ((30 + 3 * b.toNat) + 1)) := uv_s
                  obtain ⟨w, hrun, S62, V62, hR, hP⟩ := x_settle (d := d) (g := 78) (t := 30 + 3 * r.toNat) (h := 94) (mode := mode) hR kq_78 (kd_reg (r := r.toNat) (by omega)) kq_94 (by rw [ep]; omega) (by rw [es]; first | omega | exact bb_01 _) (by rw [em]; omega) (by omega) (by rw [ev]; exact fun e => by rw [e, xbl_zero] at hqb; omega) (by rw [ev]; omega) (by rw [ec]; omega) (by rw [el, eg]; omega) (by rw [ed]; omega) (by rw [ep, el, ed, ev, ec, em]; intro u hu; right; have := rU_b (p := S (30 + 3 * r.toNat) 0) (least := S 78 0) (gradual := S 78 2) (free := 0) (x := (xbl (V (30 + 3 * a.toNat + 1) * 2 ^ sh / V (30 + 3 * b.toNat + 1)) : Int) + (S (30 + 3 * a.toNat) 3 - S (30 + 3 * a.toNat) 0 - S (30 + 3 * b.toNat) 3 + S (30 + 3 * b.toNat) 0 - (sh : Int))); rw [← hu] at this; omega)
                  rw [ep, el, eg, ed, ef, es, ec, em, ev] at hrun hP
                  refine i_71_292 hobj (Nat.le_of_ble_eq_true rfl) hrun ?_
                  refine i_71_295 ?_
                  have eo : sQuo2 (vS S) (vV V) r.toNat a.toNat b.toNat mode = oR (S (30 + 3 * r.toNat) 0) (S 78 0) (S 78 1) (S 78 2) sg mode 1 (((V ((30 + 3 * a.toNat) + 1)) * 2 ^ sh) / (V ((30 + 3 * b.toNat) + 1))) (((((S (30 + 3 * a.toNat) 3) - (S (30 + 3 * a.toNat) 0)) - (S (30 + 3 * b.toNat) 3)) + (S (30 + 3 * b.toNat) 0)) - (sh : Int)) (S 78 3) := by
                    clear hR hP
                    simp only [sQuo2, sQuo, sRat, ratX, moreOf, ex, vS_153, vS_154, vS_155, vS_156, vS_17, vS_18, vS_19, vS_20, vV_r]
                    rw [if_neg (by omega), if_neg (by omega), if_neg (by omega), if_neg (by omega), if_neg (by omega), show (max 0 (S (30 + 3 * r.toNat) 0 + 3 + (xbl (V (30 + 3 * b.toNat + 1)) : Int) - (xbl (V (30 + 3 * a.toNat + 1)) : Int))).toNat = sh by omega, show max 0 (S (30 + 3 * r.toNat) 0 + 3 + (xbl (V (30 + 3 * b.toNat + 1)) : Int) - (xbl (V (30 + 3 * a.toNat + 1)) : Int)) = (sh : Int) by omega, ← hsg, if_neg hrem]
                    congr 1
                    omega
                  rw [eo]
                  exact ⟨rfl, _, _, hR, cP_round hP (by omega) (nC.up (nC.up (nC.up nC.refl (by unfold cKeep; omega) (by omega)) (by unfold cKeep; omega) (by omega)) (by unfold cKeep; omega) (by omega)) (nW.up (nW.up (nW.up (nW.up (nW.up nW.refl (by omega)) (by omega)) (by omega)) (by omega)) (by omega)) (by omega)⟩
              · refine i_71_111 (x := 30 + 3 * a.toNat) l2 ?_
                refine i_71_112 (v := Value.int (Int32.ofInt (S (30 + 3 * a.toNat) 1))) (hR.k2 (kd_reg (r := a.toNat) (by omega))) rfl ?_
                refine i_71_115 ?_
                refine i_71_116 (b_eq (a := S (30 + 3 * a.toNat) 1) (b := 1) ⟨by omega, by omega⟩ ⟨by decide, by decide⟩ fun c27 => absurd c27 (by omega)) (b_ne (a := S (30 + 3 * a.toNat) 1) (b := 1) ⟨by omega, by omega⟩ ⟨by decide, by decide⟩ fun c27 => ?_)
                refine i_71_119 (x := 30 + 3 * b.toNat) l3 ?_
                refine i_71_120 (v := Value.int (Int32.ofInt (S (30 + 3 * b.toNat) 1))) (hR.k2 (kd_reg (r := b.toNat) (by omega))) rfl ?_
                refine i_71_123 ?_
                refine i_71_124 (b_ne (a := S (30 + 3 * b.toNat) 1) (b := 2) ⟨by omega, by omega⟩ ⟨by decide, by decide⟩ fun c28 => ?_) (b_eq (a := S (30 + 3 * b.toNat) 1) (b := 2) ⟨by omega, by omega⟩ ⟨by decide, by decide⟩ fun c28 => absurd c28 (by omega))
                refine i_71_131 ?_
                refine i_71_132 rfl ?_
                refine lgen1 (i := 6) (v := Value.int 0) (fun lv lg ls => ?_)
                replace l5 := lg 5 _ rfl rfl l5
                replace l0 := lg 0 _ rfl rfl l0
                replace l1 := lg 1 _ rfl rfl l1
                replace l2 := lg 2 _ rfl rfl l2
                replace l3 := lg 3 _ rfl rfl l3
                replace l4 := lg 4 _ rfl rfl l4
                have l6 := ls
                refine i_71_134 (x := 30 + 3 * r.toNat) l1 ?_
                refine i_71_135 (x := 0) l6 ?_
                refine i_71_137 (fun _ => ?_) (fun c => absurd c (by decide))
                refine i_71_144 ?_
                refine i_71_145 (x := Int32.ofInt sg) l5 ?_
                have hobj := hR.k2 (kd_reg (r := r.toNat) (by omega))
                obtain ⟨w, hrun, hR⟩ := x_spec (d := d + 9) (t := 30 + 3 * r.toNat) (which := 2) (sg := sg) hR (kd_reg (r := r.toNat) (by omega)) (by first | omega | exact bb_01 _)
                refine i_71_147 hobj (Nat.le_of_ble_eq_true rfl) hrun ?_
                refine i_71_150 ?_
                have eo : sQuo2 (vS S) (vV V) r.toNat a.toNat b.toNat mode = oS 2 sg (S 78 3) := by clear hR; simp only [sQuo2, sQuo, vS_153, vS_154, vS_155, vS_156, vS_17, vS_18, vS_19, vS_20, vV_r]; grind
                rw [eo]
                exact ⟨rfl, _, _, hR, cP_special (by first | omega | exact bb_01 _) (by decide) nC.refl nW.refl rfl (by omega)⟩
            · refine i_71_81 (x := 93) l0 ?_
              refine i_71_82 (v := Value.ref 78) (hR.k8 kq_93) rfl ?_
              refine i_71_85 rfl ?_
              refine i_71_86 (v := Value.int (Int32.ofInt (S 78 3))) (hR.k1 kq_78) rfl ?_
              refine i_71_89 ?_
              refine i_71_91 (c := Int32.ofInt (zor (S 78 3) 16)) (o_or (S 78 3) 16) ?_
              refine i_71_92 (fs2 := f1 (u1 (S 78) 3 (zor (S 78 3) 16))) (hR.k1 kq_78) (Nat.le_of_ble_eq_true rfl) rfl (h7k kq_78 (by decide)) ?_
              refine xgen (P := cX w0 L Z (u2 S 78 3 (zor (S 78 3) 16)) V) (hR.p1 kq_78) (fun w hR => ?_)
              refine i_71_95 (x := 30 + 3 * a.toNat) l2 ?_
              refine i_71_96 (v := Value.int (Int32.ofInt ((u2 S 78 3 (zor (S 78 3) 16)) (30 + 3 * a.toNat) 1))) (hR.k2 (kd_reg (r := a.toNat) (by omega))) rfl ?_
              rw [show Int32.ofInt ((u2 S 78 3 (zor (S 78 3) 16)) (30 + 3 * a.toNat) 1) = Int32.ofInt (S (30 + 3 * a.toNat) 1) by rw [u2_eq, if_neg (fun e => absurd e.2 (by decide))]]
              refine i_71_99 ?_
              refine i_71_100 (b_ne (a := S (30 + 3 * a.toNat) 1) (b := 3) ⟨by omega, by omega⟩ ⟨by decide, by decide⟩ fun c29 => absurd c29 (by omega)) (b_eq (a := S (30 + 3 * a.toNat) 1) (b := 3) ⟨by omega, by omega⟩ ⟨by decide, by decide⟩ fun c29 => ?_)
              refine i_71_103 (x := 30 + 3 * b.toNat) l3 ?_
              refine i_71_104 (v := Value.int (Int32.ofInt ((u2 S 78 3 (zor (S 78 3) 16)) (30 + 3 * b.toNat) 1))) (hR.k2 (kd_reg (r := b.toNat) (by omega))) rfl ?_
              rw [show Int32.ofInt ((u2 S 78 3 (zor (S 78 3) 16)) (30 + 3 * b.toNat) 1) = Int32.ofInt (S (30 + 3 * b.toNat) 1) by rw [u2_eq, if_neg (fun e => absurd e.2 (by decide))]]
              refine i_71_107 ?_
              refine i_71_108 (b_eq (a := S (30 + 3 * b.toNat) 1) (b := 3) ⟨by omega, by omega⟩ ⟨by decide, by decide⟩ fun c30 => absurd c30 (by omega)) (b_ne (a := S (30 + 3 * b.toNat) 1) (b := 3) ⟨by omega, by omega⟩ ⟨by decide, by decide⟩ fun c30 => ?_)
              refine i_71_111 (x := 30 + 3 * a.toNat) l2 ?_
              refine i_71_112 (v := Value.int (Int32.ofInt ((u2 S 78 3 (zor (S 78 3) 16)) (30 + 3 * a.toNat) 1))) (hR.k2 (kd_reg (r := a.toNat) (by omega))) rfl ?_
              rw [show Int32.ofInt ((u2 S 78 3 (zor (S 78 3) 16)) (30 + 3 * a.toNat) 1) = Int32.ofInt (S (30 + 3 * a.toNat) 1) by rw [u2_eq, if_neg (fun e => absurd e.2 (by decide))]]
              refine i_71_115 ?_
              refine i_71_116 (b_eq (a := S (30 + 3 * a.toNat) 1) (b := 1) ⟨by omega, by omega⟩ ⟨by decide, by decide⟩ fun c31 => absurd c31 (by omega)) (b_ne (a := S (30 + 3 * a.toNat) 1) (b := 1) ⟨by omega, by omega⟩ ⟨by decide, by decide⟩ fun c31 => ?_)
              refine i_71_119 (x := 30 + 3 * b.toNat) l3 ?_
              refine i_71_120 (v := Value.int (Int32.ofInt ((u2 S 78 3 (zor (S 78 3) 16)) (30 + 3 * b.toNat) 1))) (hR.k2 (kd_reg (r := b.toNat) (by omega))) rfl ?_
              rw [show Int32.ofInt ((u2 S 78 3 (zor (S 78 3) 16)) (30 + 3 * b.toNat) 1) = Int32.ofInt (S (30 + 3 * b.toNat) 1) by rw [u2_eq, if_neg (fun e => absurd e.2 (by decide))]]
              refine i_71_123 ?_
              refine i_71_124 (b_ne (a := S (30 + 3 * b.toNat) 1) (b := 2) ⟨by omega, by omega⟩ ⟨by decide, by decide⟩ fun c32 => absurd c32 (by omega)) (b_eq (a := S (30 + 3 * b.toNat) 1) (b := 2) ⟨by omega, by omega⟩ ⟨by decide, by decide⟩ fun c32 => ?_)
              refine i_71_127 ?_
              refine i_71_128 ?_
              refine i_71_132 rfl ?_
              refine lgen1 (i := 6) (v := Value.int 1) (fun lv lg ls => ?_)
              replace l5 := lg 5 _ rfl rfl l5
              replace l0 := lg 0 _ rfl rfl l0
              replace l1 := lg 1 _ rfl rfl l1
              replace l2 := lg 2 _ rfl rfl l2
              replace l3 := lg 3 _ rfl rfl l3
              replace l4 := lg 4 _ rfl rfl l4
              have l6 := ls
              refine i_71_134 (x := 30 + 3 * r.toNat) l1 ?_
              refine i_71_135 (x := 1) l6 ?_
              refine i_71_137 (fun c => absurd c (by decide)) (fun _ => ?_)
              refine i_71_140 ?_
              refine i_71_141 ?_
              refine i_71_145 (x := Int32.ofInt sg) l5 ?_
              have hobj := hR.k2 (kd_reg (r := r.toNat) (by omega))
              obtain ⟨w, hrun, hR⟩ := x_spec (d := d + 9) (t := 30 + 3 * r.toNat) (which := 1) (sg := sg) hR (kd_reg (r := r.toNat) (by omega)) (by first | omega | exact bb_01 _)
              refine i_71_147 hobj (Nat.le_of_ble_eq_true rfl) hrun ?_
              refine i_71_150 ?_
              have eo : sQuo2 (vS S) (vV V) r.toNat a.toNat b.toNat mode = oS 1 sg (zor (S 78 3) 16) := by clear hR; simp only [sQuo2, sQuo, vS_153, vS_154, vS_155, vS_156, vS_17, vS_18, vS_19, vS_20, vV_r]; grind
              rw [eo]
              exact ⟨rfl, _, _, hR, cP_flag (by first | omega | exact bb_01 _) (by decide) nC.refl nW.refl (by omega)⟩
          · refine i_71_45 (x := 30 + 3 * a.toNat) l2 ?_
            refine i_71_46 (v := Value.int (Int32.ofInt (S (30 + 3 * a.toNat) 1))) (hR.k2 (kd_reg (r := a.toNat) (by omega))) rfl ?_
            refine i_71_49 (x := 30 + 3 * b.toNat) l3 ?_
            refine i_71_50 (v := Value.int (Int32.ofInt (S (30 + 3 * b.toNat) 1))) (hR.k2 (kd_reg (r := b.toNat) (by omega))) rfl ?_
            refine i_71_53 (b_ne (a := S (30 + 3 * a.toNat) 1) (b := S (30 + 3 * b.toNat) 1) ⟨by omega, by omega⟩ ⟨by omega, by omega⟩ fun c33 => ?_) (b_eq (a := S (30 + 3 * a.toNat) 1) (b := S (30 + 3 * b.toNat) 1) ⟨by omega, by omega⟩ ⟨by omega, by omega⟩ fun c33 => ?_)
            · refine i_71_65 (x := 30 + 3 * a.toNat) l2 ?_
              refine i_71_66 (v := Value.int (Int32.ofInt (S (30 + 3 * a.toNat) 1))) (hR.k2 (kd_reg (r := a.toNat) (by omega))) rfl ?_
              refine i_71_69 ?_
              refine i_71_70 (b_ne (a := S (30 + 3 * a.toNat) 1) (b := 3) ⟨by omega, by omega⟩ ⟨by decide, by decide⟩ fun c34 => ?_) (b_eq (a := S (30 + 3 * a.toNat) 1) (b := 3) ⟨by omega, by omega⟩ ⟨by decide, by decide⟩ fun c34 => absurd c34 (by omega))
              refine i_71_95 (x := 30 + 3 * a.toNat) l2 ?_
              refine i_71_96 (v := Value.int (Int32.ofInt (S (30 + 3 * a.toNat) 1))) (hR.k2 (kd_reg (r := a.toNat) (by omega))) rfl ?_
              refine i_71_99 ?_
              refine i_71_100 (b_ne (a := S (30 + 3 * a.toNat) 1) (b := 3) ⟨by omega, by omega⟩ ⟨by decide, by decide⟩ fun c35 => ?_) (b_eq (a := S (30 + 3 * a.toNat) 1) (b := 3) ⟨by omega, by omega⟩ ⟨by decide, by decide⟩ fun c35 => absurd c35 (by omega))
              refine i_71_111 (x := 30 + 3 * a.toNat) l2 ?_
              refine i_71_112 (v := Value.int (Int32.ofInt (S (30 + 3 * a.toNat) 1))) (hR.k2 (kd_reg (r := a.toNat) (by omega))) rfl ?_
              refine i_71_115 ?_
              refine i_71_116 (b_eq (a := S (30 + 3 * a.toNat) 1) (b := 1) ⟨by omega, by omega⟩ ⟨by decide, by decide⟩ fun c36 => ?_) (b_ne (a := S (30 + 3 * a.toNat) 1) (b := 1) ⟨by omega, by omega⟩ ⟨by decide, by decide⟩ fun c36 => ?_)
              · refine i_71_127 ?_
                refine i_71_128 ?_
                refine i_71_132 rfl ?_
                refine lgen1 (i := 6) (v := Value.int 1) (fun lv lg ls => ?_)
                replace l5 := lg 5 _ rfl rfl l5
                replace l0 := lg 0 _ rfl rfl l0
                replace l1 := lg 1 _ rfl rfl l1
                replace l2 := lg 2 _ rfl rfl l2
                replace l3 := lg 3 _ rfl rfl l3
                replace l4 := lg 4 _ rfl rfl l4
                have l6 := ls
                refine i_71_134 (x := 30 + 3 * r.toNat) l1 ?_
                refine i_71_135 (x := 1) l6 ?_
                refine i_71_137 (fun c => absurd c (by decide)) (fun _ => ?_)
                refine i_71_140 ?_
                refine i_71_141 ?_
                refine i_71_145 (x := Int32.ofInt sg) l5 ?_
                have hobj := hR.k2 (kd_reg (r := r.toNat) (by omega))
                obtain ⟨w, hrun, hR⟩ := x_spec (d := d + 9) (t := 30 + 3 * r.toNat) (which := 1) (sg := sg) hR (kd_reg (r := r.toNat) (by omega)) (by first | omega | exact bb_01 _)
                refine i_71_147 hobj (Nat.le_of_ble_eq_true rfl) hrun ?_
                refine i_71_150 ?_
                have eo : sQuo2 (vS S) (vV V) r.toNat a.toNat b.toNat mode = oS 1 sg (S 78 3) := by clear hR; simp only [sQuo2, sQuo, vS_153, vS_154, vS_155, vS_156, vS_17, vS_18, vS_19, vS_20, vV_r]; grind
                rw [eo]
                exact ⟨rfl, _, _, hR, cP_special (by first | omega | exact bb_01 _) (by decide) nC.refl nW.refl rfl (by omega)⟩
              · refine i_71_119 (x := 30 + 3 * b.toNat) l3 ?_
                refine i_71_120 (v := Value.int (Int32.ofInt (S (30 + 3 * b.toNat) 1))) (hR.k2 (kd_reg (r := b.toNat) (by omega))) rfl ?_
                refine i_71_123 ?_
                refine i_71_124 (b_ne (a := S (30 + 3 * b.toNat) 1) (b := 2) ⟨by omega, by omega⟩ ⟨by decide, by decide⟩ fun c37 => ?_) (b_eq (a := S (30 + 3 * b.toNat) 1) (b := 2) ⟨by omega, by omega⟩ ⟨by decide, by decide⟩ fun c37 => ?_)
                · refine i_71_131 ?_
                  refine i_71_132 rfl ?_
                  refine lgen1 (i := 6) (v := Value.int 0) (fun lv lg ls => ?_)
                  replace l5 := lg 5 _ rfl rfl l5
                  replace l0 := lg 0 _ rfl rfl l0
                  replace l1 := lg 1 _ rfl rfl l1
                  replace l2 := lg 2 _ rfl rfl l2
                  replace l3 := lg 3 _ rfl rfl l3
                  replace l4 := lg 4 _ rfl rfl l4
                  have l6 := ls
                  refine i_71_134 (x := 30 + 3 * r.toNat) l1 ?_
                  refine i_71_135 (x := 0) l6 ?_
                  refine i_71_137 (fun _ => ?_) (fun c => absurd c (by decide))
                  refine i_71_144 ?_
                  refine i_71_145 (x := Int32.ofInt sg) l5 ?_
                  have hobj := hR.k2 (kd_reg (r := r.toNat) (by omega))
                  obtain ⟨w, hrun, hR⟩ := x_spec (d := d + 9) (t := 30 + 3 * r.toNat) (which := 2) (sg := sg) hR (kd_reg (r := r.toNat) (by omega)) (by first | omega | exact bb_01 _)
                  refine i_71_147 hobj (Nat.le_of_ble_eq_true rfl) hrun ?_
                  refine i_71_150 ?_
                  have eo : sQuo2 (vS S) (vV V) r.toNat a.toNat b.toNat mode = oS 2 sg (S 78 3) := by clear hR; simp only [sQuo2, sQuo, vS_153, vS_154, vS_155, vS_156, vS_17, vS_18, vS_19, vS_20, vV_r]; grind
                  rw [eo]
                  exact ⟨rfl, _, _, hR, cP_special (by first | omega | exact bb_01 _) (by decide) nC.refl nW.refl rfl (by omega)⟩
                · refine i_71_127 ?_
                  refine i_71_128 ?_
                  refine i_71_132 rfl ?_
                  refine lgen1 (i := 6) (v := Value.int 1) (fun lv lg ls => ?_)
                  replace l5 := lg 5 _ rfl rfl l5
                  replace l0 := lg 0 _ rfl rfl l0
                  replace l1 := lg 1 _ rfl rfl l1
                  replace l2 := lg 2 _ rfl rfl l2
                  replace l3 := lg 3 _ rfl rfl l3
                  replace l4 := lg 4 _ rfl rfl l4
                  have l6 := ls
                  refine i_71_134 (x := 30 + 3 * r.toNat) l1 ?_
                  refine i_71_135 (x := 1) l6 ?_
                  refine i_71_137 (fun c => absurd c (by decide)) (fun _ => ?_)
                  refine i_71_140 ?_
                  refine i_71_141 ?_
                  refine i_71_145 (x := Int32.ofInt sg) l5 ?_
                  have hobj := hR.k2 (kd_reg (r := r.toNat) (by omega))
                  obtain ⟨w, hrun, hR⟩ := x_spec (d := d + 9) (t := 30 + 3 * r.toNat) (which := 1) (sg := sg) hR (kd_reg (r := r.toNat) (by omega)) (by first | omega | exact bb_01 _)
                  refine i_71_147 hobj (Nat.le_of_ble_eq_true rfl) hrun ?_
                  refine i_71_150 ?_
                  have eo : sQuo2 (vS S) (vV V) r.toNat a.toNat b.toNat mode = oS 1 sg (S 78 3) := by clear hR; simp only [sQuo2, sQuo, vS_153, vS_154, vS_155, vS_156, vS_17, vS_18, vS_19, vS_20, vV_r]; grind
                  rw [eo]
                  exact ⟨rfl, _, _, hR, cP_special (by first | omega | exact bb_01 _) (by decide) nC.refl nW.refl rfl (by omega)⟩
            · refine i_71_56 (x := 93) l0 ?_
              refine i_71_57 (v := Value.ref 78) (hR.k8 kq_93) rfl ?_
              refine i_71_60 (x := 30 + 3 * r.toNat) l1 ?_
              have hobj := hR.k1 kq_78
              obtain ⟨w, hrun, hR⟩ := x_refuse (d := d + 6) (g := 78) (t := 30 + 3 * r.toNat) hR kq_78 (kd_reg (r := r.toNat) (by omega))
              refine i_71_61 hobj (Nat.le_of_ble_eq_true rfl) hrun ?_
              refine i_71_64 ?_
              have eo : sQuo2 (vS S) (vV V) r.toNat a.toNat b.toNat mode = oS 0 0 (zor (S 78 3) 8) := by clear hR; simp only [sQuo2, sQuo, vS_153, vS_154, vS_155, vS_156, vS_17, vS_18, vS_19, vS_20, vV_r]; grind
              rw [eo]
              exact ⟨rfl, _, _, hR, cP_flag (by first | omega | exact bb_01 _) (by decide) nC.refl nW.refl (by omega)⟩
        · refine i_71_32 (x := 30 + 3 * r.toNat) l1 ?_
          have hobj := hR.k2 (kd_reg (r := r.toNat) (by omega))
          obtain ⟨w, hrun, hR⟩ := x_nan (d := d + 8) (t := 30 + 3 * r.toNat) hR (kd_reg (r := r.toNat) (by omega))
          refine i_71_33 hobj (Nat.le_of_ble_eq_true rfl) hrun ?_
          refine i_71_36 ?_
          have eo : sQuo2 (vS S) (vV V) r.toNat a.toNat b.toNat mode = oS 0 0 (S 78 3) := by clear hR; simp only [sQuo2, sQuo, vS_153, vS_154, vS_155, vS_156, vS_17, vS_18, vS_19, vS_20, vV_r]; grind
          rw [eo]
          exact ⟨rfl, _, _, hR, cP_special (by first | omega | exact bb_01 _) (by decide) nC.refl nW.refl rfl (by omega)⟩
    refine i_71_0 (x := 30 + 3 * a.toNat) l2 ?_
    refine i_71_1 (v := Value.int (Int32.ofInt (S (30 + 3 * a.toNat) 2))) (hR.k2 (kd_reg (r := a.toNat) (by omega))) rfl ?_
    refine i_71_4 (x := 30 + 3 * b.toNat) l3 ?_
    refine i_71_5 (v := Value.int (Int32.ofInt (S (30 + 3 * b.toNat) 2))) (hR.k2 (kd_reg (r := b.toNat) (by omega))) rfl ?_
    refine i_71_8 (b_eq (a := S (30 + 3 * a.toNat) 2) (b := S (30 + 3 * b.toNat) 2) ⟨by omega, by omega⟩ ⟨by omega, by omega⟩ fun c0 => ?_) (b_ne (a := S (30 + 3 * a.toNat) 2) (b := S (30 + 3 * b.toNat) 2) ⟨by omega, by omega⟩ ⟨by omega, by omega⟩ fun c0 => ?_)
    · refine i_71_15 ?_
      exact tail 0 lv (by rw [xorI, if_pos c0]) (by omega) l0 l1 l2 l3 l4
    · refine i_71_11 ?_
      refine i_71_12 ?_
      exact tail 1 lv (by rw [xorI, if_neg c0]) (by omega) l0 l1 l2 l3 l4
  obtain ⟨o, w', h1, rfl, h2⟩ := (key (lv_args 0 [Value.ref 93, Value.ref (30 + 3 * r.toNat), Value.ref (30 + 3 * a.toNat), Value.ref (30 + 3 * b.toNat), Value.int (Int32.ofInt mode)]) rfl rfl rfl rfl rfl).run
  exact ⟨w', h1, h2⟩
end
