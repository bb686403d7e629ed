/-! read of the reference -/
section
variable {d rx n : Nat} {w0 w : xW} {S : Nat → Nat → Int} {V V1 : Nat → Nat} {r mode sg : Int} {lv : xLv} {Q : Option Value ⊕ Nat → xW → Prop}
set_option maxHeartbeats 4000000 in
theorem rr_K {X : Nat × Nat × Nat × Nat} (hR : mR w0 S V1 w) (hI : mI S V) (hnV : nV V V1) (h129 : V1 129 = X.2.2.2) (hv : xbl X.2.2.2 ≤ 24576) (hB : ∀ j, -128 ≤ S 158 j ∧ S 158 j ≤ 127) (hn : n ≤ 4096) (hrx : 2 ≤ rx ∧ rx ≤ 36) (hsg : sg = 0 ∨ sg = 1) (hr : 0 ≤ r ∧ r ≤ 15) (hmo : 0 ≤ mode ∧ mode ≤ 4) (h1 : X.1 ≤ n) (h2 : X.2.1 ≤ 4096) (h3 : X.2.2.1 ≤ 4096) (l0 : xld lv 0 = some (Value.ref 128)) (l1 : xld lv 1 = some (Value.int (Int32.ofInt r))) (l2 : xld lv 2 = some (Value.int (Int32.ofInt (rx : Int)))) (l3 : xld lv 3 = some (Value.int (Int32.ofInt mode))) (l4 : xld lv 4 = some (Value.int (Int32.ofInt (n : Int)))) (l6 : xld lv 6 = some (Value.int (Int32.ofInt sg))) (l5 : xld lv 5 = some (Value.int (Int32.ofInt (X.1 : Int)))) (l7 : xld lv 7 = some (Value.int (Int32.ofInt (X.2.1 : Int)))) (l8 : xld lv 8 = some (Value.int (Int32.ofInt (X.2.2.1 : Int)))) : xEv (d + 8) 258 251 lv [] w (rdQ w0 S V r.toNat mode rx (unS2 (S 158) n sg X)) := by
  refine i_258_251 (x := Int32.ofInt (X.2.1 : Int)) l7 ?_
  refine i_258_253 (z_le (a := (X.2.1 : Int)) ⟨by omega, by omega⟩ fun c0 => ?_) (z_gt (a := (X.2.1 : Int)) ⟨by omega, by omega⟩ fun c0 => ?_)
  · refine i_258_260 ?_
    have hrun := s_text0 (d := d + 1) (w := w)
    refine j_258_261 (Nat.le_of_ble_eq_true rfl) hrun (xDone.t (ci := 15) xgl rfl rfl ?_)
    have hX : unS2 (S 158) n sg X = none := if_pos (by omega)
    rw [hX]
    exact ⟨w, V1, rfl, rfl, hR, hnV⟩
  · refine i_258_256 ?_
    refine i_258_257 ?_
    have hrun := s_text1 (d := d + 6) (w := w)
    refine i_258_261 (Nat.le_of_ble_eq_true rfl) hrun ?_
    exact rr_G (a := X.1) (c := X.2.1) (b := X.2.2.1) (v := X.2.2.2) hR hI hnV h129 hv hB hn hrx hsg hr hmo (by omega) (by omega) (by omega) l0 l1 l2 l3 l4 l6 l5 l8
set_option maxHeartbeats 8000000 in
theorem rr_H (hR : mR w0 S V w) (hI : mI S V) (hB : ∀ j, -128 ≤ S 158 j ∧ S 158 j ≤ 127) (hn : n ≤ 4096) (hrx : 2 ≤ rx ∧ rx ≤ 36) (hr : 0 ≤ r ∧ r ≤ 15) (hmo : 0 ≤ mode ∧ mode ≤ 4) (l0 : xld lv 0 = some (Value.ref 128)) (l1 : xld lv 1 = some (Value.int (Int32.ofInt r))) (l2 : xld lv 2 = some (Value.int (Int32.ofInt (rx : Int)))) (l3 : xld lv 3 = some (Value.int (Int32.ofInt mode))) (l4 : xld lv 4 = some (Value.int (Int32.ofInt (n : Int)))) (l5 : xld lv 5 = some (Value.int 0)) : xEv (d + 8) 258 32 lv [] w (rdQ w0 S V r.toNat mode rx (unS (S 158) rx n)) := by
  have hB0 := hB 0
  replace hB := hid.i hB
  refine i_258_32 (x := 128) l0 ?_
  refine i_258_33 ?_
  refine i_258_34 (x := Int32.ofInt (n : Int)) l4 ?_
  refine i_258_36 ?_
  refine i_258_38 ?_
  refine i_258_40 ?_
  have hobj := hR.c128
  have hrun := s_says (d := d + 6) (a := 0) (n := n) (x := 110) (y := 97) (z := 110) hR (hid.o hB) hn (by omega) (by decide) (by decide) (by decide)
  refine i_258_42 hobj (Nat.le_of_ble_eq_true rfl) hrun ?_
  refine i_258_45 (zb_f fun c0 => ?_) (zb_t fun c0 => ?_)
  · refine i_258_56 (x := Int32.ofInt (n : Int)) l4 ?_
    refine i_258_58 (z_le (a := (n : Int)) ⟨by omega, by omega⟩ fun c1 => ?_) (z_gt (a := (n : Int)) ⟨by omega, by omega⟩ fun c1 => ?_)
    · refine i_258_76 ?_
      refine i_258_77 rfl ?_
      refine lgen1 (i := 6) (v := Value.int 0) (fun lv lg ls => ?_)
      replace l0 := lg 0 _ rfl rfl l0
      replace l1 := lg 1 _ rfl rfl l1
      replace l2 := lg 2 _ rfl rfl l2
      replace l3 := lg 3 _ rfl rfl l3
      replace l4 := lg 4 _ rfl rfl l4
      replace l5 := lg 5 _ rfl rfl l5
      have l6 := ls
      refine i_258_79 (x := Int32.ofInt (n : Int)) l4 ?_
      refine i_258_81 (z_le (a := (n : Int)) ⟨by omega, by omega⟩ fun c2 => ?_) (z_gt (a := (n : Int)) ⟨by omega, by omega⟩ fun c2 => absurd c2 (by omega))
      refine i_258_109 (x := 128) l0 ?_
      refine i_258_110 (x := 0) l5 ?_
      refine i_258_112 (x := Int32.ofInt (n : Int)) l4 ?_
      refine i_258_114 ?_
      refine i_258_116 ?_
      refine i_258_118 ?_
      have hobj := hR.c128
      have hrun := s_says (d := d + 6) (a := 0) (n := n) (x := 105) (y := 110) (z := 102) hR (hid.o hB) hn (by omega) (by decide) (by decide) (by decide)
      refine i_258_120 hobj (Nat.le_of_ble_eq_true rfl) hrun ?_
      refine i_258_123 (zb_f fun c3 => ?_) (zb_t fun c3 => ?_)
      · refine i_258_135 ?_
        refine i_258_136 rfl ?_
        refine lgen1 (i := 7) (v := Value.int 0) (fun lv lg ls => ?_)
        replace l6 := lg 6 _ rfl rfl l6
        replace l0 := lg 0 _ rfl rfl l0
        replace l1 := lg 1 _ rfl rfl l1
        replace l2 := lg 2 _ rfl rfl l2
        replace l3 := lg 3 _ rfl rfl l3
        replace l4 := lg 4 _ rfl rfl l4
        replace l5 := lg 5 _ rfl rfl l5
        have l7 := ls
        refine i_258_138 ?_
        refine i_258_139 rfl ?_
        refine lgen1 (i := 8) (v := Value.int 0) (fun lv lg ls => ?_)
        replace l7 := lg 7 _ rfl rfl l7
        replace l6 := lg 6 _ rfl rfl l6
        replace l0 := lg 0 _ rfl rfl l0
        replace l1 := lg 1 _ rfl rfl l1
        replace l2 := lg 2 _ rfl rfl l2
        replace l3 := lg 3 _ rfl rfl l3
        replace l4 := lg 4 _ rfl rfl l4
        replace l5 := lg 5 _ rfl rfl l5
        have l8 := ls
        refine i_258_141 ?_
        refine i_258_142 rfl ?_
        refine lgen1 (i := 9) (v := Value.int 0) (fun lv lg ls => ?_)
        replace l8 := lg 8 _ rfl rfl l8
        replace l7 := lg 7 _ rfl rfl l7
        replace l6 := lg 6 _ rfl rfl l6
        replace l0 := lg 0 _ rfl rfl l0
        replace l1 := lg 1 _ rfl rfl l1
        replace l2 := lg 2 _ rfl rfl l2
        replace l3 := lg 3 _ rfl rfl l3
        replace l4 := lg 4 _ rfl rfl l4
        replace l5 := lg 5 _ rfl rfl l5
        have l9 := ls
        refine i_258_144 ?_
        refine i_258_145 rfl ?_
        refine lgen1 (i := 10) (v := Value.int 1) (fun lv lg ls => ?_)
        replace l9 := lg 9 _ rfl rfl l9
        replace l8 := lg 8 _ rfl rfl l8
        replace l7 := lg 7 _ rfl rfl l7
        replace l6 := lg 6 _ rfl rfl l6
        replace l0 := lg 0 _ rfl rfl l0
        replace l1 := lg 1 _ rfl rfl l1
        replace l2 := lg 2 _ rfl rfl l2
        replace l3 := lg 3 _ rfl rfl l3
        replace l4 := lg 4 _ rfl rfl l4
        replace l5 := lg 5 _ rfl rfl l5
        have l10 := ls
        refine i_258_147 (x := 128) l0 ?_
        refine i_258_148 (v := Value.ref 129) hR.c128 rfl ?_
        refine i_258_151 ?_
        obtain ⟨fs, hobj⟩ := hR.obj (h := 129) (iNw (h := 129) (by decide) (by decide) (by decide))
        obtain ⟨w, hrun, hR⟩ := r_setl (d := d + 5) (x := 0) (v := 0) hR (iNw (h := 129) (by decide) (by decide) (by decide)) rfl
        refine i_258_152 hobj (Nat.le_of_ble_eq_true rfl) hrun ?_
        have hX : unS (S 158) rx n = unS2 (S 158) n 0 (rdS (S 158) rx n (n - 0) 0 0 0 0 0) := by
          unfold unS unS1
          rw [if_neg (by rw [show wrd (S 158) 0 n 110 97 110 = false by assumption]; decide), if_neg (by omega), if_neg (by omega), if_neg (by rw [show wrd (S 158) 0 n 105 110 102 = false by assumption]; decide)]
        rw [hX]
        refine rr_L (sg := 0) (hid.o hB) hn hrx (by omega) hr hmo ?_ (n - 0) 0 0 0 0 0 (by omega) (Or.inl rfl) (by omega) (by rw [xbl_zero]; omega) (by omega) rfl hR (nV.up nV.refl (by omega)) uv_s l0 l1 l2 l3 l4 l6 l5 l7 l8 l9 l10
        intro lv w V1 hR hnV h129 hv q1 q2 q3 l0 l1 l2 l3 l4 l6 l5 l7 l8
        exact rr_K hR hI hnV h129 hv (hid.o hB) hn hrx (by omega) hr hmo q1 q2 q3 l0 l1 l2 l3 l4 l6 l5 l7 l8
      · refine i_258_126 (x := 128) l0 ?_
        refine i_258_127 (x := Int32.ofInt r) l1 ?_
        refine i_258_128 ?_
        refine i_258_129 (x := 0) l6 ?_
        have hobj := hR.c128
        obtain ⟨w, hrun, hR⟩ := s_special (d := d + 6) (r := r) (k := 1) (s := 0) hR (by omega) (by omega) (by omega)
        refine i_258_131 hobj (Nat.le_of_ble_eq_true rfl) hrun ?_
        refine i_258_134 ?_
        have hX : unS (S 158) rx n = some (1, 0, 0, 0) := by
          unfold unS unS1
          rw [if_neg (by rw [show wrd (S 158) 0 n 110 97 110 = false by assumption]; decide)]
          first
          | (rw [if_pos (by omega), if_pos (by assumption)]; done)
          | (rw [if_neg (by omega), if_pos (by omega), if_pos (by assumption)]; done)
          | (rw [if_neg (by omega), if_neg (by omega), if_pos (by assumption)]; done)
        rw [hX]
        exact ⟨rfl, _, _, hR, oP_special (by omega) (by decide) nS.refl nV.refl rfl⟩
    · refine i_258_61 (x := 128) l0 ?_
      refine i_258_62 (v := Value.ref 158) hR.c128 rfl ?_
      refine i_258_65 ?_
      refine i_258_66 (v := Value.int (Int32.ofInt (S 158 0))) (hR.row a158) (by decide) (by decide) rfl ?_
      refine i_258_67 ?_
      refine i_258_69 (b_ne (a := S 158 0) (b := 45) ⟨by omega, by omega⟩ ⟨by decide, by decide⟩ fun c4 => ?_) (b_eq (a := S 158 0) (b := 45) ⟨by omega, by omega⟩ ⟨by decide, by decide⟩ fun c4 => ?_)
      · refine i_258_76 ?_
        refine i_258_77 rfl ?_
        refine lgen1 (i := 6) (v := Value.int 0) (fun lv lg ls => ?_)
        replace l0 := lg 0 _ rfl rfl l0
        replace l1 := lg 1 _ rfl rfl l1
        replace l2 := lg 2 _ rfl rfl l2
        replace l3 := lg 3 _ rfl rfl l3
        replace l4 := lg 4 _ rfl rfl l4
        replace l5 := lg 5 _ rfl rfl l5
        have l6 := ls
        refine i_258_79 (x := Int32.ofInt (n : Int)) l4 ?_
        refine i_258_81 (z_le (a := (n : Int)) ⟨by omega, by omega⟩ fun c5 => absurd c5 (by omega)) (z_gt (a := (n : Int)) ⟨by omega, by omega⟩ fun c5 => ?_)
        refine i_258_84 (x := 128) l0 ?_
        refine i_258_85 (v := Value.ref 158) hR.c128 rfl ?_
        refine i_258_88 ?_
        refine i_258_89 (v := Value.int (Int32.ofInt (S 158 0))) (hR.row a158) (by decide) (by decide) rfl ?_
        refine i_258_90 ?_
        refine i_258_92 (b_eq (a := S 158 0) (b := 45) ⟨by omega, by omega⟩ ⟨by decide, by decide⟩ fun c6 => absurd c6 (by omega)) (b_ne (a := S 158 0) (b := 45) ⟨by omega, by omega⟩ ⟨by decide, by decide⟩ fun c6 => ?_)
        refine i_258_95 (x := 128) l0 ?_
        refine i_258_96 (v := Value.ref 158) hR.c128 rfl ?_
        refine i_258_99 ?_
        refine i_258_100 (v := Value.int (Int32.ofInt (S 158 0))) (hR.row a158) (by decide) (by decide) rfl ?_
        refine i_258_101 ?_
        refine i_258_103 (b_ne (a := S 158 0) (b := 43) ⟨by omega, by omega⟩ ⟨by decide, by decide⟩ fun c7 => ?_) (b_eq (a := S 158 0) (b := 43) ⟨by omega, by omega⟩ ⟨by decide, by decide⟩ fun c7 => ?_)
        · refine i_258_109 (x := 128) l0 ?_
          refine i_258_110 (x := 0) l5 ?_
          refine i_258_112 (x := Int32.ofInt (n : Int)) l4 ?_
          refine i_258_114 ?_
          refine i_258_116 ?_
          refine i_258_118 ?_
          have hobj := hR.c128
          have hrun := s_says (d := d + 6) (a := 0) (n := n) (x := 105) (y := 110) (z := 102) hR (hid.o hB) hn (by omega) (by decide) (by decide) (by decide)
          refine i_258_120 hobj (Nat.le_of_ble_eq_true rfl) hrun ?_
          refine i_258_123 (zb_f fun c8 => ?_) (zb_t fun c8 => ?_)
          · refine i_258_135 ?_
            refine i_258_136 rfl ?_
            refine lgen1 (i := 7) (v := Value.int 0) (fun lv lg ls => ?_)
            replace l6 := lg 6 _ rfl rfl l6
            replace l0 := lg 0 _ rfl rfl l0
            replace l1 := lg 1 _ rfl rfl l1
            replace l2 := lg 2 _ rfl rfl l2
            replace l3 := lg 3 _ rfl rfl l3
            replace l4 := lg 4 _ rfl rfl l4
            replace l5 := lg 5 _ rfl rfl l5
            have l7 := ls
            refine i_258_138 ?_
            refine i_258_139 rfl ?_
            refine lgen1 (i := 8) (v := Value.int 0) (fun lv lg ls => ?_)
            replace l7 := lg 7 _ rfl rfl l7
            replace l6 := lg 6 _ rfl rfl l6
            replace l0 := lg 0 _ rfl rfl l0
            replace l1 := lg 1 _ rfl rfl l1
            replace l2 := lg 2 _ rfl rfl l2
            replace l3 := lg 3 _ rfl rfl l3
            replace l4 := lg 4 _ rfl rfl l4
            replace l5 := lg 5 _ rfl rfl l5
            have l8 := ls
            refine i_258_141 ?_
            refine i_258_142 rfl ?_
            refine lgen1 (i := 9) (v := Value.int 0) (fun lv lg ls => ?_)
            replace l8 := lg 8 _ rfl rfl l8
            replace l7 := lg 7 _ rfl rfl l7
            replace l6 := lg 6 _ rfl rfl l6
            replace l0 := lg 0 _ rfl rfl l0
            replace l1 := lg 1 _ rfl rfl l1
            replace l2 := lg 2 _ rfl rfl l2
            replace l3 := lg 3 _ rfl rfl l3
            replace l4 := lg 4 _ rfl rfl l4
            replace l5 := lg 5 _ rfl rfl l5
            have l9 := ls
            refine i_258_144 ?_
            refine i_258_145 rfl ?_
            refine lgen1 (i := 10) (v := Value.int 1) (fun lv lg ls => ?_)
            replace l9 := lg 9 _ rfl rfl l9
            replace l8 := lg 8 _ rfl rfl l8
            replace l7 := lg 7 _ rfl rfl l7
            replace l6 := lg 6 _ rfl rfl l6
            replace l0 := lg 0 _ rfl rfl l0
            replace l1 := lg 1 _ rfl rfl l1
            replace l2 := lg 2 _ rfl rfl l2
            replace l3 := lg 3 _ rfl rfl l3
            replace l4 := lg 4 _ rfl rfl l4
            replace l5 := lg 5 _ rfl rfl l5
            have l10 := ls
            refine i_258_147 (x := 128) l0 ?_
            refine i_258_148 (v := Value.ref 129) hR.c128 rfl ?_
            refine i_258_151 ?_
            obtain ⟨fs, hobj⟩ := hR.obj (h := 129) (iNw (h := 129) (by decide) (by decide) (by decide))
            obtain ⟨w, hrun, hR⟩ := r_setl (d := d + 5) (x := 0) (v := 0) hR (iNw (h := 129) (by decide) (by decide) (by decide)) rfl
            refine i_258_152 hobj (Nat.le_of_ble_eq_true rfl) hrun ?_
            have hX : unS (S 158) rx n = unS2 (S 158) n 0 (rdS (S 158) rx n (n - 0) 0 0 0 0 0) := by
              unfold unS unS1
              rw [if_neg (by rw [show wrd (S 158) 0 n 110 97 110 = false by assumption]; decide), if_neg (by omega), if_neg (by omega), if_neg (by rw [show wrd (S 158) 0 n 105 110 102 = false by assumption]; decide)]
            rw [hX]
            refine rr_L (sg := 0) (hid.o hB) hn hrx (by omega) hr hmo ?_ (n - 0) 0 0 0 0 0 (by omega) (Or.inl rfl) (by omega) (by rw [xbl_zero]; omega) (by omega) rfl hR (nV.up nV.refl (by omega)) uv_s l0 l1 l2 l3 l4 l6 l5 l7 l8 l9 l10
            intro lv w V1 hR hnV h129 hv q1 q2 q3 l0 l1 l2 l3 l4 l6 l5 l7 l8
            exact rr_K hR hI hnV h129 hv (hid.o hB) hn hrx (by omega) hr hmo q1 q2 q3 l0 l1 l2 l3 l4 l6 l5 l7 l8
          · refine i_258_126 (x := 128) l0 ?_
            refine i_258_127 (x := Int32.ofInt r) l1 ?_
            refine i_258_128 ?_
            refine i_258_129 (x := 0) l6 ?_
            have hobj := hR.c128
            obtain ⟨w, hrun, hR⟩ := s_special (d := d + 6) (r := r) (k := 1) (s := 0) hR (by omega) (by omega) (by omega)
            refine i_258_131 hobj (Nat.le_of_ble_eq_true rfl) hrun ?_
            refine i_258_134 ?_
            have hX : unS (S 158) rx n = some (1, 0, 0, 0) := by
              unfold unS unS1
              rw [if_neg (by rw [show wrd (S 158) 0 n 110 97 110 = false by assumption]; decide)]
              first
              | (rw [if_pos (by omega), if_pos (by assumption)]; done)
              | (rw [if_neg (by omega), if_pos (by omega), if_pos (by assumption)]; done)
              | (rw [if_neg (by omega), if_neg (by omega), if_pos (by assumption)]; done)
            rw [hX]
            exact ⟨rfl, _, _, hR, oP_special (by omega) (by decide) nS.refl nV.refl rfl⟩
        · refine i_258_106 ?_
          refine i_258_107 rfl ?_
          refine lgen1 (i := 5) (v := Value.int 1) (fun lv lg ls => ?_)
          replace l6 := lg 6 _ rfl rfl l6
          replace l0 := lg 0 _ rfl rfl l0
          replace l1 := lg 1 _ rfl rfl l1
          replace l2 := lg 2 _ rfl rfl l2
          replace l3 := lg 3 _ rfl rfl l3
          replace l4 := lg 4 _ rfl rfl l4
          have l5 := ls
          refine i_258_109 (x := 128) l0 ?_
          refine i_258_110 (x := 1) l5 ?_
          refine i_258_112 (x := Int32.ofInt (n : Int)) l4 ?_
          refine i_258_114 ?_
          refine i_258_116 ?_
          refine i_258_118 ?_
          have hobj := hR.c128
          have hrun := s_says (d := d + 6) (a := 1) (n := n) (x := 105) (y := 110) (z := 102) hR (hid.o hB) hn (by omega) (by decide) (by decide) (by decide)
          refine i_258_120 hobj (Nat.le_of_ble_eq_true rfl) hrun ?_
          refine i_258_123 (zb_f fun c9 => ?_) (zb_t fun c9 => ?_)
          · refine i_258_135 ?_
            refine i_258_136 rfl ?_
            refine lgen1 (i := 7) (v := Value.int 0) (fun lv lg ls => ?_)
            replace l5 := lg 5 _ rfl rfl l5
            replace l6 := lg 6 _ rfl rfl l6
            replace l0 := lg 0 _ rfl rfl l0
            replace l1 := lg 1 _ rfl rfl l1
            replace l2 := lg 2 _ rfl rfl l2
            replace l3 := lg 3 _ rfl rfl l3
            replace l4 := lg 4 _ rfl rfl l4
            have l7 := ls
            refine i_258_138 ?_
            refine i_258_139 rfl ?_
            refine lgen1 (i := 8) (v := Value.int 0) (fun lv lg ls => ?_)
            replace l7 := lg 7 _ rfl rfl l7
            replace l5 := lg 5 _ rfl rfl l5
            replace l6 := lg 6 _ rfl rfl l6
            replace l0 := lg 0 _ rfl rfl l0
            replace l1 := lg 1 _ rfl rfl l1
            replace l2 := lg 2 _ rfl rfl l2
            replace l3 := lg 3 _ rfl rfl l3
            replace l4 := lg 4 _ rfl rfl l4
            have l8 := ls
            refine i_258_141 ?_
            refine i_258_142 rfl ?_
            refine lgen1 (i := 9) (v := Value.int 0) (fun lv lg ls => ?_)
            replace l8 := lg 8 _ rfl rfl l8
            replace l7 := lg 7 _ rfl rfl l7
            replace l5 := lg 5 _ rfl rfl l5
            replace l6 := lg 6 _ rfl rfl l6
            replace l0 := lg 0 _ rfl rfl l0
            replace l1 := lg 1 _ rfl rfl l1
            replace l2 := lg 2 _ rfl rfl l2
            replace l3 := lg 3 _ rfl rfl l3
            replace l4 := lg 4 _ rfl rfl l4
            have l9 := ls
            refine i_258_144 ?_
            refine i_258_145 rfl ?_
            refine lgen1 (i := 10) (v := Value.int 1) (fun lv lg ls => ?_)
            replace l9 := lg 9 _ rfl rfl l9
            replace l8 := lg 8 _ rfl rfl l8
            replace l7 := lg 7 _ rfl rfl l7
            replace l5 := lg 5 _ rfl rfl l5
            replace l6 := lg 6 _ rfl rfl l6
            replace l0 := lg 0 _ rfl rfl l0
            replace l1 := lg 1 _ rfl rfl l1
            replace l2 := lg 2 _ rfl rfl l2
            replace l3 := lg 3 _ rfl rfl l3
            replace l4 := lg 4 _ rfl rfl l4
            have l10 := ls
            refine i_258_147 (x := 128) l0 ?_
            refine i_258_148 (v := Value.ref 129) hR.c128 rfl ?_
            refine i_258_151 ?_
            obtain ⟨fs, hobj⟩ := hR.obj (h := 129) (iNw (h := 129) (by decide) (by decide) (by decide))
            obtain ⟨w, hrun, hR⟩ := r_setl (d := d + 5) (x := 0) (v := 0) hR (iNw (h := 129) (by decide) (by decide) (by decide)) rfl
            refine i_258_152 hobj (Nat.le_of_ble_eq_true rfl) hrun ?_
            have hX : unS (S 158) rx n = unS2 (S 158) n 0 (rdS (S 158) rx n (n - 1) 1 0 0 0 0) := by
              unfold unS unS1
              rw [if_neg (by rw [show wrd (S 158) 0 n 110 97 110 = false by assumption]; decide), if_neg (by omega), if_pos (by omega), if_neg (by rw [show wrd (S 158) 1 n 105 110 102 = false by assumption]; decide)]
            rw [hX]
            refine rr_L (sg := 0) (hid.o hB) hn hrx (by omega) hr hmo ?_ (n - 1) 1 0 0 0 0 (by omega) (Or.inl rfl) (by omega) (by rw [xbl_zero]; omega) (by omega) rfl hR (nV.up nV.refl (by omega)) uv_s l0 l1 l2 l3 l4 l6 l5 l7 l8 l9 l10
            intro lv w V1 hR hnV h129 hv q1 q2 q3 l0 l1 l2 l3 l4 l6 l5 l7 l8
            exact rr_K hR hI hnV h129 hv (hid.o hB) hn hrx (by omega) hr hmo q1 q2 q3 l0 l1 l2 l3 l4 l6 l5 l7 l8
          · refine i_258_126 (x := 128) l0 ?_
            refine i_258_127 (x := Int32.ofInt r) l1 ?_
            refine i_258_128 ?_
            refine i_258_129 (x := 0) l6 ?_
            have hobj := hR.c128
            obtain ⟨w, hrun, hR⟩ := s_special (d := d + 6) (r := r) (k := 1) (s := 0) hR (by omega) (by omega) (by omega)
            refine i_258_131 hobj (Nat.le_of_ble_eq_true rfl) hrun ?_
            refine i_258_134 ?_
            have hX : unS (S 158) rx n = some (1, 0, 0, 0) := by
              unfold unS unS1
              rw [if_neg (by rw [show wrd (S 158) 0 n 110 97 110 = false by assumption]; decide)]
              first
              | (rw [if_pos (by omega), if_pos (by assumption)]; done)
              | (rw [if_neg (by omega), if_pos (by omega), if_pos (by assumption)]; done)
              | (rw [if_neg (by omega), if_neg (by omega), if_pos (by assumption)]; done)
            rw [hX]
            exact ⟨rfl, _, _, hR, oP_special (by omega) (by decide) nS.refl nV.refl rfl⟩
      · refine i_258_72 ?_
        refine i_258_73 ?_
        refine i_258_77 rfl ?_
        refine lgen1 (i := 6) (v := Value.int 1) (fun lv lg ls => ?_)
        replace l0 := lg 0 _ rfl rfl l0
        replace l1 := lg 1 _ rfl rfl l1
        replace l2 := lg 2 _ rfl rfl l2
        replace l3 := lg 3 _ rfl rfl l3
        replace l4 := lg 4 _ rfl rfl l4
        replace l5 := lg 5 _ rfl rfl l5
        have l6 := ls
        refine i_258_79 (x := Int32.ofInt (n : Int)) l4 ?_
        refine i_258_81 (z_le (a := (n : Int)) ⟨by omega, by omega⟩ fun c10 => absurd c10 (by omega)) (z_gt (a := (n : Int)) ⟨by omega, by omega⟩ fun c10 => ?_)
        refine i_258_84 (x := 128) l0 ?_
        refine i_258_85 (v := Value.ref 158) hR.c128 rfl ?_
        refine i_258_88 ?_
        refine i_258_89 (v := Value.int (Int32.ofInt (S 158 0))) (hR.row a158) (by decide) (by decide) rfl ?_
        refine i_258_90 ?_
        refine i_258_92 (b_eq (a := S 158 0) (b := 45) ⟨by omega, by omega⟩ ⟨by decide, by decide⟩ fun c11 => ?_) (b_ne (a := S 158 0) (b := 45) ⟨by omega, by omega⟩ ⟨by decide, by decide⟩ fun c11 => absurd c11 (by omega))
        refine i_258_106 ?_
        refine i_258_107 rfl ?_
        refine lgen1 (i := 5) (v := Value.int 1) (fun lv lg ls => ?_)
        replace l6 := lg 6 _ rfl rfl l6
        replace l0 := lg 0 _ rfl rfl l0
        replace l1 := lg 1 _ rfl rfl l1
        replace l2 := lg 2 _ rfl rfl l2
        replace l3 := lg 3 _ rfl rfl l3
        replace l4 := lg 4 _ rfl rfl l4
        have l5 := ls
        refine i_258_109 (x := 128) l0 ?_
        refine i_258_110 (x := 1) l5 ?_
        refine i_258_112 (x := Int32.ofInt (n : Int)) l4 ?_
        refine i_258_114 ?_
        refine i_258_116 ?_
        refine i_258_118 ?_
        have hobj := hR.c128
        have hrun := s_says (d := d + 6) (a := 1) (n := n) (x := 105) (y := 110) (z := 102) hR (hid.o hB) hn (by omega) (by decide) (by decide) (by decide)
        refine i_258_120 hobj (Nat.le_of_ble_eq_true rfl) hrun ?_
        refine i_258_123 (zb_f fun c12 => ?_) (zb_t fun c12 => ?_)
        · refine i_258_135 ?_
          refine i_258_136 rfl ?_
          refine lgen1 (i := 7) (v := Value.int 0) (fun lv lg ls => ?_)
          replace l5 := lg 5 _ rfl rfl l5
          replace l6 := lg 6 _ rfl rfl l6
          replace l0 := lg 0 _ rfl rfl l0
          replace l1 := lg 1 _ rfl rfl l1
          replace l2 := lg 2 _ rfl rfl l2
          replace l3 := lg 3 _ rfl rfl l3
          replace l4 := lg 4 _ rfl rfl l4
          have l7 := ls
          refine i_258_138 ?_
          refine i_258_139 rfl ?_
          refine lgen1 (i := 8) (v := Value.int 0) (fun lv lg ls => ?_)
          replace l7 := lg 7 _ rfl rfl l7
          replace l5 := lg 5 _ rfl rfl l5
          replace l6 := lg 6 _ rfl rfl l6
          replace l0 := lg 0 _ rfl rfl l0
          replace l1 := lg 1 _ rfl rfl l1
          replace l2 := lg 2 _ rfl rfl l2
          replace l3 := lg 3 _ rfl rfl l3
          replace l4 := lg 4 _ rfl rfl l4
          have l8 := ls
          refine i_258_141 ?_
          refine i_258_142 rfl ?_
          refine lgen1 (i := 9) (v := Value.int 0) (fun lv lg ls => ?_)
          replace l8 := lg 8 _ rfl rfl l8
          replace l7 := lg 7 _ rfl rfl l7
          replace l5 := lg 5 _ rfl rfl l5
          replace l6 := lg 6 _ rfl rfl l6
          replace l0 := lg 0 _ rfl rfl l0
          replace l1 := lg 1 _ rfl rfl l1
          replace l2 := lg 2 _ rfl rfl l2
          replace l3 := lg 3 _ rfl rfl l3
          replace l4 := lg 4 _ rfl rfl l4
          have l9 := ls
          refine i_258_144 ?_
          refine i_258_145 rfl ?_
          refine lgen1 (i := 10) (v := Value.int 1) (fun lv lg ls => ?_)
          replace l9 := lg 9 _ rfl rfl l9
          replace l8 := lg 8 _ rfl rfl l8
          replace l7 := lg 7 _ rfl rfl l7
          replace l5 := lg 5 _ rfl rfl l5
          replace l6 := lg 6 _ rfl rfl l6
          replace l0 := lg 0 _ rfl rfl l0
          replace l1 := lg 1 _ rfl rfl l1
          replace l2 := lg 2 _ rfl rfl l2
          replace l3 := lg 3 _ rfl rfl l3
          replace l4 := lg 4 _ rfl rfl l4
          have l10 := ls
          refine i_258_147 (x := 128) l0 ?_
          refine i_258_148 (v := Value.ref 129) hR.c128 rfl ?_
          refine i_258_151 ?_
          obtain ⟨fs, hobj⟩ := hR.obj (h := 129) (iNw (h := 129) (by decide) (by decide) (by decide))
          obtain ⟨w, hrun, hR⟩ := r_setl (d := d + 5) (x := 0) (v := 0) hR (iNw (h := 129) (by decide) (by decide) (by decide)) rfl
          refine i_258_152 hobj (Nat.le_of_ble_eq_true rfl) hrun ?_
          have hX : unS (S 158) rx n = unS2 (S 158) n 1 (rdS (S 158) rx n (n - 1) 1 0 0 0 0) := by
            unfold unS unS1
            rw [if_neg (by rw [show wrd (S 158) 0 n 110 97 110 = false by assumption]; decide), if_pos (by omega), if_neg (by rw [show wrd (S 158) 1 n 105 110 102 = false by assumption]; decide)]
          rw [hX]
          refine rr_L (sg := 1) (hid.o hB) hn hrx (by omega) hr hmo ?_ (n - 1) 1 0 0 0 0 (by omega) (Or.inl rfl) (by omega) (by rw [xbl_zero]; omega) (by omega) rfl hR (nV.up nV.refl (by omega)) uv_s l0 l1 l2 l3 l4 l6 l5 l7 l8 l9 l10
          intro lv w V1 hR hnV h129 hv q1 q2 q3 l0 l1 l2 l3 l4 l6 l5 l7 l8
          exact rr_K hR hI hnV h129 hv (hid.o hB) hn hrx (by omega) hr hmo q1 q2 q3 l0 l1 l2 l3 l4 l6 l5 l7 l8
        · refine i_258_126 (x := 128) l0 ?_
          refine i_258_127 (x := Int32.ofInt r) l1 ?_
          refine i_258_128 ?_
          refine i_258_129 (x := 1) l6 ?_
          have hobj := hR.c128
          obtain ⟨w, hrun, hR⟩ := s_special (d := d + 6) (r := r) (k := 1) (s := 1) hR (by omega) (by omega) (by omega)
          refine i_258_131 hobj (Nat.le_of_ble_eq_true rfl) hrun ?_
          refine i_258_134 ?_
          have hX : unS (S 158) rx n = some (1, 1, 0, 0) := by
            unfold unS unS1
            rw [if_neg (by rw [show wrd (S 158) 0 n 110 97 110 = false by assumption]; decide)]
            first
            | (rw [if_pos (by omega), if_pos (by assumption)]; done)
            | (rw [if_neg (by omega), if_pos (by omega), if_pos (by assumption)]; done)
            | (rw [if_neg (by omega), if_neg (by omega), if_pos (by assumption)]; done)
          rw [hX]
          exact ⟨rfl, _, _, hR, oP_special (by omega) (by decide) nS.refl nV.refl rfl⟩
  · refine i_258_48 (x := 128) l0 ?_
    refine i_258_49 (x := Int32.ofInt r) l1 ?_
    refine i_258_50 ?_
    refine i_258_51 ?_
    have hobj := hR.c128
    obtain ⟨w, hrun, hR⟩ := s_special (d := d + 6) (r := r) (k := 0) (s := 0) hR (by omega) (by omega) (by omega)
    refine i_258_52 hobj (Nat.le_of_ble_eq_true rfl) hrun ?_
    refine i_258_55 ?_
    have hX : unS (S 158) rx n = some (0, 0, 0, 0) := if_pos (by assumption)
    rw [hX]
    exact ⟨rfl, _, _, hR, oP_special (by omega) (by decide) nS.refl nV.refl rfl⟩
set_option maxHeartbeats 4000000 in
theorem rr_0 (hR : mR w0 S V w) (hI : mI S V) (hB : ∀ j, -128 ≤ S 158 j ∧ S 158 j ≤ 127) (hn : n ≤ 4096) (hrx : 2 ≤ rx ∧ rx ≤ 36) (hr : 0 ≤ r ∧ r ≤ 15) (hmo : 0 ≤ mode ∧ mode ≤ 4) (h24 : S 128 24 = (n : Int)) : xEv (d + 8) 258 0 (lv_args 0 [Value.ref 128, Value.int (Int32.ofInt r), Value.int (Int32.ofInt (rx : Int)), Value.int (Int32.ofInt mode)]) [] w (rdQ w0 (u2 S 128 24 0) V r.toNat mode rx (unS (S 158) rx n)) := by
  have hI0 : mI (u2 S 128 24 0) V := by
    obtain ⟨i1, i2, i3, i4⟩ := hI
    refine ⟨fun r hr => ?_, ?_, ?_, ?_⟩
    · simpa [u2_e] using i1 r hr
    · simpa [u2_e] using i2
    · simpa [u2_e] using i3
    · simpa [u2_e] using i4
  refine i_258_0 (x := Int32.ofInt r) rfl ?_
  have hrun := s_reg1 (d := d + 5) (w := w) (r := r) (by omega) (by omega)
  refine i_258_1 (Nat.le_of_ble_eq_true rfl) hrun ?_
  refine i_258_4 (x := Int32.ofInt (rx : Int)) rfl ?_
  refine i_258_5 ?_
  refine i_258_6 ?_
  have hrun := s_in (d := d + 6) (w := w) (v := (rx : Int)) (lo := 2) (hi := 36) ⟨by omega, by omega⟩ ⟨by decide, by decide⟩ ⟨by decide, by decide⟩
  refine i_258_8 (Nat.le_of_ble_eq_true rfl) hrun ?_
  have hrun := s_ck1 (d := d + 6) (w := w) (b := (decide (2 ≤ (rx : Int) ∧ (rx : Int) ≤ 36))) (decide_eq_true (by omega))
  refine i_258_11 (Nat.le_of_ble_eq_true rfl) hrun ?_
  refine i_258_14 (x := Int32.ofInt mode) rfl ?_
  have hrun := s_mode1 (d := d + 5) (w := w) (r := mode) (by omega) (by omega)
  refine i_258_15 (Nat.le_of_ble_eq_true rfl) hrun ?_
  refine i_258_18 (x := 128) rfl ?_
  refine i_258_19 (v := Value.int (Int32.ofInt (S 128 24))) hR.c128 rfl ?_
  refine i_258_22 (lv2 := [(4, Value.int (Int32.ofInt (S 128 24))), (0, Value.ref 128), (1, Value.int (Int32.ofInt r)), (2, Value.int (Int32.ofInt (rx : Int))), (3, Value.int (Int32.ofInt mode))]) rfl ?_
  refine i_258_24 ?_
  refine i_258_25 (lv2 := [(5, Value.int 0), (4, Value.int (Int32.ofInt (S 128 24))), (0, Value.ref 128), (1, Value.int (Int32.ofInt r)), (2, Value.int (Int32.ofInt (rx : Int))), (3, Value.int (Int32.ofInt mode))]) rfl ?_
  refine i_258_27 (x := 128) rfl ?_
  refine i_258_28 ?_
  refine i_258_29 (fs2 := mf (u1 (S 128) 24 0)) hR.c128 (Nat.le_of_ble_eq_true rfl) (mfs_24 (v := 0)) (by decide) ?_
  refine xgen (P := mR w0 (u2 S 128 24 0) V) hR.fld2 (fun w hR => ?_)
  exact rr_H hR hI0 hB hn hrx hr hmo rfl rfl rfl rfl (by rw [← h24]; rfl) rfl
theorem s_read {x : Int × Int × Nat × Int} (hR : mR w0 S V w) (hI : mI S V) (hB : ∀ j, -128 ≤ S 158 j ∧ S 158 j ≤ 127) (hn : n ≤ 4096) (hrx : 2 ≤ rx ∧ rx ≤ 36) (hr : 0 ≤ r ∧ r ≤ 15) (hmo : 0 ≤ mode ∧ mode ≤ 4) (h24 : S 128 24 = (n : Int)) (hx : unS (S 158) rx n = some x) : ∃ w', xRun (d + 8) 258 [Value.ref 128, Value.int (Int32.ofInt r), Value.int (Int32.ofInt (rx : Int)), Value.int (Int32.ofInt mode)] w (.inl (some (.int (Int32.ofInt (sRdO (S 153 r.toNat) (S 128 17) (S 128 18) (S 128 20) (S 128 19) mode rx x).2.2.2.2.1)))) w' ∧ ∃ S' V', mR w0 S' V' w' ∧ oP (u2 S 128 24 0) S' V V' r.toNat (sRdO (S 153 r.toNat) (S 128 17) (S 128 18) (S 128 20) (S 128 19) mode rx x) := by
  have key := rr_0 (d := d) (mode := mode) hR hI hB hn hrx hr hmo h24
  rw [hx] at key
  obtain ⟨o, w', h1, h2, h3⟩ := key.run
  subst h2
  exact ⟨w', h1, h3⟩
theorem n_read (hR : mR w0 S V w) (hI : mI S V) (hB : ∀ j, -128 ≤ S 158 j ∧ S 158 j ≤ 127) (hn : n ≤ 4096) (hrx : 2 ≤ rx ∧ rx ≤ 36) (hr : 0 ≤ r ∧ r ≤ 15) (hmo : 0 ≤ mode ∧ mode ≤ 4) (h24 : S 128 24 = (n : Int)) (hx : unS (S 158) rx n = none) : ∃ w1 V1, xRun (d + 8) 258 [Value.ref 128, Value.int (Int32.ofInt r), Value.int (Int32.ofInt (rx : Int)), Value.int (Int32.ofInt mode)] w (.inr w1.length) (w1 ++ [.inr (15, [])]) ∧ mR w0 (u2 S 128 24 0) V1 w1 ∧ nV V V1 := by
  have key := rr_0 (d := d) (mode := mode) hR hI hB hn hrx hr hmo h24
  rw [hx] at key
  obtain ⟨o, w', h1, w1, V1, h2, h3, h4, h5⟩ := key.run
  subst h2
  subst h3
  exact ⟨w1, V1, h1, h4, h5⟩
theorem b_read {d : Nat} {w : xW} {r rx mode : Int} (b_r : -2147483648 ≤ r ∧ r < 2147483648) (b_rx : -2147483648 ≤ rx ∧ rx < 2147483648) (b_mode : -2147483648 ≤ mode ∧ mode < 2147483648) (h : ¬ ((0 ≤ r ∧ r ≤ 15) ∧ (2 ≤ rx ∧ rx ≤ 36) ∧ (0 ≤ mode ∧ mode ≤ 4))) : xRun (d + 8) 258 [Value.ref 128, Value.int (Int32.ofInt r), Value.int (Int32.ofInt rx), Value.int (Int32.ofInt mode)] w (.inr w.length) (w ++ [.inr (14, [])]) := by
  refine xRun.of ?_
  refine i_258_0 (x := Int32.ofInt r) rfl ?_
  rcases Classical.em (0 ≤ r ∧ r ≤ 15) with hc1 | hc1
  · have hrun := s_reg1 (d := d + 5) (w := w) (r := r) (by omega) hc1
    refine i_258_1 (Nat.le_of_ble_eq_true rfl) hrun ?_
    refine i_258_4 (x := Int32.ofInt rx) rfl ?_
    refine i_258_5 ?_
    refine i_258_6 ?_
    have hrun := s_in (d := d + 6) (w := w) (v := rx) (lo := 2) (hi := 36) ⟨by omega, by omega⟩ ⟨by decide, by decide⟩ ⟨by decide, by decide⟩
    refine i_258_8 (Nat.le_of_ble_eq_true rfl) hrun ?_
    rcases Classical.em (2 ≤ rx ∧ rx ≤ 36) with hc2 | hc2
    · have hrun := s_ck1 (d := d + 6) (w := w) (b := (decide (2 ≤ rx ∧ rx ≤ 36))) (decide_eq_true hc2)
      refine i_258_11 (Nat.le_of_ble_eq_true rfl) hrun ?_
      refine i_258_14 (x := Int32.ofInt mode) rfl ?_
      rcases Classical.em (0 ≤ mode ∧ mode ≤ 4) with hc3 | hc3
      · have hrun := s_mode1 (d := d + 5) (w := w) (r := mode) (by omega) hc3
        refine i_258_15 (Nat.le_of_ble_eq_true rfl) hrun ?_
        exfalso; omega
      · have hrun := s_mode0 (d := d) (w := w) (r := mode) (by omega) hc3
        refine j_258_15 (Nat.le_of_ble_eq_true rfl) hrun (xDone.t (ci := 14) xgl rfl rfl ?_)
        exact ⟨rfl, rfl⟩
    · have hrun := s_ck0 (d := d + 1) (w := w) (b := (decide (2 ≤ rx ∧ rx ≤ 36))) (decide_eq_false hc2)
      refine j_258_11 (Nat.le_of_ble_eq_true rfl) hrun (xDone.t (ci := 14) xgl rfl rfl ?_)
      exact ⟨rfl, rfl⟩
  · have hrun := s_reg0 (d := d) (w := w) (r := r) (by omega) hc1
    refine j_258_1 (Nat.le_of_ble_eq_true rfl) hrun (xDone.t (ci := 14) xgl rfl rfl ?_)
    exact ⟨rfl, rfl⟩
end
