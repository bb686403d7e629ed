/-! rootOf of the reference -/
theorem ro_loop {d : Nat} {w0 : xW} {S : Nat → Nat → Int} {V : Nat → Nat} {v r N G0 : Nat} {n : Int} {Q : Option Value ⊕ Nat → xW → Prop} (hn : n = (N : Int) + 1) (hN : 1 ≤ N ∧ N ≤ 31) (hv : xbl v ≤ 134000) (hr1 : r ^ (N + 1) ≤ v) (hr2 : v < (r + 1) ^ (N + 1)) (hr0 : 1 ≤ r) (hG : xbl (G0 ^ (N + 1)) ≤ 134500) (hQ : ∀ lv w V1, xld lv 0 = some (Value.ref 128) → xld lv 1 = some (Value.int (Int32.ofInt n)) → nV V V1 → V1 129 = v → V1 145 = r → mR w0 S V1 w → xEv (d + 4) 205 161 lv [] w Q) (k : Nat) : ∀ (lv : xLv) (w : xW) (V1 : Nat → Nat) (x : Nat), x ≤ r + k → r ≤ x → x ≤ G0 → xld lv 0 = some (Value.ref 128) → xld lv 1 = some (Value.int (Int32.ofInt n)) → xld lv 2 = some (Value.int 1) → nV V V1 → V1 129 = v → V1 145 = x → mR w0 S V1 w → xEv (d + 4) 205 40 lv [] w Q := by
  induction k with
  | zero =>
    intro lv w V1 x hk hrx hxG l0 l1 l2 hn1 hv1 hx1 hR
    have eN : (n - 1).toNat = N := by omega
    have en : (n : Int).toNat = N + 1 := by omega
    have hx0 : x ≠ 0 := by omega
    have bp : xbl (x ^ N) ≤ 134500 := Nat.le_trans (xbl_mono (Nat.le_trans (Nat.pow_le_pow_left hxG N) (Nat.pow_le_pow_right (by omega) (by omega)))) hG
    have hp0 : x ^ N ≠ 0 := Nat.pos_iff_ne_zero.mp (Nat.pow_pos (by omega))
    have bx : xbl x ≤ 134500 := by
      have := xbl_mono (a := x) (b := x ^ N) (by have := Nat.pow_le_pow_right (n := x) (show 0 < x by omega) hN.1; rwa [Nat.pow_one] at this)
      omega
    have bN : xbl N ≤ 5 := xbl_le (by omega)
    have bxN : xbl (x * N) ≤ 134505 := Nat.le_trans (xbl_prod x N) (by omega)
    have bq : xbl (v / x ^ N) ≤ 134000 := Nat.le_trans (xbl_mono (Nat.div_le_self _ _)) hv
    have bs : xbl (x * N + v / x ^ N) ≤ 134506 := xbl_add (n := 134505) bxN (by omega)
    have bf : xbl ((x * N + v / x ^ N) / (N + 1)) ≤ 134506 := Nat.le_trans (xbl_mono (Nat.div_le_self _ _)) bs
    refine i_205_40 (x := 1) l2 ?_
    refine i_205_41 (fun c => absurd c (by decide)) (fun _ => ?_)
    refine i_205_44 (x := 128) l0 ?_
    refine i_205_45 (x := 128) l0 ?_
    refine i_205_46 (v := Value.ref 145) hR.c128 rfl ?_
    refine i_205_49 (x := Int32.ofInt n) l1 ?_
    refine i_205_50 ?_
    refine i_205_51 (c := Int32.ofInt (n - 1)) (o_sub n 1) ?_
    have hobj := hR.c128
    obtain ⟨w, u1, hrun, hR⟩ := s_raise (d := d) (h := 145) (x := x) (n := n - 1) hR (iNw (h := 145) (by decide) (by decide) (by decide)) (by omega) (by omega) (hx1) (by exact hx0) (by omega) (by omega) (by rw [eN]; omega)
    try rw [eN] at hR
    try rw [en] at hR
    refine i_205_52 hobj (Nat.le_of_ble_eq_true rfl) hrun ?_
    refine i_205_55 (x := 128) l0 ?_
    refine i_205_56 (v := Value.ref 131) hR.c128 rfl ?_
    refine i_205_59 (x := 128) l0 ?_
    refine i_205_60 (v := Value.ref 129) hR.c128 rfl ?_
    obtain ⟨fs, hobj⟩ := hR.obj (h := 131) (iNw (h := 131) (by decide) (by decide) (by decide))
    obtain ⟨w, hrun, hR⟩ := r_setn (d := d + 1) (v := v) (c := 4700) hR (iNw (h := 131) (by decide) (by decide) (by decide)) (iNw (h := 129) (by decide) (by decide) (by decide)) ((uv_n (by omega)).trans ((uv_n (by omega)).trans (hv1))) rfl (by omega)
    refine i_205_63 hobj (Nat.le_of_ble_eq_true rfl) hrun ?_
    refine i_205_66 (x := 128) l0 ?_
    refine i_205_67 (x := 128) l0 ?_
    refine i_205_68 (v := Value.ref 131) hR.c128 rfl ?_
    refine i_205_71 (x := 128) l0 ?_
    refine i_205_72 (v := Value.ref 141) hR.c128 rfl ?_
    refine i_205_75 (x := 128) l0 ?_
    refine i_205_76 (v := Value.ref 133) hR.c128 rfl ?_
    have hobj := hR.c128
    obtain ⟨w, z2, hrun, hR⟩ := s_divide (d := d) (hx := 131) (hy := 141) (t := 133) (x := v) (y := x ^ N) hR (iNw (h := 131) (by decide) (by decide) (by decide)) (iNw (h := 141) (by decide) (by decide) (by decide)) (by omega) (by omega) (by omega) (by omega) (by omega) (by omega) (by omega) (uv_s) ((uv_n (by omega)).trans (uv_s)) (by exact hp0) (by omega) (by omega)
    refine i_205_79 hobj (Nat.le_of_ble_eq_true rfl) hrun ?_
    refine i_205_82 (x := 128) l0 ?_
    refine i_205_83 (v := Value.ref 143) hR.c128 rfl ?_
    refine i_205_86 (x := 128) l0 ?_
    refine i_205_87 (v := Value.ref 145) hR.c128 rfl ?_
    obtain ⟨fs, hobj⟩ := hR.obj (h := 143) (iNw (h := 143) (by decide) (by decide) (by decide))
    obtain ⟨w, hrun, hR⟩ := r_setn (d := d + 1) (v := x) (c := 4700) hR (iNw (h := 143) (by decide) (by decide) (by decide)) (iNw (h := 145) (by decide) (by decide) (by decide)) ((uv_n (by omega)).trans ((uv_n (by omega)).trans ((uv_n (by omega)).trans ((uv_n (by omega)).trans ((uv_n (by omega)).trans ((uv_n (by omega)).trans (hx1))))))) rfl (by omega)
    refine i_205_90 hobj (Nat.le_of_ble_eq_true rfl) hrun ?_
    refine i_205_93 (x := 128) l0 ?_
    refine i_205_94 (v := Value.ref 143) hR.c128 rfl ?_
    refine i_205_97 (x := Int32.ofInt n) l1 ?_
    refine i_205_98 ?_
    refine i_205_99 (c := Int32.ofInt (n - 1)) (o_sub n 1) ?_
    obtain ⟨fs, hobj⟩ := hR.obj (h := 143) (iNw (h := 143) (by decide) (by decide) (by decide))
    obtain ⟨w, hrun, hR⟩ := r_times (d := d + 1) (v := x) (c := 4700) (k := n - 1) hR (iNw (h := 143) (by decide) (by decide) (by decide)) (uv_s) rfl (by omega) (by omega) (by omega)
    try rw [eN] at hR
    try rw [en] at hR
    rw [uvv] at hR
    refine i_205_100 hobj (Nat.le_of_ble_eq_true rfl) hrun ?_
    refine i_205_103 (x := 128) l0 ?_
    refine i_205_104 (v := Value.ref 143) hR.c128 rfl ?_
    refine i_205_107 (x := 128) l0 ?_
    refine i_205_108 (v := Value.ref 133) hR.c128 rfl ?_
    obtain ⟨fs, hobj⟩ := hR.obj (h := 143) (iNw (h := 143) (by decide) (by decide) (by decide))
    obtain ⟨w, hrun, hR⟩ := r_add (d := d + 1) (v := x * N) (v2 := v / (x ^ N)) (c := 4700) hR (iNw (h := 143) (by decide) (by decide) (by decide)) (iNw (h := 133) (by decide) (by decide) (by decide)) (by omega) (uv_s) ((uv_n (by omega)).trans ((uv_n (by omega)).trans (uv_s))) rfl (by omega) (by omega)
    rw [uvv] at hR
    refine i_205_111 hobj (Nat.le_of_ble_eq_true rfl) hrun ?_
    refine i_205_114 (x := 128) l0 ?_
    refine i_205_115 (v := Value.ref 143) hR.c128 rfl ?_
    refine i_205_118 (x := Int32.ofInt n) l1 ?_
    obtain ⟨fs, hobj⟩ := hR.obj (h := 143) (iNw (h := 143) (by decide) (by decide) (by decide))
    obtain ⟨w, hrun, hR⟩ := r_over (d := d + 1) (v := (x * N) + (v / (x ^ N))) (k := n) hR (iNw (h := 143) (by decide) (by decide) (by decide)) (uv_s) (by omega) (by omega)
    try rw [eN] at hR
    try rw [en] at hR
    rw [uvv] at hR
    refine i_205_119 hobj (Nat.le_of_ble_eq_true rfl) hrun ?_
    refine i_205_122 rfl ?_
    refine i_205_123 (x := 128) l0 ?_
    refine i_205_124 (v := Value.ref 143) hR.c128 rfl ?_
    refine i_205_127 (x := 128) l0 ?_
    refine i_205_128 (v := Value.ref 145) hR.c128 rfl ?_
    obtain ⟨fs, hobj⟩ := hR.obj (h := 143) (iNw (h := 143) (by decide) (by decide) (by decide))
    have hrun := r_cmp (d := d + 1) (v := ((x * N) + (v / (x ^ N))) / (N + 1)) (v2 := x) hR (iNw (h := 143) (by decide) (by decide) (by decide)) (iNw (h := 145) (by decide) (by decide) (by decide)) (uv_s) ((uv_n (by omega)).trans ((uv_n (by omega)).trans ((uv_n (by omega)).trans ((uv_n (by omega)).trans ((uv_n (by omega)).trans ((uv_n (by omega)).trans ((uv_n (by omega)).trans (hx1))))))))
    refine i_205_131 hobj (Nat.le_of_ble_eq_true rfl) hrun ?_
    refine i_205_134 (z_ge (a := ncmp (((x * N) + (v / (x ^ N))) / (N + 1)) x) (ncmp_b _ _) fun c2 => ?_) (z_lt (a := ncmp (((x * N) + (v / (x ^ N))) / (N + 1)) x) (ncmp_b _ _) fun c2 => ?_)
    · refine i_205_141 ?_
      refine i_205_142 rfl ?_
      refine lgen1 (i := 2) (v := Value.int 0) (fun lv lg ls => ?_)
      replace l0 := lg 0 _ rfl rfl l0
      replace l1 := lg 1 _ rfl rfl l1
      have l2 := ls
      refine i_205_143 (x := 0) l2 ?_
      refine i_205_144 (fun _ => ?_) (fun c => absurd c (by decide))
      refine i_205_40 (x := 0) l2 ?_
      refine i_205_41 (fun _ => ?_) (fun c => absurd c (by decide))
      have hc := ncmp_i ((x * N + v / x ^ N) / (N + 1)) x
      have hxr : x = r := by
        rcases Nat.lt_or_ge r x with h | h
        · have := newt_lt (x := x) (n := N) (by omega) (pow_lt_root h hr2)
          omega
        · omega
      exact hQ _ _ _ l0 l1 (nV.up (nV.up (nV.up (nV.up (nV.up (nV.up (nV.up hn1 (by decide)) (by decide)) (by decide)) (by decide)) (by decide)) (by decide)) (by decide)) ((uv_n (by omega)).trans ((uv_n (by omega)).trans ((uv_n (by omega)).trans ((uv_n (by omega)).trans ((uv_n (by omega)).trans ((uv_n (by omega)).trans ((uv_n (by omega)).trans (hv1)))))))) (((uv_n (by omega)).trans ((uv_n (by omega)).trans ((uv_n (by omega)).trans ((uv_n (by omega)).trans ((uv_n (by omega)).trans ((uv_n (by omega)).trans ((uv_n (by omega)).trans (hx1)))))))).trans hxr) hR
    · refine i_205_137 ?_
      refine i_205_138 ?_
      refine i_205_142 rfl ?_
      refine lgen1 (i := 2) (v := Value.int 1) (fun lv lg ls => ?_)
      replace l0 := lg 0 _ rfl rfl l0
      replace l1 := lg 1 _ rfl rfl l1
      have l2 := ls
      refine i_205_143 (x := 1) l2 ?_
      refine i_205_144 (fun c => absurd c (by decide)) (fun _ => ?_)
      refine i_205_147 (x := 128) l0 ?_
      refine i_205_148 (v := Value.ref 145) hR.c128 rfl ?_
      refine i_205_151 (x := 128) l0 ?_
      refine i_205_152 (v := Value.ref 143) hR.c128 rfl ?_
      obtain ⟨fs, hobj⟩ := hR.obj (h := 145) (iNw (h := 145) (by decide) (by decide) (by decide))
      obtain ⟨w, hrun, hR⟩ := r_setn (d := d + 1) (v := ((x * N) + (v / (x ^ N))) / (N + 1)) (c := 4700) hR (iNw (h := 145) (by decide) (by decide) (by decide)) (iNw (h := 143) (by decide) (by decide) (by decide)) (uv_s) rfl (by omega)
      refine i_205_155 hobj (Nat.le_of_ble_eq_true rfl) hrun ?_
      refine i_205_158 ?_
      have hc := ncmp_i ((x * N + v / x ^ N) / (N + 1)) x
      have hge := newt_ge (x := x) (r := r) (by omega) hr1
      exfalso
      omega
  | succ k ih =>
    intro lv w V1 x hk hrx hxG l0 l1 l2 hn1 hv1 hx1 hR
    have eN : (n - 1).toNat = N := by omega
    have en : (n : Int).toNat = N + 1 := by omega
    have hx0 : x ≠ 0 := by omega
    have bp : xbl (x ^ N) ≤ 134500 := Nat.le_trans (xbl_mono (Nat.le_trans (Nat.pow_le_pow_left hxG N) (Nat.pow_le_pow_right (by omega) (by omega)))) hG
    have hp0 : x ^ N ≠ 0 := Nat.pos_iff_ne_zero.mp (Nat.pow_pos (by omega))
    have bx : xbl x ≤ 134500 := by
      have := xbl_mono (a := x) (b := x ^ N) (by have := Nat.pow_le_pow_right (n := x) (show 0 < x by omega) hN.1; rwa [Nat.pow_one] at this)
      omega
    have bN : xbl N ≤ 5 := xbl_le (by omega)
    have bxN : xbl (x * N) ≤ 134505 := Nat.le_trans (xbl_prod x N) (by omega)
    have bq : xbl (v / x ^ N) ≤ 134000 := Nat.le_trans (xbl_mono (Nat.div_le_self _ _)) hv
    have bs : xbl (x * N + v / x ^ N) ≤ 134506 := xbl_add (n := 134505) bxN (by omega)
    have bf : xbl ((x * N + v / x ^ N) / (N + 1)) ≤ 134506 := Nat.le_trans (xbl_mono (Nat.div_le_self _ _)) bs
    refine i_205_40 (x := 1) l2 ?_
    refine i_205_41 (fun c => absurd c (by decide)) (fun _ => ?_)
    refine i_205_44 (x := 128) l0 ?_
    refine i_205_45 (x := 128) l0 ?_
    refine i_205_46 (v := Value.ref 145) hR.c128 rfl ?_
    refine i_205_49 (x := Int32.ofInt n) l1 ?_
    refine i_205_50 ?_
    refine i_205_51 (c := Int32.ofInt (n - 1)) (o_sub n 1) ?_
    have hobj := hR.c128
    obtain ⟨w, u1, hrun, hR⟩ := s_raise (d := d) (h := 145) (x := x) (n := n - 1) hR (iNw (h := 145) (by decide) (by decide) (by decide)) (by omega) (by omega) (hx1) (by exact hx0) (by omega) (by omega) (by rw [eN]; omega)
    try rw [eN] at hR
    try rw [en] at hR
    refine i_205_52 hobj (Nat.le_of_ble_eq_true rfl) hrun ?_
    refine i_205_55 (x := 128) l0 ?_
    refine i_205_56 (v := Value.ref 131) hR.c128 rfl ?_
    refine i_205_59 (x := 128) l0 ?_
    refine i_205_60 (v := Value.ref 129) hR.c128 rfl ?_
    obtain ⟨fs, hobj⟩ := hR.obj (h := 131) (iNw (h := 131) (by decide) (by decide) (by decide))
    obtain ⟨w, hrun, hR⟩ := r_setn (d := d + 1) (v := v) (c := 4700) hR (iNw (h := 131) (by decide) (by decide) (by decide)) (iNw (h := 129) (by decide) (by decide) (by decide)) ((uv_n (by omega)).trans ((uv_n (by omega)).trans (hv1))) rfl (by omega)
    refine i_205_63 hobj (Nat.le_of_ble_eq_true rfl) hrun ?_
    refine i_205_66 (x := 128) l0 ?_
    refine i_205_67 (x := 128) l0 ?_
    refine i_205_68 (v := Value.ref 131) hR.c128 rfl ?_
    refine i_205_71 (x := 128) l0 ?_
    refine i_205_72 (v := Value.ref 141) hR.c128 rfl ?_
    refine i_205_75 (x := 128) l0 ?_
    refine i_205_76 (v := Value.ref 133) hR.c128 rfl ?_
    have hobj := hR.c128
    obtain ⟨w, z2, hrun, hR⟩ := s_divide (d := d) (hx := 131) (hy := 141) (t := 133) (x := v) (y := x ^ N) hR (iNw (h := 131) (by decide) (by decide) (by decide)) (iNw (h := 141) (by decide) (by decide) (by decide)) (by omega) (by omega) (by omega) (by omega) (by omega) (by omega) (by omega) (uv_s) ((uv_n (by omega)).trans (uv_s)) (by exact hp0) (by omega) (by omega)
    refine i_205_79 hobj (Nat.le_of_ble_eq_true rfl) hrun ?_
    refine i_205_82 (x := 128) l0 ?_
    refine i_205_83 (v := Value.ref 143) hR.c128 rfl ?_
    refine i_205_86 (x := 128) l0 ?_
    refine i_205_87 (v := Value.ref 145) hR.c128 rfl ?_
    obtain ⟨fs, hobj⟩ := hR.obj (h := 143) (iNw (h := 143) (by decide) (by decide) (by decide))
    obtain ⟨w, hrun, hR⟩ := r_setn (d := d + 1) (v := x) (c := 4700) hR (iNw (h := 143) (by decide) (by decide) (by decide)) (iNw (h := 145) (by decide) (by decide) (by decide)) ((uv_n (by omega)).trans ((uv_n (by omega)).trans ((uv_n (by omega)).trans ((uv_n (by omega)).trans ((uv_n (by omega)).trans ((uv_n (by omega)).trans (hx1))))))) rfl (by omega)
    refine i_205_90 hobj (Nat.le_of_ble_eq_true rfl) hrun ?_
    refine i_205_93 (x := 128) l0 ?_
    refine i_205_94 (v := Value.ref 143) hR.c128 rfl ?_
    refine i_205_97 (x := Int32.ofInt n) l1 ?_
    refine i_205_98 ?_
    refine i_205_99 (c := Int32.ofInt (n - 1)) (o_sub n 1) ?_
    obtain ⟨fs, hobj⟩ := hR.obj (h := 143) (iNw (h := 143) (by decide) (by decide) (by decide))
    obtain ⟨w, hrun, hR⟩ := r_times (d := d + 1) (v := x) (c := 4700) (k := n - 1) hR (iNw (h := 143) (by decide) (by decide) (by decide)) (uv_s) rfl (by omega) (by omega) (by omega)
    try rw [eN] at hR
    try rw [en] at hR
    rw [uvv] at hR
    refine i_205_100 hobj (Nat.le_of_ble_eq_true rfl) hrun ?_
    refine i_205_103 (x := 128) l0 ?_
    refine i_205_104 (v := Value.ref 143) hR.c128 rfl ?_
    refine i_205_107 (x := 128) l0 ?_
    refine i_205_108 (v := Value.ref 133) hR.c128 rfl ?_
    obtain ⟨fs, hobj⟩ := hR.obj (h := 143) (iNw (h := 143) (by decide) (by decide) (by decide))
    obtain ⟨w, hrun, hR⟩ := r_add (d := d + 1) (v := x * N) (v2 := v / (x ^ N)) (c := 4700) hR (iNw (h := 143) (by decide) (by decide) (by decide)) (iNw (h := 133) (by decide) (by decide) (by decide)) (by omega) (uv_s) ((uv_n (by omega)).trans ((uv_n (by omega)).trans (uv_s))) rfl (by omega) (by omega)
    rw [uvv] at hR
    refine i_205_111 hobj (Nat.le_of_ble_eq_true rfl) hrun ?_
    refine i_205_114 (x := 128) l0 ?_
    refine i_205_115 (v := Value.ref 143) hR.c128 rfl ?_
    refine i_205_118 (x := Int32.ofInt n) l1 ?_
    obtain ⟨fs, hobj⟩ := hR.obj (h := 143) (iNw (h := 143) (by decide) (by decide) (by decide))
    obtain ⟨w, hrun, hR⟩ := r_over (d := d + 1) (v := (x * N) + (v / (x ^ N))) (k := n) hR (iNw (h := 143) (by decide) (by decide) (by decide)) (uv_s) (by omega) (by omega)
    try rw [eN] at hR
    try rw [en] at hR
    rw [uvv] at hR
    refine i_205_119 hobj (Nat.le_of_ble_eq_true rfl) hrun ?_
    refine i_205_122 rfl ?_
    refine i_205_123 (x := 128) l0 ?_
    refine i_205_124 (v := Value.ref 143) hR.c128 rfl ?_
    refine i_205_127 (x := 128) l0 ?_
    refine i_205_128 (v := Value.ref 145) hR.c128 rfl ?_
    obtain ⟨fs, hobj⟩ := hR.obj (h := 143) (iNw (h := 143) (by decide) (by decide) (by decide))
    have hrun := r_cmp (d := d + 1) (v := ((x * N) + (v / (x ^ N))) / (N + 1)) (v2 := x) hR (iNw (h := 143) (by decide) (by decide) (by decide)) (iNw (h := 145) (by decide) (by decide) (by decide)) (uv_s) ((uv_n (by omega)).trans ((uv_n (by omega)).trans ((uv_n (by omega)).trans ((uv_n (by omega)).trans ((uv_n (by omega)).trans ((uv_n (by omega)).trans ((uv_n (by omega)).trans (hx1))))))))
    refine i_205_131 hobj (Nat.le_of_ble_eq_true rfl) hrun ?_
    refine i_205_134 (z_ge (a := ncmp (((x * N) + (v / (x ^ N))) / (N + 1)) x) (ncmp_b _ _) fun c2 => ?_) (z_lt (a := ncmp (((x * N) + (v / (x ^ N))) / (N + 1)) x) (ncmp_b _ _) fun c2 => ?_)
    · refine i_205_141 ?_
      refine i_205_142 rfl ?_
      refine lgen1 (i := 2) (v := Value.int 0) (fun lv lg ls => ?_)
      replace l0 := lg 0 _ rfl rfl l0
      replace l1 := lg 1 _ rfl rfl l1
      have l2 := ls
      refine i_205_143 (x := 0) l2 ?_
      refine i_205_144 (fun _ => ?_) (fun c => absurd c (by decide))
      refine i_205_40 (x := 0) l2 ?_
      refine i_205_41 (fun _ => ?_) (fun c => absurd c (by decide))
      have hc := ncmp_i ((x * N + v / x ^ N) / (N + 1)) x
      have hxr : x = r := by
        rcases Nat.lt_or_ge r x with h | h
        · have := newt_lt (x := x) (n := N) (by omega) (pow_lt_root h hr2)
          omega
        · omega
      exact hQ _ _ _ l0 l1 (nV.up (nV.up (nV.up (nV.up (nV.up (nV.up (nV.up hn1 (by decide)) (by decide)) (by decide)) (by decide)) (by decide)) (by decide)) (by decide)) ((uv_n (by omega)).trans ((uv_n (by omega)).trans ((uv_n (by omega)).trans ((uv_n (by omega)).trans ((uv_n (by omega)).trans ((uv_n (by omega)).trans ((uv_n (by omega)).trans (hv1)))))))) (((uv_n (by omega)).trans ((uv_n (by omega)).trans ((uv_n (by omega)).trans ((uv_n (by omega)).trans ((uv_n (by omega)).trans ((uv_n (by omega)).trans ((uv_n (by omega)).trans (hx1)))))))).trans hxr) hR
    · refine i_205_137 ?_
      refine i_205_138 ?_
      refine i_205_142 rfl ?_
      refine lgen1 (i := 2) (v := Value.int 1) (fun lv lg ls => ?_)
      replace l0 := lg 0 _ rfl rfl l0
      replace l1 := lg 1 _ rfl rfl l1
      have l2 := ls
      refine i_205_143 (x := 1) l2 ?_
      refine i_205_144 (fun c => absurd c (by decide)) (fun _ => ?_)
      refine i_205_147 (x := 128) l0 ?_
      refine i_205_148 (v := Value.ref 145) hR.c128 rfl ?_
      refine i_205_151 (x := 128) l0 ?_
      refine i_205_152 (v := Value.ref 143) hR.c128 rfl ?_
      obtain ⟨fs, hobj⟩ := hR.obj (h := 145) (iNw (h := 145) (by decide) (by decide) (by decide))
      obtain ⟨w, hrun, hR⟩ := r_setn (d := d + 1) (v := ((x * N) + (v / (x ^ N))) / (N + 1)) (c := 4700) hR (iNw (h := 145) (by decide) (by decide) (by decide)) (iNw (h := 143) (by decide) (by decide) (by decide)) (uv_s) rfl (by omega)
      refine i_205_155 hobj (Nat.le_of_ble_eq_true rfl) hrun ?_
      refine i_205_158 ?_
      have hc := ncmp_i ((x * N + v / x ^ N) / (N + 1)) x
      have hge := newt_ge (x := x) (r := r) (by omega) hr1
      exact ih _ _ _ ((x * N + v / x ^ N) / (N + 1)) (by omega) hge (by omega) l0 l1 l2 (nV.up (nV.up (nV.up (nV.up (nV.up (nV.up (nV.up (nV.up hn1 (by decide)) (by decide)) (by decide)) (by decide)) (by decide)) (by decide)) (by decide)) (by decide)) ((uv_n (by omega)).trans ((uv_n (by omega)).trans ((uv_n (by omega)).trans ((uv_n (by omega)).trans ((uv_n (by omega)).trans ((uv_n (by omega)).trans ((uv_n (by omega)).trans ((uv_n (by omega)).trans (hv1))))))))) uv_s hR
