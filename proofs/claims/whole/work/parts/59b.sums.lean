/-! sums of the reference -/
theorem u2_id {S : Nat → Nat → Int} {a r : Nat} : u2 S a r (S a r) = S := by
  funext b j
  rw [u2_e]
  split
  · rename_i h; rw [h.1, h.2]
  · rfl
theorem u2_idv {S : Nat → Nat → Int} {a r : Nat} {v : Int} (h : v = S a r) : u2 S a r v = S := h ▸ u2_id
theorem uv_id {V : Nat → Nat} {k : Nat} : uv V k (V k) = V := by
  funext j
  rw [uv_e]
  split
  · rename_i h; rw [h]
  · rfl
theorem uv_idv {V : Nat → Nat} {k v : Nat} (h : v = V k) : uv V k v = V := h ▸ uv_id
def sumS (p least greatest gradual f mode : Int) (plus minus : Nat) (base zeros pz nz : Int) : OO :=
  if plus = minus then oS 2 (if zeros ≠ 0 ∧ pz ≠ nz then nz else if mode = 3 then 1 else 0) f
  else oR p least greatest gradual (if plus < minus then 1 else 0) mode 0 (if plus < minus then minus - plus else plus - minus) base f
theorem s_open {d : Nat} {w0 w : xW} {S : Nat → Nat → Int} {V : Nat → Nat} {e : Int} (hR : mR w0 S V w) : ∃ w', xRun (d + 3) 200 [Value.ref 128, Value.int (Int32.ofInt e)] w (.inl none) w' ∧ mR w0 (u2 (u2 (u2 (u2 S 128 26 e) 128 27 1) 128 28 0) 128 29 0) (uv (uv V 147 0) 149 0) w' := by
  have key : xEv (d + 3) 200 0 (lv_args 0 [Value.ref 128, Value.int (Int32.ofInt e)]) [] w (fun o w' => o = .inl none ∧ mR w0 (u2 (u2 (u2 (u2 S 128 26 e) 128 27 1) 128 28 0) 128 29 0) (uv (uv V 147 0) 149 0) w') := by
    refine i_200_0 (x := 128) rfl ?_
    refine i_200_1 (x := Int32.ofInt e) rfl ?_
    refine i_200_2 (fs2 := mf (u1 (S 128) 26 e)) hR.c128 (Nat.le_of_ble_eq_true rfl) (mfs_26 (v := e)) (by decide) ?_
    refine xgen (P := mR w0 (u2 S 128 26 e) V) hR.fld2 (fun w hR => ?_)
    refine i_200_5 (x := 128) rfl ?_
    refine i_200_6 (v := Value.ref 147) hR.c128 rfl ?_
    refine i_200_9 ?_
    obtain ⟨fs, hobj⟩ := hR.obj (h := 147) (iNw (h := 147) (by decide) (by decide) (by decide))
    obtain ⟨w, hrun, hR⟩ := r_setl (d := d) (x := (0 : Int64)) (v := 0) hR (iNw (h := 147) (by decide) (by decide) (by decide)) rfl
    refine i_200_10 hobj (Nat.le_of_ble_eq_true rfl) hrun ?_
    refine i_200_13 (x := 128) rfl ?_
    refine i_200_14 (v := Value.ref 149) hR.c128 rfl ?_
    refine i_200_17 ?_
    obtain ⟨fs, hobj⟩ := hR.obj (h := 149) (iNw (h := 149) (by decide) (by decide) (by decide))
    obtain ⟨w, hrun, hR⟩ := r_setl (d := d) (x := (0 : Int64)) (v := 0) hR (iNw (h := 149) (by decide) (by decide) (by decide)) rfl
    refine i_200_18 hobj (Nat.le_of_ble_eq_true rfl) hrun ?_
    refine i_200_21 (x := 128) rfl ?_
    refine i_200_22 ?_
    refine i_200_23 (fs2 := mf (u1 ((u2 S 128 26 e) 128) 27 1)) hR.c128 rfl (Nat.le_of_ble_eq_true rfl) (mfs_27 (v := 1)) (by decide) ?_
    refine xgen (P := mR w0 (u2 (u2 S 128 26 e) 128 27 1) (uv (uv V 147 0) 149 0)) hR.fld2 (fun w hR => ?_)
    refine i_200_26 (x := 128) rfl ?_
    refine i_200_27 ?_
    refine i_200_28 (fs2 := mf (u1 ((u2 (u2 S 128 26 e) 128 27 1) 128) 28 0)) hR.c128 rfl (Nat.le_of_ble_eq_true rfl) (mfs_28 (v := 0)) (by decide) ?_
    refine xgen (P := mR w0 (u2 (u2 (u2 S 128 26 e) 128 27 1) 128 28 0) (uv (uv V 147 0) 149 0)) hR.fld2 (fun w hR => ?_)
    refine i_200_31 (x := 128) rfl ?_
    refine i_200_32 ?_
    refine i_200_33 (fs2 := mf (u1 ((u2 (u2 (u2 S 128 26 e) 128 27 1) 128 28 0) 128) 29 0)) hR.c128 rfl (Nat.le_of_ble_eq_true rfl) (mfs_29 (v := 0)) (by decide) ?_
    refine xgen (P := mR w0 (u2 (u2 (u2 (u2 S 128 26 e) 128 27 1) 128 28 0) 128 29 0) (uv (uv V 147 0) 149 0)) hR.fld2 (fun w hR => ?_)
    refine i_200_36 ?_
    exact ⟨rfl, hR⟩
  obtain ⟨o, w', h1, rfl, h2⟩ := key.run
  exact ⟨w', h1, h2⟩
theorem s_addTo {d : Nat} {w0 w : xW} {S : Nat → Nat → Int} {V : Nat → Nat} {h m : Nat} {e sg : Int} (hR : mR w0 S V w) (hh : isN h) (hv : V h = m) (hs : sg = 0 ∨ sg = 1) (he : -200000 ≤ e ∧ e ≤ 200000) (hb : -200000 ≤ S 128 26 ∧ S 128 26 ≤ e) (hm : (xbl m : Int) + (e - S 128 26) ≤ 140800) (h1 : xbl (V 147) ≤ 140900) (h2 : xbl (V 149) ≤ 140900) : ∃ w', xRun (d + 3) 202 [Value.ref 128, Value.ref h, Value.int (Int32.ofInt e), Value.int (Int32.ofInt sg)] w (.inl none) w' ∧ mR w0 (u2 S 128 27 0) (uv (uv (uv V 151 (m * 2 ^ (e - S 128 26).toNat)) 147 (V 147 + if sg = 0 then m * 2 ^ (e - S 128 26).toNat else 0)) 149 (V 149 + if sg = 0 then 0 else m * 2 ^ (e - S 128 26).toNat)) w' := by
  have key : xEv (d + 3) 202 0 (lv_args 0 [Value.ref 128, Value.ref h, Value.int (Int32.ofInt e), Value.int (Int32.ofInt sg)]) [] w (fun o w' => o = .inl none ∧ mR w0 (u2 S 128 27 0) (uv (uv (uv V 151 (m * 2 ^ (e - S 128 26).toNat)) 147 (V 147 + if sg = 0 then m * 2 ^ (e - S 128 26).toNat else 0)) 149 (V 149 + if sg = 0 then 0 else m * 2 ^ (e - S 128 26).toNat)) w') := by
    refine i_202_0 (x := 128) rfl ?_
    refine i_202_1 (v := Value.ref 151) hR.c128 rfl ?_
    refine i_202_4 (x := h) rfl ?_
    obtain ⟨fs, hobj⟩ := hR.obj (h := 151) (iNw (h := 151) (by decide) (by decide) (by decide))
    obtain ⟨w, hrun, hR⟩ := r_setn (d := d) (v := m) (c := 4700) hR (iNw (h := 151) (by decide) (by decide) (by decide)) hh (hv) rfl (by omega)
    refine i_202_5 hobj (Nat.le_of_ble_eq_true rfl) hrun ?_
    refine i_202_8 (x := 128) rfl ?_
    refine i_202_9 (v := Value.ref 151) hR.c128 rfl ?_
    refine i_202_12 (x := Int32.ofInt e) rfl ?_
    refine i_202_13 (x := 128) rfl ?_
    refine i_202_14 (v := Value.int (Int32.ofInt (S 128 26))) hR.c128 rfl ?_
    refine i_202_17 (c := Int32.ofInt (e - (S 128 26))) (o_sub e (S 128 26)) ?_
    obtain ⟨fs, hobj⟩ := hR.obj (h := 151) (iNw (h := 151) (by decide) (by decide) (by decide))
    obtain ⟨w, hrun, hR⟩ := r_up (d := d) (v := m) (c := 4700) (k := e - (S 128 26)) hR (iNw (h := 151) (by decide) (by decide) (by decide)) (uv_s) rfl (by omega) (by omega)
    rw [uvv] at hR
    refine i_202_18 hobj (Nat.le_of_ble_eq_true rfl) hrun ?_
    refine i_202_21 (x := Int32.ofInt sg) rfl ?_
    refine i_202_22 (z_eq (a := sg) ⟨by omega, by omega⟩ fun c0 => ?_) (z_ne (a := sg) ⟨by omega, by omega⟩ fun c0 => ?_)
    · refine i_202_39 (x := 128) rfl ?_
      refine i_202_40 (v := Value.ref 147) hR.c128 rfl ?_
      refine i_202_43 (x := 128) rfl ?_
      refine i_202_44 (v := Value.ref 151) hR.c128 rfl ?_
      obtain ⟨fs, hobj⟩ := hR.obj (h := 147) (iNw (h := 147) (by decide) (by decide) (by decide))
      obtain ⟨w, hrun, hR⟩ := r_add (d := d) (v := V 147) (v2 := m * 2 ^ (e - (S 128 26) : Int).toNat) (c := 4700) hR (iNw (h := 147) (by decide) (by decide) (by decide)) (iNw (h := 151) (by decide) (by decide) (by decide)) (by omega) ((uv_n (by omega)).trans (rfl)) (uv_s) rfl (by omega) (by exact Nat.le_trans (Nat.add_le_add_right (xbl_powle _ _) 30) (by omega))
      refine i_202_47 hobj (Nat.le_of_ble_eq_true rfl) hrun ?_
      refine i_202_50 (x := 128) rfl ?_
      refine i_202_51 ?_
      refine i_202_52 (fs2 := mf (u1 (S 128) 27 0)) hR.c128 rfl (Nat.le_of_ble_eq_true rfl) (mfs_27 (v := 0)) (by decide) ?_
      refine xgen (P := mR w0 (u2 S 128 27 0) (uv (uv V 151 (m * 2 ^ (e - (S 128 26) : Int).toNat)) 147 ((V 147) + (m * 2 ^ (e - (S 128 26) : Int).toNat)))) hR.fld2 (fun w hR => ?_)
      refine i_202_55 ?_
      refine ⟨rfl, ?_⟩
      rw [if_pos (by omega), if_pos (by omega), Nat.add_zero, uv_idv (k := 149) (by rw [uv_n (by decide), uv_n (by decide)])]
      exact hR
    · refine i_202_25 (x := 128) rfl ?_
      refine i_202_26 (v := Value.ref 149) hR.c128 rfl ?_
      refine i_202_29 (x := 128) rfl ?_
      refine i_202_30 (v := Value.ref 151) hR.c128 rfl ?_
      obtain ⟨fs, hobj⟩ := hR.obj (h := 149) (iNw (h := 149) (by decide) (by decide) (by decide))
      obtain ⟨w, hrun, hR⟩ := r_add (d := d) (v := V 149) (v2 := m * 2 ^ (e - (S 128 26) : Int).toNat) (c := 4700) hR (iNw (h := 149) (by decide) (by decide) (by decide)) (iNw (h := 151) (by decide) (by decide) (by decide)) (by omega) ((uv_n (by omega)).trans (rfl)) (uv_s) rfl (by omega) (by exact Nat.le_trans (Nat.add_le_add_right (xbl_powle _ _) 30) (by omega))
      refine i_202_33 hobj (Nat.le_of_ble_eq_true rfl) hrun ?_
      refine i_202_36 ?_
      refine i_202_50 (x := 128) rfl ?_
      refine i_202_51 ?_
      refine i_202_52 (fs2 := mf (u1 (S 128) 27 0)) hR.c128 rfl (Nat.le_of_ble_eq_true rfl) (mfs_27 (v := 0)) (by decide) ?_
      refine xgen (P := mR w0 (u2 S 128 27 0) (uv (uv V 151 (m * 2 ^ (e - (S 128 26) : Int).toNat)) 149 ((V 149) + (m * 2 ^ (e - (S 128 26) : Int).toNat)))) hR.fld2 (fun w hR => ?_)
      refine i_202_55 ?_
      refine ⟨rfl, ?_⟩
      rw [if_neg (by omega), if_neg (by omega), Nat.add_zero, uv_idv (k := 147) (by rw [uv_n (by decide)])]
      exact hR
  obtain ⟨o, w', h1, rfl, h2⟩ := key.run
  exact ⟨w', h1, h2⟩
theorem s_addZero {d : Nat} {w0 w : xW} {S : Nat → Nat → Int} {V : Nat → Nat} {sg : Int} (hR : mR w0 S V w) (hs : sg = 0 ∨ sg = 1) : ∃ w', xRun (d + 1) 214 [Value.ref 128, Value.int (Int32.ofInt sg)] w (.inl none) w' ∧ mR w0 (u2 (u2 S 128 28 (if sg = 0 then 1 else S 128 28)) 128 29 (if sg = 0 then S 128 29 else 1)) V w' := by
  have key : xEv (d + 1) 214 0 (lv_args 0 [Value.ref 128, Value.int (Int32.ofInt sg)]) [] w (fun o w' => o = .inl none ∧ mR w0 (u2 (u2 S 128 28 (if sg = 0 then 1 else S 128 28)) 128 29 (if sg = 0 then S 128 29 else 1)) V w') := by
    refine i_214_0 (x := Int32.ofInt sg) rfl ?_
    refine i_214_1 (z_eq (a := sg) ⟨by omega, by omega⟩ fun c0 => ?_) (z_ne (a := sg) ⟨by omega, by omega⟩ fun c0 => ?_)
    · refine i_214_12 (x := 128) rfl ?_
      refine i_214_13 ?_
      refine i_214_14 (fs2 := mf (u1 (S 128) 28 1)) hR.c128 rfl (Nat.le_of_ble_eq_true rfl) (mfs_28 (v := 1)) (by decide) ?_
      refine xgen (P := mR w0 (u2 S 128 28 1) V) hR.fld2 (fun w hR => ?_)
      refine i_214_17 ?_
      refine ⟨rfl, ?_⟩
      rw [if_pos (by omega), if_pos (by omega), u2_idv (r := 29) (by simp [u2_e])]
      exact hR
    · refine i_214_4 (x := 128) rfl ?_
      refine i_214_5 ?_
      refine i_214_6 (fs2 := mf (u1 (S 128) 29 1)) hR.c128 rfl (Nat.le_of_ble_eq_true rfl) (mfs_29 (v := 1)) (by decide) ?_
      refine xgen (P := mR w0 (u2 S 128 29 1) V) hR.fld2 (fun w hR => ?_)
      refine i_214_9 ?_
      refine i_214_17 ?_
      refine ⟨rfl, ?_⟩
      rw [if_neg (by omega), if_neg (by omega), u2_id]
      exact hR
  obtain ⟨o, w', h1, rfl, h2⟩ := key.run
  exact ⟨w', h1, h2⟩
theorem ncmp_b (a b : Nat) : -2147483648 ≤ ncmp a b ∧ ncmp a b < 2147483648 := by unfold ncmp; split <;> (try split) <;> exact ⟨by decide, by decide⟩
theorem ncmp_i (a b : Nat) : (a < b ∧ ncmp a b = -1) ∨ (a = b ∧ ncmp a b = 0) ∨ (b < a ∧ ncmp a b = 1) := by
  unfold ncmp
  split
  · exact Or.inl ⟨by assumption, rfl⟩
  · split
    · exact Or.inr (Or.inl ⟨by assumption, rfl⟩)
    · exact Or.inr (Or.inr ⟨by omega, rfl⟩)
set_option maxHeartbeats 8000000 in
theorem s_close {d : Nat} {w0 w : xW} {S : Nat → Nat → Int} {V : Nat → Nat} {r mode : Int} (hR : mR w0 S V w) (hI : mI S V) (hr : 0 ≤ r ∧ r < 16) (hmo : 0 ≤ mode ∧ mode ≤ 4) (hz : (S 128 27 = 0 ∨ S 128 27 = 1) ∧ (S 128 28 = 0 ∨ S 128 28 = 1) ∧ (S 128 29 = 0 ∨ S 128 29 = 1)) (hbp : xbl (V 147) ≤ 140000) (hbm : xbl (V 149) ≤ 140000) (hbe : V 147 ≠ V 149 → -200000 ≤ S 128 26 ∧ S 128 26 ≤ 200000) : ∃ w', xRun (d + 5) 215 [Value.ref 128, Value.int (Int32.ofInt r), Value.int (Int32.ofInt mode)] w (.inl (some (.int (Int32.ofInt (sumS (S 153 r.toNat) (S 128 17) (S 128 18) (S 128 20) (S 128 19) mode (V 147) (V 149) (S 128 26) (S 128 27) (S 128 28) (S 128 29)).2.2.2.2.1)))) w' ∧ ∃ S' V', mR w0 S' V' w' ∧ oP S S' V V' r.toNat (sumS (S 153 r.toNat) (S 128 17) (S 128 18) (S 128 20) (S 128 19) mode (V 147) (V 149) (S 128 26) (S 128 27) (S 128 28) (S 128 29)) := by
  obtain ⟨hp_r, -⟩ := hI.1 r.toNat (by omega)
  have hi_l := hI.2.1
  have hi_g := hI.2.2.1
  have hi_f := hI.2.2.2
  have hcm := ncmp_i (V 147) (V 149)
  have key : xEv (d + 5) 215 0 (lv_args 0 [Value.ref 128, Value.int (Int32.ofInt r), Value.int (Int32.ofInt mode)]) [] w (fun o w' => o = .inl (some (.int (Int32.ofInt (sumS (S 153 r.toNat) (S 128 17) (S 128 18) (S 128 20) (S 128 19) mode (V 147) (V 149) (S 128 26) (S 128 27) (S 128 28) (S 128 29)).2.2.2.2.1))) ∧ ∃ S' V', mR w0 S' V' w' ∧ oP S S' V V' r.toNat (sumS (S 153 r.toNat) (S 128 17) (S 128 18) (S 128 20) (S 128 19) mode (V 147) (V 149) (S 128 26) (S 128 27) (S 128 28) (S 128 29))) := by
    refine i_215_0 (x := 128) rfl ?_
    refine i_215_1 (v := Value.ref 147) hR.c128 rfl ?_
    refine i_215_4 (x := 128) rfl ?_
    refine i_215_5 (v := Value.ref 149) hR.c128 rfl ?_
    obtain ⟨fs, hobj⟩ := hR.obj (h := 147) (iNw (h := 147) (by decide) (by decide) (by decide))
    have hrun := r_cmp (d := d + 2) (v := V 147) (v2 := V 149) hR (iNw (h := 147) (by decide) (by decide) (by decide)) (iNw (h := 149) (by decide) (by decide) (by decide)) (rfl) (rfl)
    refine i_215_8 hobj (Nat.le_of_ble_eq_true rfl) hrun ?_
    refine i_215_11 (lv2 := [(3, Value.int (Int32.ofInt (ncmp (V 147) (V 149)))), (0, Value.ref 128), (1, Value.int (Int32.ofInt r)), (2, Value.int (Int32.ofInt mode))]) rfl ?_
    refine i_215_12 (x := Int32.ofInt (ncmp (V 147) (V 149))) rfl ?_
    refine i_215_13 (z_ne (a := ncmp (V 147) (V 149)) (ncmp_b _ _) fun c0 => ?_) (z_eq (a := ncmp (V 147) (V 149)) (ncmp_b _ _) fun c0 => ?_)
    · refine i_215_70 (x := Int32.ofInt (ncmp (V 147) (V 149))) rfl ?_
      refine i_215_71 (z_le (a := ncmp (V 147) (V 149)) (ncmp_b _ _) fun c1 => ?_) (z_gt (a := ncmp (V 147) (V 149)) (ncmp_b _ _) fun c1 => ?_)
      · refine i_215_99 (x := 128) rfl ?_
        refine i_215_100 (v := Value.ref 149) hR.c128 rfl ?_
        refine i_215_103 (x := 128) rfl ?_
        refine i_215_104 (v := Value.ref 147) hR.c128 rfl ?_
        obtain ⟨fs, hobj⟩ := hR.obj (h := 149) (iNw (h := 149) (by decide) (by decide) (by decide))
        obtain ⟨w, hrun, hR⟩ := r_less (d := d + 2) (v := V 149) (v2 := V 147) hR (iNw (h := 149) (by decide) (by decide) (by decide)) (iNw (h := 147) (by decide) (by decide) (by decide)) (by omega) (rfl) (rfl) (by have := ncmp_i (V 147) (V 149); omega)
        refine i_215_107 hobj (Nat.le_of_ble_eq_true rfl) hrun ?_
        refine i_215_110 (x := 128) rfl ?_
        refine i_215_111 (v := Value.ref 129) hR.c128 rfl ?_
        refine i_215_114 (x := 128) rfl ?_
        refine i_215_115 (v := Value.ref 149) hR.c128 rfl ?_
        obtain ⟨fs, hobj⟩ := hR.obj (h := 129) (iNw (h := 129) (by decide) (by decide) (by decide))
        obtain ⟨w, hrun, hR⟩ := r_setn (d := d + 2) (v := (V 149) - (V 147)) (c := 4700) hR (iNw (h := 129) (by decide) (by decide) (by decide)) (iNw (h := 149) (by decide) (by decide) (by decide)) (uv_s) rfl (Nat.le_trans (xbl_mono (Nat.sub_le _ _)) (by omega))
        refine i_215_118 hobj (Nat.le_of_ble_eq_true rfl) hrun ?_
        refine i_215_121 (x := 128) rfl ?_
        refine i_215_122 (x := Int32.ofInt r) rfl ?_
        refine i_215_123 (x := 128) rfl ?_
        refine i_215_124 (v := Value.ref 129) hR.c128 rfl ?_
        refine i_215_127 (x := 128) rfl ?_
        refine i_215_128 (v := Value.int (Int32.ofInt (S 128 26))) hR.c128 rfl ?_
        refine i_215_131 ?_
        refine i_215_132 (x := Int32.ofInt (ncmp (V 147) (V 149))) rfl ?_
        refine i_215_133 (z_ge (a := ncmp (V 147) (V 149)) (ncmp_b _ _) fun c2 => ?_) (z_lt (a := ncmp (V 147) (V 149)) (ncmp_b _ _) fun c2 => ?_)
        · refine i_215_140 ?_
          refine i_215_141 (x := Int32.ofInt mode) rfl ?_
          have hobj := hR.c128
          have hx : (uv (uv V 149 ((V 149) - (V 147))) 129 ((V 149) - (V 147))) 129 = (V 149) - (V 147) := uv_s
          obtain ⟨w, S4, V4, hrun, hR, hP⟩ := s_round (d := d) (h := 129) (r := r) (e := S 128 26) (more := 0) (sg := 0) (mode := mode) hR (iNw (h := 129) (by decide) (by decide) (by decide)) (by omega) (by omega) (by omega) (by omega) (by omega) (by omega) (by omega) (hp_r.1) (hp_r.2) (⟨hi_l.1, Int.le_trans hi_l.2.1 hi_l.2.2⟩) (⟨Int.le_trans hi_l.1 hi_l.2.1, hi_l.2.2⟩) (hi_g) (Or.inl hi_f) (by rw [hx]; exact Nat.le_trans (xbl_mono (Nat.sub_le _ _)) (by omega))
          rw [hx] at hrun hP
          rw [hi_f] at hrun hP
          refine i_215_142 hobj (Nat.le_of_ble_eq_true rfl) hrun ?_
          refine i_215_145 ?_
          have eo : sumS (S 153 r.toNat) (S 128 17) (S 128 18) (S 128 20) (S 128 19) mode (V 147) (V 149) (S 128 26) (S 128 27) (S 128 28) (S 128 29) = oR (S 153 r.toNat) (S 128 17) (S 128 18) (S 128 20) 0 mode 0 ((V 149) - (V 147)) (S 128 26) (S 128 19) := by clear hR hrun; grind [sumS, ncmp]
          rw [eo]
          exact ⟨rfl, _, _, hR, oP_round hP (by omega) nS.refl (nV.up (nV.up nV.refl (by omega)) (by omega))⟩
        · refine i_215_136 ?_
          refine i_215_137 ?_
          refine i_215_141 (x := Int32.ofInt mode) rfl ?_
          have hobj := hR.c128
          have hx : (uv (uv V 149 ((V 149) - (V 147))) 129 ((V 149) - (V 147))) 129 = (V 149) - (V 147) := uv_s
          obtain ⟨w, S5, V5, hrun, hR, hP⟩ := s_round (d := d) (h := 129) (r := r) (e := S 128 26) (more := 0) (sg := 1) (mode := mode) hR (iNw (h := 129) (by decide) (by decide) (by decide)) (by omega) (by omega) (by omega) (by omega) (by omega) (by omega) (by omega) (hp_r.1) (hp_r.2) (⟨hi_l.1, Int.le_trans hi_l.2.1 hi_l.2.2⟩) (⟨Int.le_trans hi_l.1 hi_l.2.1, hi_l.2.2⟩) (hi_g) (Or.inl hi_f) (by rw [hx]; exact Nat.le_trans (xbl_mono (Nat.sub_le _ _)) (by omega))
          rw [hx] at hrun hP
          rw [hi_f] at hrun hP
          refine i_215_142 hobj (Nat.le_of_ble_eq_true rfl) hrun ?_
          refine i_215_145 ?_
          have eo : sumS (S 153 r.toNat) (S 128 17) (S 128 18) (S 128 20) (S 128 19) mode (V 147) (V 149) (S 128 26) (S 128 27) (S 128 28) (S 128 29) = oR (S 153 r.toNat) (S 128 17) (S 128 18) (S 128 20) 1 mode 0 ((V 149) - (V 147)) (S 128 26) (S 128 19) := by clear hR hrun; grind [sumS, ncmp]
          rw [eo]
          exact ⟨rfl, _, _, hR, oP_round hP (by omega) nS.refl (nV.up (nV.up nV.refl (by omega)) (by omega))⟩
      · refine i_215_74 (x := 128) rfl ?_
        refine i_215_75 (v := Value.ref 147) hR.c128 rfl ?_
        refine i_215_78 (x := 128) rfl ?_
        refine i_215_79 (v := Value.ref 149) hR.c128 rfl ?_
        obtain ⟨fs, hobj⟩ := hR.obj (h := 147) (iNw (h := 147) (by decide) (by decide) (by decide))
        obtain ⟨w, hrun, hR⟩ := r_less (d := d + 2) (v := V 147) (v2 := V 149) hR (iNw (h := 147) (by decide) (by decide) (by decide)) (iNw (h := 149) (by decide) (by decide) (by decide)) (by omega) (rfl) (rfl) (by have := ncmp_i (V 147) (V 149); omega)
        refine i_215_82 hobj (Nat.le_of_ble_eq_true rfl) hrun ?_
        refine i_215_85 (x := 128) rfl ?_
        refine i_215_86 (v := Value.ref 129) hR.c128 rfl ?_
        refine i_215_89 (x := 128) rfl ?_
        refine i_215_90 (v := Value.ref 147) hR.c128 rfl ?_
        obtain ⟨fs, hobj⟩ := hR.obj (h := 129) (iNw (h := 129) (by decide) (by decide) (by decide))
        obtain ⟨w, hrun, hR⟩ := r_setn (d := d + 2) (v := (V 147) - (V 149)) (c := 4700) hR (iNw (h := 129) (by decide) (by decide) (by decide)) (iNw (h := 147) (by decide) (by decide) (by decide)) (uv_s) rfl (Nat.le_trans (xbl_mono (Nat.sub_le _ _)) (by omega))
        refine i_215_93 hobj (Nat.le_of_ble_eq_true rfl) hrun ?_
        refine i_215_96 ?_
        refine i_215_121 (x := 128) rfl ?_
        refine i_215_122 (x := Int32.ofInt r) rfl ?_
        refine i_215_123 (x := 128) rfl ?_
        refine i_215_124 (v := Value.ref 129) hR.c128 rfl ?_
        refine i_215_127 (x := 128) rfl ?_
        refine i_215_128 (v := Value.int (Int32.ofInt (S 128 26))) hR.c128 rfl ?_
        refine i_215_131 ?_
        refine i_215_132 (x := Int32.ofInt (ncmp (V 147) (V 149))) rfl ?_
        refine i_215_133 (z_ge (a := ncmp (V 147) (V 149)) (ncmp_b _ _) fun c5 => ?_) (z_lt (a := ncmp (V 147) (V 149)) (ncmp_b _ _) fun c5 => absurd c5 (by omega))
        refine i_215_140 ?_
        refine i_215_141 (x := Int32.ofInt mode) rfl ?_
        have hobj := hR.c128
        have hx : (uv (uv V 147 ((V 147) - (V 149))) 129 ((V 147) - (V 149))) 129 = (V 147) - (V 149) := uv_s
        obtain ⟨w, S7, V7, hrun, hR, hP⟩ := s_round (d := d) (h := 129) (r := r) (e := S 128 26) (more := 0) (sg := 0) (mode := mode) hR (iNw (h := 129) (by decide) (by decide) (by decide)) (by omega) (by omega) (by omega) (by omega) (by omega) (by omega) (by omega) (hp_r.1) (hp_r.2) (⟨hi_l.1, Int.le_trans hi_l.2.1 hi_l.2.2⟩) (⟨Int.le_trans hi_l.1 hi_l.2.1, hi_l.2.2⟩) (hi_g) (Or.inl hi_f) (by rw [hx]; exact Nat.le_trans (xbl_mono (Nat.sub_le _ _)) (by omega))
        rw [hx] at hrun hP
        rw [hi_f] at hrun hP
        refine i_215_142 hobj (Nat.le_of_ble_eq_true rfl) hrun ?_
        refine i_215_145 ?_
        have eo : sumS (S 153 r.toNat) (S 128 17) (S 128 18) (S 128 20) (S 128 19) mode (V 147) (V 149) (S 128 26) (S 128 27) (S 128 28) (S 128 29) = oR (S 153 r.toNat) (S 128 17) (S 128 18) (S 128 20) 0 mode 0 ((V 147) - (V 149)) (S 128 26) (S 128 19) := by clear hR hrun; grind [sumS, ncmp]
        rw [eo]
        exact ⟨rfl, _, _, hR, oP_round hP (by omega) nS.refl (nV.up (nV.up nV.refl (by omega)) (by omega))⟩
    · refine i_215_16 (x := 128) rfl ?_
      refine i_215_17 (v := Value.int (Int32.ofInt (S 128 27))) hR.c128 rfl ?_
      refine i_215_20 (z_eq (a := S 128 27) ⟨by omega, by omega⟩ fun c7 => ?_) (z_ne (a := S 128 27) ⟨by omega, by omega⟩ fun c7 => ?_)
      · refine i_215_38 ?_
        refine i_215_39 (lv2 := [(4, Value.int 0), (3, Value.int (Int32.ofInt (ncmp (V 147) (V 149)))), (0, Value.ref 128), (1, Value.int (Int32.ofInt r)), (2, Value.int (Int32.ofInt mode))]) rfl ?_
        refine i_215_41 (x := 128) rfl ?_
        refine i_215_42 (x := Int32.ofInt r) rfl ?_
        refine i_215_43 ?_
        refine i_215_44 (x := 0) rfl ?_
        refine i_215_46 (fun _ => ?_) (fun c => absurd c (by decide))
        refine i_215_56 (x := Int32.ofInt mode) rfl ?_
        refine i_215_57 ?_
        refine i_215_58 (b_ne (a := mode) (b := 3) ⟨by omega, by omega⟩ ⟨by decide, by decide⟩ fun c8 => ?_) (b_eq (a := mode) (b := 3) ⟨by omega, by omega⟩ ⟨by decide, by decide⟩ fun c8 => ?_)
        · refine i_215_65 ?_
          have hobj := hR.c128
          obtain ⟨w, hrun, hR⟩ := s_special (d := d + 3) (r := r) (k := 2) (s := 0) hR (by omega) (by omega) (by omega)
          refine i_215_66 hobj (Nat.le_of_ble_eq_true rfl) hrun ?_
          refine i_215_69 ?_
          have eo : sumS (S 153 r.toNat) (S 128 17) (S 128 18) (S 128 20) (S 128 19) mode (V 147) (V 149) (S 128 26) (S 128 27) (S 128 28) (S 128 29) = oS 2 0 (S 128 19) := by clear hR hrun; grind [sumS, ncmp]
          rw [eo]
          exact ⟨rfl, _, _, hR, oP_special (by omega) (by decide) nS.refl nV.refl rfl⟩
        · refine i_215_61 ?_
          refine i_215_62 ?_
          have hobj := hR.c128
          obtain ⟨w, hrun, hR⟩ := s_special (d := d + 3) (r := r) (k := 2) (s := 1) hR (by omega) (by omega) (by omega)
          refine i_215_66 hobj (Nat.le_of_ble_eq_true rfl) hrun ?_
          refine i_215_69 ?_
          have eo : sumS (S 153 r.toNat) (S 128 17) (S 128 18) (S 128 20) (S 128 19) mode (V 147) (V 149) (S 128 26) (S 128 27) (S 128 28) (S 128 29) = oS 2 1 (S 128 19) := by clear hR hrun; grind [sumS, ncmp]
          rw [eo]
          exact ⟨rfl, _, _, hR, oP_special (by omega) (by decide) nS.refl nV.refl rfl⟩
      · refine i_215_23 (x := 128) rfl ?_
        refine i_215_24 (v := Value.int (Int32.ofInt (S 128 28))) hR.c128 rfl ?_
        refine i_215_27 (x := 128) rfl ?_
        refine i_215_28 (v := Value.int (Int32.ofInt (S 128 29))) hR.c128 rfl ?_
        refine i_215_31 (b_eq (a := S 128 28) (b := S 128 29) ⟨by omega, by omega⟩ ⟨by omega, by omega⟩ fun c9 => ?_) (b_ne (a := S 128 28) (b := S 128 29) ⟨by omega, by omega⟩ ⟨by omega, by omega⟩ fun c9 => ?_)
        · refine i_215_38 ?_
          refine i_215_39 (lv2 := [(4, Value.int 0), (3, Value.int (Int32.ofInt (ncmp (V 147) (V 149)))), (0, Value.ref 128), (1, Value.int (Int32.ofInt r)), (2, Value.int (Int32.ofInt mode))]) rfl ?_
          refine i_215_41 (x := 128) rfl ?_
          refine i_215_42 (x := Int32.ofInt r) rfl ?_
          refine i_215_43 ?_
          refine i_215_44 (x := 0) rfl ?_
          refine i_215_46 (fun _ => ?_) (fun c => absurd c (by decide))
          refine i_215_56 (x := Int32.ofInt mode) rfl ?_
          refine i_215_57 ?_
          refine i_215_58 (b_ne (a := mode) (b := 3) ⟨by omega, by omega⟩ ⟨by decide, by decide⟩ fun c10 => ?_) (b_eq (a := mode) (b := 3) ⟨by omega, by omega⟩ ⟨by decide, by decide⟩ fun c10 => ?_)
          · refine i_215_65 ?_
            have hobj := hR.c128
            obtain ⟨w, hrun, hR⟩ := s_special (d := d + 3) (r := r) (k := 2) (s := 0) hR (by omega) (by omega) (by omega)
            refine i_215_66 hobj (Nat.le_of_ble_eq_true rfl) hrun ?_
            refine i_215_69 ?_
            have eo : sumS (S 153 r.toNat) (S 128 17) (S 128 18) (S 128 20) (S 128 19) mode (V 147) (V 149) (S 128 26) (S 128 27) (S 128 28) (S 128 29) = oS 2 0 (S 128 19) := by clear hR hrun; grind [sumS, ncmp]
            rw [eo]
            exact ⟨rfl, _, _, hR, oP_special (by omega) (by decide) nS.refl nV.refl rfl⟩
          · refine i_215_61 ?_
            refine i_215_62 ?_
            have hobj := hR.c128
            obtain ⟨w, hrun, hR⟩ := s_special (d := d + 3) (r := r) (k := 2) (s := 1) hR (by omega) (by omega) (by omega)
            refine i_215_66 hobj (Nat.le_of_ble_eq_true rfl) hrun ?_
            refine i_215_69 ?_
            have eo : sumS (S 153 r.toNat) (S 128 17) (S 128 18) (S 128 20) (S 128 19) mode (V 147) (V 149) (S 128 26) (S 128 27) (S 128 28) (S 128 29) = oS 2 1 (S 128 19) := by clear hR hrun; grind [sumS, ncmp]
            rw [eo]
            exact ⟨rfl, _, _, hR, oP_special (by omega) (by decide) nS.refl nV.refl rfl⟩
        · refine i_215_34 ?_
          refine i_215_35 ?_
          refine i_215_39 (lv2 := [(4, Value.int 1), (3, Value.int (Int32.ofInt (ncmp (V 147) (V 149)))), (0, Value.ref 128), (1, Value.int (Int32.ofInt r)), (2, Value.int (Int32.ofInt mode))]) rfl ?_
          refine i_215_41 (x := 128) rfl ?_
          refine i_215_42 (x := Int32.ofInt r) rfl ?_
          refine i_215_43 ?_
          refine i_215_44 (x := 1) rfl ?_
          refine i_215_46 (fun c => absurd c (by decide)) (fun _ => ?_)
          refine i_215_49 (x := 128) rfl ?_
          refine i_215_50 (v := Value.int (Int32.ofInt (S 128 29))) hR.c128 rfl ?_
          refine i_215_53 ?_
          have hobj := hR.c128
          obtain ⟨w, hrun, hR⟩ := s_special (d := d + 3) (r := r) (k := 2) (s := S 128 29) hR (by omega) (by omega) (by omega)
          refine i_215_66 hobj (Nat.le_of_ble_eq_true rfl) hrun ?_
          refine i_215_69 ?_
          have eo : sumS (S 153 r.toNat) (S 128 17) (S 128 18) (S 128 20) (S 128 19) mode (V 147) (V 149) (S 128 26) (S 128 27) (S 128 28) (S 128 29) = oS 2 (S 128 29) (S 128 19) := by clear hR hrun; grind [sumS, ncmp]
          rw [eo]
          exact ⟨rfl, _, _, hR, oP_special (by omega) (by decide) nS.refl nV.refl rfl⟩
  obtain ⟨o, w', h1, rfl, h2⟩ := key.run
  exact ⟨w', h1, h2⟩
