/-! the reference: special, invalid, exponent, goesUp, put -/
theorem u2_e {S : Nat → Nat → Int} {a r b j : Nat} {v : Int} : u2 S a r v b j = if b = a ∧ j = r then v else S b j := by
  unfold u2 u1
  by_cases h : b = a
  · subst h
    rw [Nat.beq_refl]
    by_cases h2 : j = r
    · subst h2; rw [if_pos ⟨rfl, rfl⟩, cond_true, Nat.beq_refl]; rfl
    · rw [if_neg (fun h => h2 h.2), cond_true, beq_ne h2]; rfl
  · rw [if_neg (fun h2 => h h2.1), beq_ne h]; rfl
theorem uv_e {V : Nat → Nat} {k j v : Nat} : uv V k v j = if j = k then v else V j := by
  split
  · rename_i h; subst h; exact uv_s
  · rename_i h; exact uv_n h
theorem uvv {V : Nat → Nat} {k a b : Nat} : uv (uv V k a) k b = uv V k b := by
  funext j
  rw [uv_e, uv_e, uv_e]
  split <;> rfl
theorem mR.fld2 {w0 w : xW} {S : Nat → Nat → Int} {V : Nat → Nat} {k : Nat} {v : Int} (hR : mR w0 S V w) : mR w0 (u2 S 128 k v) V (w.set 128 (.inr (12, mf (u1 (S 128) k v)))) := by
  have h := hR.fld (k := k) (v := v)
  rwa [u2_s] at h
section
variable {s : Nat → Int} {v : Int}
theorem mfs_17 : (mf s).set 17 (.int (Int32.ofInt v)) = mf (u1 s 17 v) := rfl
theorem mfs_18 : (mf s).set 18 (.int (Int32.ofInt v)) = mf (u1 s 18 v) := rfl
theorem mfs_19 : (mf s).set 19 (.int (Int32.ofInt v)) = mf (u1 s 19 v) := rfl
theorem mfs_20 : (mf s).set 20 (.int (Int32.ofInt v)) = mf (u1 s 20 v) := rfl
theorem mfs_21 : (mf s).set 21 (.int (Int32.ofInt v)) = mf (u1 s 21 v) := rfl
theorem mfs_24 : (mf s).set 24 (.int (Int32.ofInt v)) = mf (u1 s 24 v) := rfl
theorem mfs_25 : (mf s).set 25 (.int (Int32.ofInt v)) = mf (u1 s 25 v) := rfl
theorem mfs_26 : (mf s).set 26 (.int (Int32.ofInt v)) = mf (u1 s 26 v) := rfl
theorem mfs_27 : (mf s).set 27 (.int (Int32.ofInt v)) = mf (u1 s 27 v) := rfl
theorem mfs_28 : (mf s).set 28 (.int (Int32.ofInt v)) = mf (u1 s 28 v) := rfl
theorem mfs_29 : (mf s).set 29 (.int (Int32.ofInt v)) = mf (u1 s 29 v) := rfl
theorem mfs_30 : (mf s).set 30 (.int (Int32.ofInt v)) = mf (u1 s 30 v) := rfl
theorem mfs_31 : (mf s).set 31 (.int (Int32.ofInt v)) = mf (u1 s 31 v) := rfl
end
def zor (a k : Int) : Int := (Int32.ofInt a ||| Int32.ofInt k).toInt
theorem o_or (a k : Int) : Int32.ofInt a ||| Int32.ofInt k = Int32.ofInt (zor a k) := by unfold zor; rw [Int32.ofInt_toInt]
theorem nrb {b : Int} (h : b = 0 ∨ b = 1) : narrow .boolean (.int (Int32.ofInt b)) = .int (Int32.ofInt b) := by
  rcases h with rfl | rfl <;> rfl
section
variable {b : Bool} {P : Prop}
theorem zb_t (k : b = true → P) : (Int32.ofInt (bb b)).toInt ≠ 0 → P := by
  cases b with
  | false => intro h; exact absurd rfl h
  | true => intro _; exact k rfl
theorem zb_f (k : b = false → P) : (Int32.ofInt (bb b)).toInt = 0 → P := by
  cases b with
  | false => intro _; exact k rfl
  | true => intro h; exact absurd h (by decide)
theorem ob_b : xok .boolean (.int (Int32.ofInt (bb b))) = true := by cases b <;> rfl
end
theorem eN (v : Int) : Int32.ofInt v = Int32.ofInt v := rfl
def gU (m : Nat) (cut more sg mode odd : Int) : Bool :=
  if more = 0 ∧ nany m cut = false then false
  else if mode = 0 then nbit m (cut - 1) && (!decide (more = 0) || nany m (cut - 1) || !decide (odd = 0))
  else decide (mode = 4) || (decide (mode = 2) && decide (sg = 0)) || (decide (mode = 3) && !decide (sg = 0))
def nrm (q : Nat) (p : Int) : Nat := if p < xbl q then q / 2 ^ (xbl q - p).toNat else q * 2 ^ (p - xbl q).toNat
theorem s_special {d : Nat} {w0 w : xW} {S : Nat → Nat → Int} {V : Nat → Nat} {r k s : Int} (hR : mR w0 S V w) (h0 : 0 ≤ r) (h1 : r < 17) (hs : s = 0 ∨ s = 1) : ∃ w', xRun (d + 1) 171 [Value.ref 128, Value.int (Int32.ofInt r), Value.int (Int32.ofInt k), Value.int (Int32.ofInt s)] w (.inl (some (.int 0))) w' ∧ mR w0 (u2 (u2 S 154 r.toNat k) 156 r.toNat s) V w' := by
  have key : xEv (d + 1) 171 0 (lv_args 0 [Value.ref 128, Value.int (Int32.ofInt r), Value.int (Int32.ofInt k), Value.int (Int32.ofInt s)]) [] w (fun o w' => o = .inl (some (.int 0)) ∧ mR w0 (u2 (u2 S 154 r.toNat k) 156 r.toNat s) V w') := by
    refine i_171_0 (x := 128) rfl ?_
    refine i_171_1 (v := Value.ref 154) hR.c128 rfl ?_
    refine i_171_4 (x := Int32.ofInt r) rfl ?_
    refine i_171_5 (x := Int32.ofInt k) rfl ?_
    refine i_171_6 (v := Value.int (Int32.ofInt k)) (hR.row a154) (ix0 (T := r) (by omega) (by omega)) (ix1 (T := r) (by omega) (by omega) (by omega)) (by decide) rfl ?_
    rw [ixn (T := r) (by omega) (by omega)]
    refine xgen (P := mR w0 (u2 S 154 ((r).toNat) k) V) (hR.arr a154 rfl) (fun w hR => ?_)
    refine i_171_7 (x := 128) rfl ?_
    refine i_171_8 (v := Value.ref 156) hR.c128 rfl ?_
    refine i_171_11 (x := Int32.ofInt r) rfl ?_
    refine i_171_12 (x := Int32.ofInt s) rfl ?_
    refine i_171_13z (v := Value.int (Int32.ofInt s)) (hR.row a156) (ix0 (T := r) (by omega) (by omega)) (ix1 (T := r) (by omega) (by omega) (by omega)) (by decide) (nrb (b := s) (by omega)) ?_
    rw [ixn (T := r) (by omega) (by omega)]
    refine xgen (P := mR w0 (u2 (u2 S 154 ((r).toNat) k) 156 ((r).toNat) s) V) (hR.arr a156 rfl) (fun w hR => ?_)
    refine i_171_14 ?_
    refine i_171_15 ?_
    exact ⟨rfl, hR⟩
  obtain ⟨o, w', h1, rfl, h2⟩ := key.run
  exact ⟨w', h1, h2⟩
theorem s_invalid {d : Nat} {w0 w : xW} {S : Nat → Nat → Int} {V : Nat → Nat} {r : Int} (hR : mR w0 S V w) (h0 : 0 ≤ r) (h1 : r < 17) : ∃ w', xRun (d + 2) 213 [Value.ref 128, Value.int (Int32.ofInt r)] w (.inl (some (.int 0))) w' ∧ mR w0 (u2 (u2 (u2 S 128 19 (zor (S 128 19) 8)) 154 r.toNat 0) 156 r.toNat 0) V w' := by
  have key : xEv (d + 2) 213 0 (lv_args 0 [Value.ref 128, Value.int (Int32.ofInt r)]) [] w (fun o w' => o = .inl (some (.int 0)) ∧ mR w0 (u2 (u2 (u2 S 128 19 (zor (S 128 19) 8)) 154 r.toNat 0) 156 r.toNat 0) V w') := by
    refine i_213_0 (x := 128) rfl ?_
    refine i_213_1 rfl ?_
    refine i_213_2 (v := Value.int (Int32.ofInt (S 128 19))) hR.c128 rfl ?_
    refine i_213_5 ?_
    refine i_213_7 (c := Int32.ofInt (zor (S 128 19) 8)) (o_or (S 128 19) 8) ?_
    refine i_213_8 (fs2 := mf (u1 (S 128) 19 (zor (S 128 19) 8))) hR.c128 (Nat.le_of_ble_eq_true rfl) (mfs_19 (v := zor (S 128 19) 8)) (by decide) ?_
    refine xgen (P := mR w0 (u2 S 128 19 (zor (S 128 19) 8)) V) hR.fld2 (fun w hR => ?_)
    refine i_213_11 (x := 128) rfl ?_
    refine i_213_12 (x := Int32.ofInt r) rfl ?_
    refine i_213_13 ?_
    refine i_213_14 ?_
    have hobj := hR.c128
    obtain ⟨w, hrun, hR⟩ := s_special (d := d) (r := r) (k := 0) (s := 0) hR (by omega) (by omega) (by omega)
    refine i_213_15 hobj (Nat.le_of_ble_eq_true rfl) hrun ?_
    refine i_213_18 ?_
    exact ⟨rfl, hR⟩
  obtain ⟨o, w', h1, rfl, h2⟩ := key.run
  exact ⟨w', h1, h2⟩
theorem s_exponent {d : Nat} {w0 w : xW} {S : Nat → Nat → Int} {V : Nat → Nat} {r : Int} (hR : mR w0 S V w) (h0 : 0 ≤ r) (h1 : r < 17) : ∃ w', xRun (d + 1) 196 [Value.ref 128, Value.int (Int32.ofInt r)] w (.inl (some (.int (Int32.ofInt (S 155 r.toNat - S 153 r.toNat))))) w' ∧ mR w0 S V w' := by
  have key : xEv (d + 1) 196 0 (lv_args 0 [Value.ref 128, Value.int (Int32.ofInt r)]) [] w (fun o w' => o = .inl (some (.int (Int32.ofInt (S 155 r.toNat - S 153 r.toNat)))) ∧ mR w0 S V w') := by
    refine i_196_0 (x := 128) rfl ?_
    refine i_196_1 (v := Value.ref 155) hR.c128 rfl ?_
    refine i_196_4 (x := Int32.ofInt r) rfl ?_
    refine i_196_5 (v := Value.int (Int32.ofInt (S 155 ((r).toNat)))) (hR.row a155) (ix0 (T := r) (by omega) (by omega)) (ix1 (T := r) (by omega) (by omega) (by omega)) (ra (T := r) (by omega) (by omega) rfl) ?_
    refine i_196_6 (x := 128) rfl ?_
    refine i_196_7 (v := Value.ref 153) hR.c128 rfl ?_
    refine i_196_10 (x := Int32.ofInt r) rfl ?_
    refine i_196_11 (v := Value.int (Int32.ofInt (S 153 ((r).toNat)))) (hR.row a153) (ix0 (T := r) (by omega) (by omega)) (ix1 (T := r) (by omega) (by omega) (by omega)) (ra (T := r) (by omega) (by omega) rfl) ?_
    refine i_196_12 (c := Int32.ofInt ((S 155 ((r).toNat)) - (S 153 ((r).toNat)))) (o_sub (S 155 ((r).toNat)) (S 153 ((r).toNat))) ?_
    refine i_196_13 ?_
    exact ⟨rfl, hR⟩
  obtain ⟨o, w', h1, rfl, h2⟩ := key.run
  exact ⟨w', h1, h2⟩
theorem s_goesUp {d : Nat} {w0 w : xW} {S : Nat → Nat → Int} {V : Nat → Nat} {h : Nat} {cut more sg mode odd : Int} (hR : mR w0 S V w) (hh : isN h) (hm : more = 0 ∨ more = 1) (hs : sg = 0 ∨ sg = 1) (ho : odd = 0 ∨ odd = 1) (hc0 : -9000000 ≤ cut) (hc1 : cut ≤ 9000000) (hmo : 0 ≤ mode ∧ mode ≤ 5) : ∃ w', xRun (d + 3) 185 [Value.ref h, Value.int (Int32.ofInt cut), Value.int (Int32.ofInt more), Value.int (Int32.ofInt sg), Value.int (Int32.ofInt mode), Value.int (Int32.ofInt odd)] w (.inl (some (.int (Int32.ofInt (bb (gU (V h) cut more sg mode odd)))))) w' ∧ mR w0 S V w' := by
  have key : xEv (d + 3) 185 0 (lv_args 0 [Value.ref h, Value.int (Int32.ofInt cut), Value.int (Int32.ofInt more), Value.int (Int32.ofInt sg), Value.int (Int32.ofInt mode), Value.int (Int32.ofInt odd)]) [] w (fun o w' => o = .inl (some (.int (Int32.ofInt (bb (gU (V h) cut more sg mode odd))))) ∧ mR w0 S V w') := by
    refine i_185_0 (x := Int32.ofInt more) rfl ?_
    refine i_185_1 (z_ne (a := more) ⟨by omega, by omega⟩ fun c0 => ?_) (z_eq (a := more) ⟨by omega, by omega⟩ fun c0 => ?_)
    · refine i_185_12 ?_
      refine i_185_13 ?_
      refine i_185_17 (lv2 := [(6, Value.int 1), (0, Value.ref h), (1, Value.int (Int32.ofInt cut)), (2, Value.int (Int32.ofInt more)), (3, Value.int (Int32.ofInt sg)), (4, Value.int (Int32.ofInt mode)), (5, Value.int (Int32.ofInt odd))]) rfl ?_
      refine i_185_19 (x := 1) rfl ?_
      refine i_185_21 (fun _ => ?_) (fun c => absurd c (by decide))
      refine i_185_26 (x := Int32.ofInt mode) rfl ?_
      refine i_185_28 (z_ne (a := mode) ⟨by omega, by omega⟩ fun c1 => ?_) (z_eq (a := mode) ⟨by omega, by omega⟩ fun c1 => ?_)
      · refine i_185_66 (x := Int32.ofInt mode) rfl ?_
        refine i_185_68 ?_
        refine i_185_69 (b_eq (a := mode) (b := 4) ⟨by omega, by omega⟩ ⟨by decide, by decide⟩ fun c2 => ?_) (b_ne (a := mode) (b := 4) ⟨by omega, by omega⟩ ⟨by decide, by decide⟩ fun c2 => ?_)
        · refine i_185_92 ?_
          refine i_185_93 ?_
          refine i_185_97 rfl ?_
          refine ⟨?_, hR⟩
          have e : gU (V h) cut more sg mode odd = true := by simp [gU, *]
          rw [e]; rfl
        · refine i_185_72 (x := Int32.ofInt mode) rfl ?_
          refine i_185_74 ?_
          refine i_185_75 (b_ne (a := mode) (b := 2) ⟨by omega, by omega⟩ ⟨by decide, by decide⟩ fun c3 => ?_) (b_eq (a := mode) (b := 2) ⟨by omega, by omega⟩ ⟨by decide, by decide⟩ fun c3 => ?_)
          · refine i_185_82 (x := Int32.ofInt mode) rfl ?_
            refine i_185_84 ?_
            refine i_185_85 (b_ne (a := mode) (b := 3) ⟨by omega, by omega⟩ ⟨by decide, by decide⟩ fun c4 => ?_) (b_eq (a := mode) (b := 3) ⟨by omega, by omega⟩ ⟨by decide, by decide⟩ fun c4 => ?_)
            · refine i_185_96 ?_
              refine i_185_97 rfl ?_
              refine ⟨?_, hR⟩
              have e : gU (V h) cut more sg mode odd = false := by simp [gU, *]
              rw [e]; rfl
            · refine i_185_88 (x := Int32.ofInt sg) rfl ?_
              refine i_185_89 (z_eq (a := sg) ⟨by omega, by omega⟩ fun c5 => ?_) (z_ne (a := sg) ⟨by omega, by omega⟩ fun c5 => ?_)
              · refine i_185_96 ?_
                refine i_185_97 rfl ?_
                refine ⟨?_, hR⟩
                have e : gU (V h) cut more sg mode odd = false := by simp [gU, *]
                rw [e]; rfl
              · refine i_185_92 ?_
                refine i_185_93 ?_
                refine i_185_97 rfl ?_
                refine ⟨?_, hR⟩
                have e : gU (V h) cut more sg mode odd = true := by simp [gU, *]
                rw [e]; rfl
          · refine i_185_78 (x := Int32.ofInt sg) rfl ?_
            refine i_185_79 (z_eq (a := sg) ⟨by omega, by omega⟩ fun c6 => ?_) (z_ne (a := sg) ⟨by omega, by omega⟩ fun c6 => ?_)
            · refine i_185_92 ?_
              refine i_185_93 ?_
              refine i_185_97 rfl ?_
              refine ⟨?_, hR⟩
              have e : gU (V h) cut more sg mode odd = true := by simp [gU, *]
              rw [e]; rfl
            · refine i_185_82 (x := Int32.ofInt mode) rfl ?_
              refine i_185_84 ?_
              refine i_185_85 (b_ne (a := mode) (b := 3) ⟨by omega, by omega⟩ ⟨by decide, by decide⟩ fun c7 => ?_) (b_eq (a := mode) (b := 3) ⟨by omega, by omega⟩ ⟨by decide, by decide⟩ fun c7 => absurd c7 (by omega))
              refine i_185_96 ?_
              refine i_185_97 rfl ?_
              refine ⟨?_, hR⟩
              have e : gU (V h) cut more sg mode odd = false := by simp [gU, *]
              rw [e]; rfl
      · refine i_185_31 (x := h) rfl ?_
        refine i_185_32 (x := Int32.ofInt cut) rfl ?_
        refine i_185_33 ?_
        refine i_185_34 (c := Int32.ofInt (cut - 1)) (o_sub cut 1) ?_
        obtain ⟨fs, hobj⟩ := hR.obj (h := h) hh
        have hrun := r_bit (d := d) (v := V h) (k := cut - 1) hR hh (rfl) (by omega) (by omega)
        refine i_185_35 hobj (Nat.le_of_ble_eq_true rfl) hrun ?_
        refine i_185_38 (zb_f fun c8 => ?_) (zb_t fun c8 => ?_)
        · refine i_185_64 ?_
          refine i_185_65 rfl ?_
          refine ⟨?_, hR⟩
          have e : gU (V h) cut more sg mode odd = false := by simp [gU, *]
          rw [e]; rfl
        · refine i_185_41 (x := Int32.ofInt more) rfl ?_
          refine i_185_42 (z_ne (a := more) ⟨by omega, by omega⟩ fun c9 => ?_) (z_eq (a := more) ⟨by omega, by omega⟩ fun c9 => absurd c9 (by omega))
          refine i_185_60 ?_
          refine i_185_61 ?_
          refine i_185_65 rfl ?_
          refine ⟨?_, hR⟩
          have e : gU (V h) cut more sg mode odd = true := by simp [gU, *]
          rw [e]; rfl
    · refine i_185_4 (x := h) rfl ?_
      refine i_185_5 (x := Int32.ofInt cut) rfl ?_
      obtain ⟨fs, hobj⟩ := hR.obj (h := h) hh
      have hrun := r_any (d := d) (v := V h) (k := cut) hR hh (rfl) (by omega) (by omega)
      refine i_185_6 hobj (Nat.le_of_ble_eq_true rfl) hrun ?_
      refine i_185_9 (zb_f fun c10 => ?_) (zb_t fun c10 => ?_)
      · refine i_185_16 ?_
        refine i_185_17 (lv2 := [(6, Value.int 0), (0, Value.ref h), (1, Value.int (Int32.ofInt cut)), (2, Value.int (Int32.ofInt more)), (3, Value.int (Int32.ofInt sg)), (4, Value.int (Int32.ofInt mode)), (5, Value.int (Int32.ofInt odd))]) rfl ?_
        refine i_185_19 (x := 0) rfl ?_
        refine i_185_21 (fun c => absurd c (by decide)) (fun _ => ?_)
        refine i_185_24 ?_
        refine i_185_25 rfl ?_
        refine ⟨?_, hR⟩
        have e : gU (V h) cut more sg mode odd = false := by simp [gU, *]
        rw [e]; rfl
      · refine i_185_12 ?_
        refine i_185_13 ?_
        refine i_185_17 (lv2 := [(6, Value.int 1), (0, Value.ref h), (1, Value.int (Int32.ofInt cut)), (2, Value.int (Int32.ofInt more)), (3, Value.int (Int32.ofInt sg)), (4, Value.int (Int32.ofInt mode)), (5, Value.int (Int32.ofInt odd))]) rfl ?_
        refine i_185_19 (x := 1) rfl ?_
        refine i_185_21 (fun _ => ?_) (fun c => absurd c (by decide))
        refine i_185_26 (x := Int32.ofInt mode) rfl ?_
        refine i_185_28 (z_ne (a := mode) ⟨by omega, by omega⟩ fun c11 => ?_) (z_eq (a := mode) ⟨by omega, by omega⟩ fun c11 => ?_)
        · refine i_185_66 (x := Int32.ofInt mode) rfl ?_
          refine i_185_68 ?_
          refine i_185_69 (b_eq (a := mode) (b := 4) ⟨by omega, by omega⟩ ⟨by decide, by decide⟩ fun c12 => ?_) (b_ne (a := mode) (b := 4) ⟨by omega, by omega⟩ ⟨by decide, by decide⟩ fun c12 => ?_)
          · refine i_185_92 ?_
            refine i_185_93 ?_
            refine i_185_97 rfl ?_
            refine ⟨?_, hR⟩
            have e : gU (V h) cut more sg mode odd = true := by simp [gU, *]
            rw [e]; rfl
          · refine i_185_72 (x := Int32.ofInt mode) rfl ?_
            refine i_185_74 ?_
            refine i_185_75 (b_ne (a := mode) (b := 2) ⟨by omega, by omega⟩ ⟨by decide, by decide⟩ fun c13 => ?_) (b_eq (a := mode) (b := 2) ⟨by omega, by omega⟩ ⟨by decide, by decide⟩ fun c13 => ?_)
            · refine i_185_82 (x := Int32.ofInt mode) rfl ?_
              refine i_185_84 ?_
              refine i_185_85 (b_ne (a := mode) (b := 3) ⟨by omega, by omega⟩ ⟨by decide, by decide⟩ fun c14 => ?_) (b_eq (a := mode) (b := 3) ⟨by omega, by omega⟩ ⟨by decide, by decide⟩ fun c14 => ?_)
              · refine i_185_96 ?_
                refine i_185_97 rfl ?_
                refine ⟨?_, hR⟩
                have e : gU (V h) cut more sg mode odd = false := by simp [gU, *]
                rw [e]; rfl
              · refine i_185_88 (x := Int32.ofInt sg) rfl ?_
                refine i_185_89 (z_eq (a := sg) ⟨by omega, by omega⟩ fun c15 => ?_) (z_ne (a := sg) ⟨by omega, by omega⟩ fun c15 => ?_)
                · refine i_185_96 ?_
                  refine i_185_97 rfl ?_
                  refine ⟨?_, hR⟩
                  have e : gU (V h) cut more sg mode odd = false := by simp [gU, *]
                  rw [e]; rfl
                · refine i_185_92 ?_
                  refine i_185_93 ?_
                  refine i_185_97 rfl ?_
                  refine ⟨?_, hR⟩
                  have e : gU (V h) cut more sg mode odd = true := by simp [gU, *]
                  rw [e]; rfl
            · refine i_185_78 (x := Int32.ofInt sg) rfl ?_
              refine i_185_79 (z_eq (a := sg) ⟨by omega, by omega⟩ fun c16 => ?_) (z_ne (a := sg) ⟨by omega, by omega⟩ fun c16 => ?_)
              · refine i_185_92 ?_
                refine i_185_93 ?_
                refine i_185_97 rfl ?_
                refine ⟨?_, hR⟩
                have e : gU (V h) cut more sg mode odd = true := by simp [gU, *]
                rw [e]; rfl
              · refine i_185_82 (x := Int32.ofInt mode) rfl ?_
                refine i_185_84 ?_
                refine i_185_85 (b_ne (a := mode) (b := 3) ⟨by omega, by omega⟩ ⟨by decide, by decide⟩ fun c17 => ?_) (b_eq (a := mode) (b := 3) ⟨by omega, by omega⟩ ⟨by decide, by decide⟩ fun c17 => absurd c17 (by omega))
                refine i_185_96 ?_
                refine i_185_97 rfl ?_
                refine ⟨?_, hR⟩
                have e : gU (V h) cut more sg mode odd = false := by simp [gU, *]
                rw [e]; rfl
        · refine i_185_31 (x := h) rfl ?_
          refine i_185_32 (x := Int32.ofInt cut) rfl ?_
          refine i_185_33 ?_
          refine i_185_34 (c := Int32.ofInt (cut - 1)) (o_sub cut 1) ?_
          obtain ⟨fs, hobj⟩ := hR.obj (h := h) hh
          have hrun := r_bit (d := d) (v := V h) (k := cut - 1) hR hh (rfl) (by omega) (by omega)
          refine i_185_35 hobj (Nat.le_of_ble_eq_true rfl) hrun ?_
          refine i_185_38 (zb_f fun c18 => ?_) (zb_t fun c18 => ?_)
          · refine i_185_64 ?_
            refine i_185_65 rfl ?_
            refine ⟨?_, hR⟩
            have e : gU (V h) cut more sg mode odd = false := by simp [gU, *]
            rw [e]; rfl
          · refine i_185_41 (x := Int32.ofInt more) rfl ?_
            refine i_185_42 (z_ne (a := more) ⟨by omega, by omega⟩ fun c19 => absurd c19 (by omega)) (z_eq (a := more) ⟨by omega, by omega⟩ fun c19 => ?_)
            refine i_185_45 (x := h) rfl ?_
            refine i_185_46 (x := Int32.ofInt cut) rfl ?_
            refine i_185_47 ?_
            refine i_185_48 (c := Int32.ofInt (cut - 1)) (o_sub cut 1) ?_
            obtain ⟨fs, hobj⟩ := hR.obj (h := h) hh
            have hrun := r_any (d := d) (v := V h) (k := cut - 1) hR hh (rfl) (by omega) (by omega)
            refine i_185_49 hobj (Nat.le_of_ble_eq_true rfl) hrun ?_
            refine i_185_52 (zb_t fun c20 => ?_) (zb_f fun c20 => ?_)
            · refine i_185_60 ?_
              refine i_185_61 ?_
              refine i_185_65 rfl ?_
              refine ⟨?_, hR⟩
              have e : gU (V h) cut more sg mode odd = true := by simp [gU, *]
              rw [e]; rfl
            · refine i_185_55 (x := Int32.ofInt odd) rfl ?_
              refine i_185_57 (z_eq (a := odd) ⟨by omega, by omega⟩ fun c21 => ?_) (z_ne (a := odd) ⟨by omega, by omega⟩ fun c21 => ?_)
              · refine i_185_64 ?_
                refine i_185_65 rfl ?_
                refine ⟨?_, hR⟩
                have e : gU (V h) cut more sg mode odd = false := by simp [gU, *]
                rw [e]; rfl
              · refine i_185_60 ?_
                refine i_185_61 ?_
                refine i_185_65 rfl ?_
                refine ⟨?_, hR⟩
                have e : gU (V h) cut more sg mode odd = true := by simp [gU, *]
                rw [e]; rfl
  obtain ⟨o, w', h1, rfl, h2⟩ := key.run
  exact ⟨w', h1, h2⟩
theorem s_put {d : Nat} {w0 w : xW} {S : Nat → Nat → Int} {V : Nat → Nat} {h : Nat} {r e : Int} (hR : mR w0 S V w) (hh : isN h) (h137 : h ≠ 137) (hp : h ≠ 160 + 2 * r.toNat) (h0 : 0 ≤ r) (h1 : r < 17) (p0 : 2 ≤ S 153 r.toNat) (p1 : S 153 r.toNat ≤ 4096) (hv0 : V h ≠ 0) (hv : xbl (V h) ≤ 140900) : ∃ w', xRun (d + 3) 192 [Value.ref 128, Value.int (Int32.ofInt r), Value.ref h, Value.int (Int32.ofInt e)] w (.inl none) w' ∧ ∃ S' V', mR w0 S' V' w' ∧ S' 154 r.toNat = 3 ∧ S' 155 r.toNat = xbl (V h) + e ∧ V' (160 + 2 * r.toNat) = nrm (V h) (S 153 r.toNat) ∧ (∀ a j, ¬ (a = 154 ∧ j = r.toNat) → ¬ (a = 155 ∧ j = r.toNat) → S' a j = S a j) ∧ ∀ k, k ≠ 137 → k ≠ 160 + 2 * r.toNat → V' k = V k := by
  have key : xEv (d + 3) 192 0 (lv_args 0 [Value.ref 128, Value.int (Int32.ofInt r), Value.ref h, Value.int (Int32.ofInt e)]) [] w (fun o w' => o = .inl none ∧ ∃ S' V', mR w0 S' V' w' ∧ S' 154 r.toNat = 3 ∧ S' 155 r.toNat = xbl (V h) + e ∧ V' (160 + 2 * r.toNat) = nrm (V h) (S 153 r.toNat) ∧ (∀ a j, ¬ (a = 154 ∧ j = r.toNat) → ¬ (a = 155 ∧ j = r.toNat) → S' a j = S a j) ∧ ∀ k, k ≠ 137 → k ≠ 160 + 2 * r.toNat → V' k = V k) := by
    refine i_192_0 (x := 128) rfl ?_
    refine i_192_1 (v := Value.ref 153) hR.c128 rfl ?_
    refine i_192_4 (x := Int32.ofInt r) rfl ?_
    refine i_192_5 (v := Value.int (Int32.ofInt (S 153 ((r).toNat)))) (hR.row a153) (ix0 (T := r) (by omega) (by omega)) (ix1 (T := r) (by omega) (by omega) (by omega)) (ra (T := r) (by omega) (by omega) rfl) ?_
    refine i_192_6 (lv2 := [(4, Value.int (Int32.ofInt (S 153 ((r).toNat)))), (0, Value.ref 128), (1, Value.int (Int32.ofInt r)), (2, Value.ref h), (3, Value.int (Int32.ofInt e))]) rfl ?_
    refine i_192_8 (x := h) rfl ?_
    obtain ⟨fs, hobj⟩ := hR.obj (h := h) hh
    have hrun := r_bits (d := d) (v := V h) hR hh (rfl)
    refine i_192_9 hobj (Nat.le_of_ble_eq_true rfl) hrun ?_
    refine i_192_12 (lv2 := [(5, Value.int (Int32.ofInt (xbl (V h) : Int))), (4, Value.int (Int32.ofInt (S 153 ((r).toNat)))), (0, Value.ref 128), (1, Value.int (Int32.ofInt r)), (2, Value.ref h), (3, Value.int (Int32.ofInt e))]) rfl ?_
    refine i_192_14 (x := 128) rfl ?_
    refine i_192_15 (v := Value.ref 157) hR.c128 rfl ?_
    refine i_192_18 (x := Int32.ofInt r) rfl ?_
    obtain ⟨gp, hgp, hgr⟩ := hR.part (j := (r).toNat) (by omega)
    refine i_192_19 (v := Value.ref (160 + 2 * r.toNat)) hgp (ix0 (by omega) (by omega)) (ix1 (by omega) (by omega) (by omega)) (by rw [ixn (by omega) (by omega)]; exact hgr) ?_
    refine i_192_20 ?_
    obtain ⟨fs, hobj⟩ := hR.obj (h := 160 + 2 * r.toNat) (iNp (r := r) (by omega) (by omega))
    obtain ⟨w, hrun, hR⟩ := r_setl (d := d) (x := (0 : Int64)) (v := 0) hR (iNp (r := r) (by omega) (by omega)) rfl
    refine i_192_21 hobj (Nat.le_of_ble_eq_true rfl) hrun ?_
    refine i_192_24 (x := Int32.ofInt (xbl (V h) : Int)) rfl ?_
    refine i_192_26 (x := Int32.ofInt (S 153 ((r).toNat))) rfl ?_
    refine i_192_28 (b_le (a := (xbl (V h) : Int)) (b := S 153 ((r).toNat)) ⟨by omega, by omega⟩ ⟨by omega, by omega⟩ fun c0 => ?_) (b_lt (a := S 153 ((r).toNat)) (b := (xbl (V h) : Int)) ⟨by omega, by omega⟩ ⟨by omega, by omega⟩ fun c0 => ?_)
    · refine i_192_67 (x := 128) rfl ?_
      refine i_192_68 (v := Value.ref 137) hR.c128 rfl ?_
      refine i_192_71 (x := h) rfl ?_
      obtain ⟨fs, hobj⟩ := hR.obj (h := 137) (iNw (h := 137) (by decide) (by decide) (by decide))
      obtain ⟨w, hrun, hR⟩ := r_setn (d := d) (v := V h) (c := 4700) hR (iNw (h := 137) (by decide) (by decide) (by decide)) hh ((uv_n (by omega)).trans (rfl)) rfl (by omega)
      refine i_192_72 hobj (Nat.le_of_ble_eq_true rfl) hrun ?_
      refine i_192_75 (x := 128) rfl ?_
      refine i_192_76 (v := Value.ref 137) hR.c128 rfl ?_
      refine i_192_79 (x := Int32.ofInt (S 153 ((r).toNat))) rfl ?_
      refine i_192_81 (x := Int32.ofInt (xbl (V h) : Int)) rfl ?_
      refine i_192_83 (c := Int32.ofInt ((S 153 ((r).toNat)) - (xbl (V h) : Int))) (o_sub (S 153 ((r).toNat)) (xbl (V h) : Int)) ?_
      obtain ⟨fs, hobj⟩ := hR.obj (h := 137) (iNw (h := 137) (by decide) (by decide) (by decide))
      obtain ⟨w, hrun, hR⟩ := r_up (d := d) (v := V h) (c := 4700) (k := (S 153 ((r).toNat)) - (xbl (V h) : Int)) hR (iNw (h := 137) (by decide) (by decide) (by decide)) (uv_s) rfl (by omega) (by omega)
      rw [uvv] at hR
      refine i_192_84 hobj (Nat.le_of_ble_eq_true rfl) hrun ?_
      refine i_192_87 (x := 128) rfl ?_
      refine i_192_88 (v := Value.ref 157) hR.c128 rfl ?_
      refine i_192_91 (x := Int32.ofInt r) rfl ?_
      obtain ⟨gp, hgp, hgr⟩ := hR.part (j := (r).toNat) (by omega)
      refine i_192_92 (v := Value.ref (160 + 2 * r.toNat)) hgp (ix0 (by omega) (by omega)) (ix1 (by omega) (by omega) (by omega)) (by rw [ixn (by omega) (by omega)]; exact hgr) ?_
      refine i_192_93 (x := 128) rfl ?_
      refine i_192_94 (v := Value.ref 137) hR.c128 rfl ?_
      obtain ⟨fs, hobj⟩ := hR.obj (h := 160 + 2 * r.toNat) (iNp (r := r) (by omega) (by omega))
      obtain ⟨w, hrun, hR⟩ := r_setn (d := d) (v := (V h) * 2 ^ ((S 153 ((r).toNat)) - (xbl (V h) : Int) : Int).toNat) (c := 140) hR (iNp (r := r) (by omega) (by omega)) (iNw (h := 137) (by decide) (by decide) (by decide)) (uv_s) cNp (by rw [xbl_pow _ _ hv0]; omega)
      refine i_192_97 hobj (Nat.le_of_ble_eq_true rfl) hrun ?_
      refine i_192_100 (x := 128) rfl ?_
      refine i_192_101 (v := Value.ref 154) hR.c128 rfl ?_
      refine i_192_104 (x := Int32.ofInt r) rfl ?_
      refine i_192_105 ?_
      refine i_192_106 (v := Value.int (Int32.ofInt 3)) (hR.row a154) (ix0 (T := r) (by omega) (by omega)) (ix1 (T := r) (by omega) (by omega) (by omega)) (by decide) rfl ?_
      rw [ixn (T := r) (by omega) (by omega)]
      refine xgen (P := mR w0 (u2 S 154 ((r).toNat) 3) (uv (uv (uv V (160 + 2 * r.toNat) 0) 137 ((V h) * 2 ^ ((S 153 ((r).toNat)) - (xbl (V h) : Int) : Int).toNat)) (160 + 2 * r.toNat) ((V h) * 2 ^ ((S 153 ((r).toNat)) - (xbl (V h) : Int) : Int).toNat))) (hR.arr a154 rfl) (fun w hR => ?_)
      refine i_192_107 (x := 128) rfl ?_
      refine i_192_108 (v := Value.ref 155) hR.c128 rfl ?_
      refine i_192_111 (x := Int32.ofInt r) rfl ?_
      refine i_192_112 (x := Int32.ofInt (xbl (V h) : Int)) rfl ?_
      refine i_192_114 (x := Int32.ofInt e) rfl ?_
      refine i_192_115 (c := Int32.ofInt ((xbl (V h) : Int) + e)) (o_add (xbl (V h) : Int) e) ?_
      refine i_192_116 (v := Value.int (Int32.ofInt ((xbl (V h) : Int) + e))) (hR.row a155) (ix0 (T := r) (by omega) (by omega)) (ix1 (T := r) (by omega) (by omega) (by omega)) (by decide) rfl ?_
      rw [ixn (T := r) (by omega) (by omega)]
      refine xgen (P := mR w0 (u2 (u2 S 154 ((r).toNat) 3) 155 ((r).toNat) ((xbl (V h) : Int) + e)) (uv (uv (uv V (160 + 2 * r.toNat) 0) 137 ((V h) * 2 ^ ((S 153 ((r).toNat)) - (xbl (V h) : Int) : Int).toNat)) (160 + 2 * r.toNat) ((V h) * 2 ^ ((S 153 ((r).toNat)) - (xbl (V h) : Int) : Int).toNat))) (hR.arr a155 rfl) (fun w hR => ?_)
      refine i_192_117 ?_
      refine ⟨rfl, _, _, hR, ?_, ?_, ?_, ?_, ?_⟩
      · simp [u2_e]
      · simp [u2_e]
      · rw [uv_s]; unfold nrm; rw [if_neg (by omega)]
      · intro a j h1 h2; rw [u2_e, u2_e, if_neg (by omega), if_neg (by omega)]
      · intro k h1 h2; rw [uv_n (by omega), uv_n (by omega), uv_n (by omega)]
    · refine i_192_31 (x := 128) rfl ?_
      refine i_192_32 (v := Value.ref 137) hR.c128 rfl ?_
      refine i_192_35 (x := h) rfl ?_
      obtain ⟨fs, hobj⟩ := hR.obj (h := 137) (iNw (h := 137) (by decide) (by decide) (by decide))
      obtain ⟨w, hrun, hR⟩ := r_setn (d := d) (v := V h) (c := 4700) hR (iNw (h := 137) (by decide) (by decide) (by decide)) hh ((uv_n (by omega)).trans (rfl)) rfl (by omega)
      refine i_192_36 hobj (Nat.le_of_ble_eq_true rfl) hrun ?_
      refine i_192_39 (x := 128) rfl ?_
      refine i_192_40 (v := Value.ref 137) hR.c128 rfl ?_
      refine i_192_43 (x := Int32.ofInt (xbl (V h) : Int)) rfl ?_
      refine i_192_45 (x := Int32.ofInt (S 153 ((r).toNat))) rfl ?_
      refine i_192_47 (c := Int32.ofInt ((xbl (V h) : Int) - (S 153 ((r).toNat)))) (o_sub (xbl (V h) : Int) (S 153 ((r).toNat))) ?_
      obtain ⟨fs, hobj⟩ := hR.obj (h := 137) (iNw (h := 137) (by decide) (by decide) (by decide))
      obtain ⟨w, hrun, hR⟩ := r_down (d := d) (v := V h) (k := (xbl (V h) : Int) - (S 153 ((r).toNat))) hR (iNw (h := 137) (by decide) (by decide) (by decide)) (uv_s) (by omega) (by omega)
      rw [uvv] at hR
      refine i_192_48 hobj (Nat.le_of_ble_eq_true rfl) hrun ?_
      refine i_192_51 (x := 128) rfl ?_
      refine i_192_52 (v := Value.ref 157) hR.c128 rfl ?_
      refine i_192_55 (x := Int32.ofInt r) rfl ?_
      obtain ⟨gp, hgp, hgr⟩ := hR.part (j := (r).toNat) (by omega)
      refine i_192_56 (v := Value.ref (160 + 2 * r.toNat)) hgp (ix0 (by omega) (by omega)) (ix1 (by omega) (by omega) (by omega)) (by rw [ixn (by omega) (by omega)]; exact hgr) ?_
      refine i_192_57 (x := 128) rfl ?_
      refine i_192_58 (v := Value.ref 137) hR.c128 rfl ?_
      obtain ⟨fs, hobj⟩ := hR.obj (h := 160 + 2 * r.toNat) (iNp (r := r) (by omega) (by omega))
      obtain ⟨w, hrun, hR⟩ := r_setn (d := d) (v := (V h) / 2 ^ ((xbl (V h) : Int) - (S 153 ((r).toNat)) : Int).toNat) (c := 140) hR (iNp (r := r) (by omega) (by omega)) (iNw (h := 137) (by decide) (by decide) (by decide)) (uv_s) cNp (by rw [xbl_div]; omega)
      refine i_192_61 hobj (Nat.le_of_ble_eq_true rfl) hrun ?_
      refine i_192_64 ?_
      refine i_192_100 (x := 128) rfl ?_
      refine i_192_101 (v := Value.ref 154) hR.c128 rfl ?_
      refine i_192_104 (x := Int32.ofInt r) rfl ?_
      refine i_192_105 ?_
      refine i_192_106 (v := Value.int (Int32.ofInt 3)) (hR.row a154) (ix0 (T := r) (by omega) (by omega)) (ix1 (T := r) (by omega) (by omega) (by omega)) (by decide) rfl ?_
      rw [ixn (T := r) (by omega) (by omega)]
      refine xgen (P := mR w0 (u2 S 154 ((r).toNat) 3) (uv (uv (uv V (160 + 2 * r.toNat) 0) 137 ((V h) / 2 ^ ((xbl (V h) : Int) - (S 153 ((r).toNat)) : Int).toNat)) (160 + 2 * r.toNat) ((V h) / 2 ^ ((xbl (V h) : Int) - (S 153 ((r).toNat)) : Int).toNat))) (hR.arr a154 rfl) (fun w hR => ?_)
      refine i_192_107 (x := 128) rfl ?_
      refine i_192_108 (v := Value.ref 155) hR.c128 rfl ?_
      refine i_192_111 (x := Int32.ofInt r) rfl ?_
      refine i_192_112 (x := Int32.ofInt (xbl (V h) : Int)) rfl ?_
      refine i_192_114 (x := Int32.ofInt e) rfl ?_
      refine i_192_115 (c := Int32.ofInt ((xbl (V h) : Int) + e)) (o_add (xbl (V h) : Int) e) ?_
      refine i_192_116 (v := Value.int (Int32.ofInt ((xbl (V h) : Int) + e))) (hR.row a155) (ix0 (T := r) (by omega) (by omega)) (ix1 (T := r) (by omega) (by omega) (by omega)) (by decide) rfl ?_
      rw [ixn (T := r) (by omega) (by omega)]
      refine xgen (P := mR w0 (u2 (u2 S 154 ((r).toNat) 3) 155 ((r).toNat) ((xbl (V h) : Int) + e)) (uv (uv (uv V (160 + 2 * r.toNat) 0) 137 ((V h) / 2 ^ ((xbl (V h) : Int) - (S 153 ((r).toNat)) : Int).toNat)) (160 + 2 * r.toNat) ((V h) / 2 ^ ((xbl (V h) : Int) - (S 153 ((r).toNat)) : Int).toNat))) (hR.arr a155 rfl) (fun w hR => ?_)
      refine i_192_117 ?_
      refine ⟨rfl, _, _, hR, ?_, ?_, ?_, ?_, ?_⟩
      · simp [u2_e]
      · simp [u2_e]
      · rw [uv_s]; unfold nrm; rw [if_pos (by omega)]
      · intro a j h1 h2; rw [u2_e, u2_e, if_neg (by omega), if_neg (by omega)]
      · intro k h1 h2; rw [uv_n (by omega), uv_n (by omega), uv_n (by omega)]
  obtain ⟨o, w', h1, rfl, h2⟩ := key.run
  exact ⟨w', h1, h2⟩
