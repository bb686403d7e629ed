/-! Register of the class: becoming special, a power of two, the greatest -/
section
variable {w0 w : xW} {L Z : Nat} {S : Nat → Nat → Int} {V : Nat → Nat} {d h t r : Nat}
theorem x_spec {which sg : Int} (hR : cX w0 L Z S V w) (ht : kd t = 2) (hs : sg = 0 ∨ sg = 1) : ∃ w', xRun (d + 0) 17 [Value.ref t, Value.int (Int32.ofInt which), Value.int (Int32.ofInt sg)] w (.inl (some (.int 0))) w' ∧ cX w0 L Z (u2 (u2 S t 1 which) t 2 sg) V w' := by
  have key : ∀ lv, xld lv 0 = some (Value.ref t) → xld lv 1 = some (Value.int (Int32.ofInt which)) → xld lv 2 = some (Value.int (Int32.ofInt sg)) → xEv (d + 0) 17 0 lv [] w (fun o w' => o = .inl (some (.int 0)) ∧ cX w0 L Z (u2 (u2 S t 1 which) t 2 sg) V w') := by
    intro lv l0 l1 l2
    refine i_17_0 (x := t) l0 ?_
    refine i_17_1 (x := Int32.ofInt which) l1 ?_
    refine i_17_2 (fs2 := f2 t (u1 (S t) 1 which)) (hR.k2 ht) (Nat.le_of_ble_eq_true rfl) rfl (h7k ht (by decide)) ?_
    refine xgen (P := cX w0 L Z (u2 S t 1 which) V) (hR.p2 ht) (fun w hR => ?_)
    refine i_17_5 (x := t) l0 ?_
    refine i_17_6 (x := Int32.ofInt sg) l2 ?_
    refine i_17_7 (fs2 := f2 t (u1 ((u2 S t 1 which) t) 2 sg)) (hR.k2 ht) (o_bool (by omega)) (Nat.le_of_ble_eq_true rfl) rfl (h7k ht (by decide)) ?_
    refine xgen (P := cX w0 L Z (u2 (u2 S t 1 which) t 2 sg) V) (hR.p2 ht) (fun w hR => ?_)
    refine i_17_10 ?_
    refine i_17_11 ?_
    exact ⟨rfl, hR⟩
  obtain ⟨o, w', h1, rfl, h2⟩ := (key (lv_args 0 [Value.ref t, Value.int (Int32.ofInt which), Value.int (Int32.ofInt sg)]) rfl rfl rfl).run
  exact ⟨w', h1, h2⟩
theorem x_zero {sg : Int} (hR : cX w0 L Z S V w) (ht : kd t = 2) (hs : sg = 0 ∨ sg = 1) : ∃ w', xRun (d + 1) 23 [Value.ref t, Value.int (Int32.ofInt sg)] w (.inl (some (.int 0))) w' ∧ cX w0 L Z (u2 (u2 S t 1 2) t 2 sg) V w' := by
  have key : ∀ lv, xld lv 0 = some (Value.ref t) → xld lv 1 = some (Value.int (Int32.ofInt sg)) → xEv (d + 1) 23 0 lv [] w (fun o w' => o = .inl (some (.int 0)) ∧ cX w0 L Z (u2 (u2 S t 1 2) t 2 sg) V w') := by
    intro lv l0 l1
    refine i_23_0 (x := t) l0 ?_
    refine i_23_1 ?_
    refine i_23_2 (x := Int32.ofInt sg) l1 ?_
    have hobj := hR.k2 ht
    obtain ⟨w, hrun, hR⟩ := x_spec (d := d) (t := t) (which := 2) (sg := sg) hR ht (by first | omega | exact bb_01 _)
    refine i_23_3 hobj (Nat.le_of_ble_eq_true rfl) hrun ?_
    refine i_23_6 ?_
    exact ⟨rfl, hR⟩
  obtain ⟨o, w', h1, rfl, h2⟩ := (key (lv_args 0 [Value.ref t, Value.int (Int32.ofInt sg)]) rfl rfl).run
  exact ⟨w', h1, h2⟩
theorem x_inf {sg : Int} (hR : cX w0 L Z S V w) (ht : kd t = 2) (hs : sg = 0 ∨ sg = 1) : ∃ w', xRun (d + 1) 47 [Value.ref t, Value.int (Int32.ofInt sg)] w (.inl (some (.int 0))) w' ∧ cX w0 L Z (u2 (u2 S t 1 1) t 2 sg) V w' := by
  have key : ∀ lv, xld lv 0 = some (Value.ref t) → xld lv 1 = some (Value.int (Int32.ofInt sg)) → xEv (d + 1) 47 0 lv [] w (fun o w' => o = .inl (some (.int 0)) ∧ cX w0 L Z (u2 (u2 S t 1 1) t 2 sg) V w') := by
    intro lv l0 l1
    refine i_47_0 (x := t) l0 ?_
    refine i_47_1 ?_
    refine i_47_2 (x := Int32.ofInt sg) l1 ?_
    have hobj := hR.k2 ht
    obtain ⟨w, hrun, hR⟩ := x_spec (d := d) (t := t) (which := 1) (sg := sg) hR ht (by first | omega | exact bb_01 _)
    refine i_47_3 hobj (Nat.le_of_ble_eq_true rfl) hrun ?_
    refine i_47_6 ?_
    exact ⟨rfl, hR⟩
  obtain ⟨o, w', h1, rfl, h2⟩ := (key (lv_args 0 [Value.ref t, Value.int (Int32.ofInt sg)]) rfl rfl).run
  exact ⟨w', h1, h2⟩
theorem x_nan (hR : cX w0 L Z S V w) (ht : kd t = 2) : ∃ w', xRun (d + 1) 16 [Value.ref t] w (.inl (some (.int 0))) w' ∧ cX w0 L Z (u2 (u2 S t 1 0) t 2 0) V w' := by
  have key : ∀ lv, xld lv 0 = some (Value.ref t) → xEv (d + 1) 16 0 lv [] w (fun o w' => o = .inl (some (.int 0)) ∧ cX w0 L Z (u2 (u2 S t 1 0) t 2 0) V w') := by
    intro lv l0
    refine i_16_0 (x := t) l0 ?_
    refine i_16_1 ?_
    refine i_16_2 ?_
    have hobj := hR.k2 ht
    obtain ⟨w, hrun, hR⟩ := x_spec (d := d) (t := t) (which := 0) (sg := 0) hR ht (by first | omega | exact bb_01 _)
    refine i_16_3 hobj (Nat.le_of_ble_eq_true rfl) hrun ?_
    refine i_16_6 ?_
    exact ⟨rfl, hR⟩
  obtain ⟨o, w', h1, rfl, h2⟩ := (key (lv_args 0 [Value.ref t]) rfl).run
  exact ⟨w', h1, h2⟩
theorem x_pow2 {sg pw : Int} (hR : cX w0 L Z S V w) (ht : kd t = 2) (hs : sg = 0 ∨ sg = 1) (hp : 1 ≤ S t 0 ∧ S t 0 ≤ 4096) : ∃ w', xRun (d + 4) 39 [Value.ref t, Value.int (Int32.ofInt sg), Value.int (Int32.ofInt pw)] w (.inl none) w' ∧ cX w0 L Z (u2 (u2 (u2 S t 1 3) t 2 sg) t 3 pw) (uv V (t + 1) (2 ^ (S t 0 - 1).toNat)) w' := by
  have key : ∀ lv, xld lv 0 = some (Value.ref t) → xld lv 1 = some (Value.int (Int32.ofInt sg)) → xld lv 2 = some (Value.int (Int32.ofInt pw)) → xEv (d + 4) 39 0 lv [] w (fun o w' => o = .inl none ∧ cX w0 L Z (u2 (u2 (u2 S t 1 3) t 2 sg) t 3 pw) (uv V (t + 1) (2 ^ (S t 0 - 1).toNat)) w') := by
    intro lv l0 l1 l2
    refine i_39_0 (x := t) l0 ?_
    refine i_39_1 ?_
    refine i_39_2 (fs2 := f2 t (u1 (S t) 1 3)) (hR.k2 ht) (Nat.le_of_ble_eq_true rfl) rfl (h7k ht (by decide)) ?_
    refine xgen (P := cX w0 L Z (u2 S t 1 3) V) (hR.p2 ht) (fun w hR => ?_)
    refine i_39_5 (x := t) l0 ?_
    refine i_39_6 (x := Int32.ofInt sg) l1 ?_
    refine i_39_7 (fs2 := f2 t (u1 ((u2 S t 1 3) t) 2 sg)) (hR.k2 ht) (o_bool (by omega)) (Nat.le_of_ble_eq_true rfl) rfl (h7k ht (by decide)) ?_
    refine xgen (P := cX w0 L Z (u2 (u2 S t 1 3) t 2 sg) V) (hR.p2 ht) (fun w hR => ?_)
    refine i_39_10 (x := t) l0 ?_
    refine i_39_11 (x := Int32.ofInt pw) l2 ?_
    refine i_39_12 (fs2 := f2 t (u1 ((u2 (u2 S t 1 3) t 2 sg) t) 3 pw)) (hR.k2 ht) (Nat.le_of_ble_eq_true rfl) rfl (h7k ht (by decide)) ?_
    refine xgen (P := cX w0 L Z (u2 (u2 (u2 S t 1 3) t 2 sg) t 3 pw) V) (hR.p2 ht) (fun w hR => ?_)
    refine i_39_15 (x := t) l0 ?_
    refine i_39_16 (v := Value.ref (t + 1)) (hR.k2 ht) rfl ?_
    refine i_39_19 (x := t) l0 ?_
    refine i_39_20 (v := Value.int (Int32.ofInt ((u2 (u2 (u2 S t 1 3) t 2 sg) t 3 pw) t 0))) (hR.k2 ht) rfl ?_
    rw [show Int32.ofInt ((u2 (u2 (u2 S t 1 3) t 2 sg) t 3 pw) t 0) = Int32.ofInt (S t 0) by rw [u2_eq, if_neg (by omega), u2_eq, if_neg (by omega), u2_eq, if_neg (by omega)]]
    refine i_39_23 ?_
    refine i_39_24 (c := Int32.ofInt ((S t 0) - 1)) (o_sub (S t 0) 1) ?_
    obtain ⟨fs, hobj⟩ := hR.nat (kd_rg ht)
    obtain ⟨w, hrun, hR⟩ := X_pow (d := d) (h := t + 1) (p := ((S t 0) - 1 : Int).toNat) hR (kd_rg ht) (by omega)
    rw [show ((((S t 0) - 1 : Int).toNat : Nat) : Int) = (S t 0) - 1 by omega] at hrun
    refine i_39_25 hobj (Nat.le_of_ble_eq_true rfl) hrun ?_
    refine i_39_28 ?_
    exact ⟨rfl, hR⟩
  obtain ⟨o, w', h1, rfl, h2⟩ := (key (lv_args 0 [Value.ref t, Value.int (Int32.ofInt sg), Value.int (Int32.ofInt pw)]) rfl rfl rfl).run
  exact ⟨w', h1, h2⟩
theorem x_great {sg pw : Int} (hR : cX w0 L Z S V w) (ht : kd t = 2) (hs : sg = 0 ∨ sg = 1) (hp : 1 ≤ S t 0 ∧ S t 0 ≤ 4096) : ∃ w', xRun (d + 4) 48 [Value.ref t, Value.int (Int32.ofInt sg), Value.int (Int32.ofInt pw)] w (.inl none) w' ∧ cX w0 L Z (u2 (u2 (u2 S t 1 3) t 2 sg) t 3 pw) (uv V (t + 1) (2 ^ (S t 0).toNat - 1)) w' := by
  have key : ∀ lv, xld lv 0 = some (Value.ref t) → xld lv 1 = some (Value.int (Int32.ofInt sg)) → xld lv 2 = some (Value.int (Int32.ofInt pw)) → xEv (d + 4) 48 0 lv [] w (fun o w' => o = .inl none ∧ cX w0 L Z (u2 (u2 (u2 S t 1 3) t 2 sg) t 3 pw) (uv V (t + 1) (2 ^ (S t 0).toNat - 1)) w') := by
    intro lv l0 l1 l2
    refine i_48_0 (x := t) l0 ?_
    refine i_48_1 ?_
    refine i_48_2 (fs2 := f2 t (u1 (S t) 1 3)) (hR.k2 ht) (Nat.le_of_ble_eq_true rfl) rfl (h7k ht (by decide)) ?_
    refine xgen (P := cX w0 L Z (u2 S t 1 3) V) (hR.p2 ht) (fun w hR => ?_)
    refine i_48_5 (x := t) l0 ?_
    refine i_48_6 (x := Int32.ofInt sg) l1 ?_
    refine i_48_7 (fs2 := f2 t (u1 ((u2 S t 1 3) t) 2 sg)) (hR.k2 ht) (o_bool (by omega)) (Nat.le_of_ble_eq_true rfl) rfl (h7k ht (by decide)) ?_
    refine xgen (P := cX w0 L Z (u2 (u2 S t 1 3) t 2 sg) V) (hR.p2 ht) (fun w hR => ?_)
    refine i_48_10 (x := t) l0 ?_
    refine i_48_11 (x := Int32.ofInt pw) l2 ?_
    refine i_48_12 (fs2 := f2 t (u1 ((u2 (u2 S t 1 3) t 2 sg) t) 3 pw)) (hR.k2 ht) (Nat.le_of_ble_eq_true rfl) rfl (h7k ht (by decide)) ?_
    refine xgen (P := cX w0 L Z (u2 (u2 (u2 S t 1 3) t 2 sg) t 3 pw) V) (hR.p2 ht) (fun w hR => ?_)
    refine i_48_15 (x := t) l0 ?_
    refine i_48_16 (v := Value.ref (t + 1)) (hR.k2 ht) rfl ?_
    refine i_48_19 (x := t) l0 ?_
    refine i_48_20 (v := Value.int (Int32.ofInt ((u2 (u2 (u2 S t 1 3) t 2 sg) t 3 pw) t 0))) (hR.k2 ht) rfl ?_
    rw [show Int32.ofInt ((u2 (u2 (u2 S t 1 3) t 2 sg) t 3 pw) t 0) = Int32.ofInt (S t 0) by rw [u2_eq, if_neg (by omega), u2_eq, if_neg (by omega), u2_eq, if_neg (by omega)]]
    obtain ⟨fs, hobj⟩ := hR.nat (kd_rg ht)
    obtain ⟨w, hrun, hR⟩ := X_ones (d := d) (h := t + 1) (q := (S t 0 : Int).toNat) hR (kd_rg ht) (by omega) (by omega)
    rw [show (((S t 0 : Int).toNat : Nat) : Int) = S t 0 by omega] at hrun
    refine i_48_23 hobj (Nat.le_of_ble_eq_true rfl) hrun ?_
    refine i_48_26 ?_
    exact ⟨rfl, hR⟩
  obtain ⟨o, w', h1, rfl, h2⟩ := (key (lv_args 0 [Value.ref t, Value.int (Int32.ofInt sg), Value.int (Int32.ofInt pw)]) rfl rfl rfl).run
  exact ⟨w', h1, h2⟩
end
