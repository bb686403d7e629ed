/-! Range of the class: unitOf, refuse, overflow, underflow -/
theorem kd_ne {a b i j : Nat} (h1 : kd a = i) (h2 : kd b = j) (h : i ≠ j) : a ≠ b := fun e => by rw [e] at h1; omega
theorem zor_b {a : Int} {k : Nat} (h : a = 0) : a = 0 := h
/-- a number is a power of two: no bit below its highest -/
theorem zp {m z K : Nat} (hm : m ≠ 0) (e : m = 2 ^ z * (2 * K + 1)) : ((z : Int) = (xbl m : Int) - 1) ↔ nany m ((xbl m : Int) - 1) = false := by
  have hx := xbl_of hm
  have hz : xbl m = xbl (2 * K + 1) + z := by rw [e, Nat.mul_comm]; exact xbl_pow _ _ (by omega)
  have ht : ((xbl m : Int) - 1).toNat = xbl m - 1 := by omega
  constructor
  · intro g
    refine nany_f ?_
    rw [ht, show xbl m - 1 = z by omega]
    conv => lhs; rw [e]
    exact Nat.mul_mod_right _ _
  · intro g
    have h0 : m % 2 ^ (xbl m - 1) = 0 := by
      rcases Nat.eq_zero_or_pos (m % 2 ^ (xbl m - 1)) with h | h
      · exact h
      · exact absurd (nany_t (u := m) (p := (xbl m : Int) - 1) (by rw [ht]; omega)) (by rw [g]; decide)
    have h1 := Nat.div_add_mod m (2 ^ (xbl m - 1))
    rw [h0, Nat.add_zero] at h1
    have h2 : m / 2 ^ (xbl m - 1) = 1 := by
      have h3 : 2 ^ xbl m = 2 ^ (xbl m - 1) * 2 := by rw [← Nat.pow_succ, show (xbl m - 1).succ = xbl m by omega]
      have h4 : m / 2 ^ (xbl m - 1) < 2 := by rw [Nat.div_lt_iff_lt_mul (Nat.two_pow_pos _), Nat.mul_comm, ← h3]; exact hx.2.1
      have h5 : 0 < m / 2 ^ (xbl m - 1) := Nat.div_pos hx.1 (Nat.two_pow_pos _)
      omega
    rw [h2, Nat.mul_one] at h1
    by_cases hK : K = 0
    · subst hK
      rw [hz, show xbl (2 * 0 + 1) = 1 from rfl]
      omega
    · exfalso
      have h6 : xbl m - 1 = (xbl m - 1 - z - 1) + 1 + z := by
        have : 2 ≤ xbl (2 * K + 1) := xbl_ge (k := 1) (by omega)
        omega
      have h9 : 2 ^ (xbl m - 1) = 2 ^ z * (2 ^ (xbl m - 1 - z - 1) * 2) := by
        conv => lhs; rw [h6, Nat.pow_add, Nat.pow_succ, Nat.mul_comm]
      have h7 := (e.symm.trans h1.symm).trans h9
      have h8 := Nat.eq_of_mul_eq_mul_left (Nat.two_pow_pos z) h7
      omega
theorem zk_le {u z K B : Nat} (h : (u = 0 ∧ z = 0) ∨ u = 2 ^ z * (2 * K + 1)) (hb : xbl u ≤ B) : z ≤ B := by
  rcases h with g | g
  · omega
  · rw [g, Nat.mul_comm, xbl_pow _ _ (by omega)] at hb
    omega
section
variable {w0 w : xW} {L Z : Nat} {S : Nat → Nat → Int} {V : Nat → Nat} {d h t r g : Nat}
theorem x_unit {x p : Int} (hR : cX w0 L Z S V w) (hg : kd g = 1) (hx : -2000000 ≤ x ∧ x ≤ 2000000) (hl : -1000000 ≤ S g 0 ∧ S g 0 ≤ 1000000) (h2 : S g 2 = 0 ∨ S g 2 = 1) : xRun (d + 0) 30 [Value.ref g, Value.int (Int32.ofInt x), Value.int (Int32.ofInt p)] w (.inl (some (.int (Int32.ofInt (rU p (S g 0) (S g 2) 0 x))))) w := by
  have key : ∀ lv, xld lv 0 = some (Value.ref g) → xld lv 1 = some (Value.int (Int32.ofInt x)) → xld lv 2 = some (Value.int (Int32.ofInt p)) → xEv (d + 0) 30 0 lv [] w (fun o w' => o = .inl (some (.int (Int32.ofInt (rU p (S g 0) (S g 2) 0 x)))) ∧ w' = w) := by
    intro lv l0 l1 l2
    refine i_30_0 (x := g) l0 ?_
    refine i_30_1 (v := Value.int (Int32.ofInt (S g 2))) (hR.k1 hg) rfl ?_
    refine i_30_4 (z_eq (a := S g 2) ⟨by omega, by omega⟩ fun c0 => ?_) (z_ne (a := S g 2) ⟨by omega, by omega⟩ fun c0 => ?_)
    · refine i_30_24 (x := Int32.ofInt x) l1 ?_
      refine i_30_25 (x := Int32.ofInt p) l2 ?_
      refine i_30_26 (c := Int32.ofInt (x - p)) (o_sub x p) ?_
      refine i_30_27 ?_
      exact ⟨by rw [show rU p (S g 0) (S g 2) 0 x = x - p from by unfold rU; grind], rfl⟩
    · refine i_30_7 (x := Int32.ofInt x) l1 ?_
      refine i_30_8 (x := g) l0 ?_
      refine i_30_9 (v := Value.int (Int32.ofInt (S g 0))) (hR.k1 hg) rfl ?_
      refine i_30_12 (b_le (a := S g 0) (b := x) ⟨by omega, by omega⟩ ⟨by omega, by omega⟩ fun c1 => ?_) (b_lt (a := x) (b := S g 0) ⟨by omega, by omega⟩ ⟨by omega, by omega⟩ fun c1 => ?_)
      · refine i_30_24 (x := Int32.ofInt x) l1 ?_
        refine i_30_25 (x := Int32.ofInt p) l2 ?_
        refine i_30_26 (c := Int32.ofInt (x - p)) (o_sub x p) ?_
        refine i_30_27 ?_
        exact ⟨by rw [show rU p (S g 0) (S g 2) 0 x = x - p from by unfold rU; grind], rfl⟩
      · refine i_30_15 (x := g) l0 ?_
        refine i_30_16 (v := Value.int (Int32.ofInt (S g 0))) (hR.k1 hg) rfl ?_
        refine i_30_19 (x := Int32.ofInt p) l2 ?_
        refine i_30_20 (c := Int32.ofInt ((S g 0) - p)) (o_sub (S g 0) p) ?_
        refine i_30_21 ?_
        refine i_30_27 ?_
        exact ⟨by rw [show rU p (S g 0) (S g 2) 0 x = (S g 0) - p from by unfold rU; grind], rfl⟩
  obtain ⟨o, w', h1, rfl, rfl⟩ := (key (lv_args 0 [Value.ref g, Value.int (Int32.ofInt x), Value.int (Int32.ofInt p)]) rfl rfl rfl).run
  exact h1
theorem x_refuse (hR : cX w0 L Z S V w) (hg : kd g = 1) (ht : kd t = 2) : ∃ w', xRun (d + 3) 65 [Value.ref g, Value.ref t] w (.inl (some (.int 0))) w' ∧ cX w0 L Z (u2 (u2 (u2 S g 3 (zor (S g 3) 8)) t 1 0) t 2 0) V w' := by
  have key : ∀ lv, xld lv 0 = some (Value.ref g) → xld lv 1 = some (Value.ref t) → xEv (d + 3) 65 0 lv [] w (fun o w' => o = .inl (some (.int 0)) ∧ cX w0 L Z (u2 (u2 (u2 S g 3 (zor (S g 3) 8)) t 1 0) t 2 0) V w') := by
    intro lv l0 l1
    refine i_65_0 (x := g) l0 ?_
    refine i_65_1 rfl ?_
    refine i_65_2 (v := Value.int (Int32.ofInt (S g 3))) (hR.k1 hg) rfl ?_
    refine i_65_5 ?_
    refine i_65_7 (c := Int32.ofInt (zor (S g 3) 8)) (o_or (S g 3) 8) ?_
    refine i_65_8 (fs2 := f1 (u1 (S g) 3 (zor (S g 3) 8))) (hR.k1 hg) (Nat.le_of_ble_eq_true rfl) rfl (h7k hg (by decide)) ?_
    refine xgen (P := cX w0 L Z (u2 S g 3 (zor (S g 3) 8)) V) (hR.p1 hg) (fun w hR => ?_)
    refine i_65_11 (x := t) l1 ?_
    have hobj := hR.k2 ht
    obtain ⟨w, hrun, hR⟩ := x_nan (d := d + 1) (t := t) hR ht
    refine i_65_12 hobj (Nat.le_of_ble_eq_true rfl) hrun ?_
    refine i_65_15 ?_
    exact ⟨rfl, hR⟩
  obtain ⟨o, w', h1, rfl, h2⟩ := (key (lv_args 0 [Value.ref g, Value.ref t]) rfl rfl).run
  exact ⟨w', h1, h2⟩
theorem x_over1 {sg mode : Int} (hR : cX w0 L Z S V w) (hg : kd g = 1) (ht : kd t = 2) (hp : 1 ≤ S t 0 ∧ S t 0 ≤ 4096) (hs : sg = 0 ∨ sg = 1) (hmo : 0 ≤ mode ∧ mode ≤ 4) (hf : far mode sg = true) : ∃ w', xRun (d + 6) 46 [Value.ref g, Value.ref t, Value.int (Int32.ofInt sg), Value.int (Int32.ofInt mode)] w (.inl (some (.int (Int32.ofInt 1)))) w' ∧ cX w0 L Z (u2 (u2 (u2 S g 3 (zor (S g 3) 2)) t 1 1) t 2 sg) V w' := by
  have key : ∀ lv, xld lv 0 = some (Value.ref g) → xld lv 1 = some (Value.ref t) → xld lv 2 = some (Value.int (Int32.ofInt sg)) → xld lv 3 = some (Value.int (Int32.ofInt mode)) → xEv (d + 6) 46 0 lv [] w (fun o w' => o = .inl (some (.int (Int32.ofInt 1))) ∧ cX w0 L Z (u2 (u2 (u2 S g 3 (zor (S g 3) 2)) t 1 1) t 2 sg) V w') := by
    intro lv l0 l1 l2 l3
    have n2 : t ≠ g := kd_ne ht hg (by decide)
    have n6 : t + 1 ≠ g := kd_ne (kd_rg ht) hg (by decide)
    refine i_46_0 (x := g) l0 ?_
    refine i_46_1 rfl ?_
    refine i_46_2 (v := Value.int (Int32.ofInt (S g 3))) (hR.k1 hg) rfl ?_
    refine i_46_5 ?_
    refine i_46_6 (c := Int32.ofInt (zor (S g 3) 2)) (o_or (S g 3) 2) ?_
    refine i_46_7 (fs2 := f1 (u1 (S g) 3 (zor (S g 3) 2))) (hR.k1 hg) (Nat.le_of_ble_eq_true rfl) rfl (h7k hg (by decide)) ?_
    refine xgen (P := cX w0 L Z (u2 S g 3 (zor (S g 3) 2)) V) (hR.p1 hg) (fun w hR => ?_)
    refine i_46_10 (x := Int32.ofInt mode) l3 ?_
    refine i_46_11 (z_eq (a := mode) ⟨by omega, by omega⟩ fun c0 => ?_) (z_ne (a := mode) ⟨by omega, by omega⟩ fun c0 => ?_)
    · refine i_46_22 (x := t) l1 ?_
      refine i_46_23 (x := Int32.ofInt sg) l2 ?_
      have hobj := hR.k2 ht
      obtain ⟨w, hrun, hR⟩ := x_inf (d := d + 4) (t := t) (sg := sg) hR ht (by first | omega | exact bb_01 _)
      refine i_46_24 hobj (Nat.le_of_ble_eq_true rfl) hrun ?_
      refine i_46_27 rfl ?_
      refine i_46_28 ?_
      refine i_46_29 ?_
      exact ⟨rfl, hR⟩
    · refine i_46_14 (x := Int32.ofInt mode) l3 ?_
      refine i_46_15 (x := Int32.ofInt sg) l2 ?_
      have hrun := x_isOut (d := d + 5) (w := w) (way := mode) (neg := sg) ⟨by omega, by omega⟩ (by first | omega | exact bb_01 _)
      refine i_46_16 (Nat.le_of_ble_eq_true rfl) hrun ?_
      refine i_46_19 (zb_f fun c1 => ?_) (zb_t fun c1 => ?_)
      · refine i_46_30 (x := t) l1 ?_
        refine i_46_31 (x := Int32.ofInt sg) l2 ?_
        refine i_46_32 (x := g) l0 ?_
        refine i_46_33 (v := Value.int (Int32.ofInt ((u2 S g 3 (zor (S g 3) 2)) g 1))) (hR.k1 hg) rfl ?_
        rw [show Int32.ofInt ((u2 S g 3 (zor (S g 3) 2)) g 1) = Int32.ofInt (S g 1) by rw [u2_eq, if_neg (by omega)]]
        have hobj := hR.k2 ht
        have ep : (u2 S g 3 (zor (S g 3) 2)) t 0 = S t 0 := by rw [u2_eq, if_neg (by omega)]
        obtain ⟨w, hrun, hR⟩ := x_great (d := d + 1) (t := t) (sg := sg) (pw := S g 1) hR ht (by first | omega | exact bb_01 _) (by rw [ep]; omega)
        rw [ep] at hR
        refine i_46_36 hobj (Nat.le_of_ble_eq_true rfl) hrun ?_
        refine i_46_39 ?_
        refine i_46_40 ?_
        exfalso
        clear hR
        grind [far, away]
      · refine i_46_22 (x := t) l1 ?_
        refine i_46_23 (x := Int32.ofInt sg) l2 ?_
        have hobj := hR.k2 ht
        obtain ⟨w, hrun, hR⟩ := x_inf (d := d + 4) (t := t) (sg := sg) hR ht (by first | omega | exact bb_01 _)
        refine i_46_24 hobj (Nat.le_of_ble_eq_true rfl) hrun ?_
        refine i_46_27 rfl ?_
        refine i_46_28 ?_
        refine i_46_29 ?_
        exact ⟨rfl, hR⟩
  obtain ⟨o, w', h1, rfl, h2⟩ := (key (lv_args 0 [Value.ref g, Value.ref t, Value.int (Int32.ofInt sg), Value.int (Int32.ofInt mode)]) rfl rfl rfl rfl).run
  exact ⟨w', h1, h2⟩
theorem x_over0 {sg mode : Int} (hR : cX w0 L Z S V w) (hg : kd g = 1) (ht : kd t = 2) (hp : 1 ≤ S t 0 ∧ S t 0 ≤ 4096) (hs : sg = 0 ∨ sg = 1) (hmo : 0 ≤ mode ∧ mode ≤ 4) (hf : far mode sg = false) : ∃ w', xRun (d + 6) 46 [Value.ref g, Value.ref t, Value.int (Int32.ofInt sg), Value.int (Int32.ofInt mode)] w (.inl (some (.int (Int32.ofInt (-1))))) w' ∧ cX w0 L Z (u2 (u2 (u2 (u2 S g 3 (zor (S g 3) 2)) t 1 3) t 2 sg) t 3 (S g 1)) (uv V (t + 1) (2 ^ (S t 0).toNat - 1)) w' := by
  have key : ∀ lv, xld lv 0 = some (Value.ref g) → xld lv 1 = some (Value.ref t) → xld lv 2 = some (Value.int (Int32.ofInt sg)) → xld lv 3 = some (Value.int (Int32.ofInt mode)) → xEv (d + 6) 46 0 lv [] w (fun o w' => o = .inl (some (.int (Int32.ofInt (-1)))) ∧ cX w0 L Z (u2 (u2 (u2 (u2 S g 3 (zor (S g 3) 2)) t 1 3) t 2 sg) t 3 (S g 1)) (uv V (t + 1) (2 ^ (S t 0).toNat - 1)) w') := by
    intro lv l0 l1 l2 l3
    have n2 : t ≠ g := kd_ne ht hg (by decide)
    have n6 : t + 1 ≠ g := kd_ne (kd_rg ht) hg (by decide)
    refine i_46_0 (x := g) l0 ?_
    refine i_46_1 rfl ?_
    refine i_46_2 (v := Value.int (Int32.ofInt (S g 3))) (hR.k1 hg) rfl ?_
    refine i_46_5 ?_
    refine i_46_6 (c := Int32.ofInt (zor (S g 3) 2)) (o_or (S g 3) 2) ?_
    refine i_46_7 (fs2 := f1 (u1 (S g) 3 (zor (S g 3) 2))) (hR.k1 hg) (Nat.le_of_ble_eq_true rfl) rfl (h7k hg (by decide)) ?_
    refine xgen (P := cX w0 L Z (u2 S g 3 (zor (S g 3) 2)) V) (hR.p1 hg) (fun w hR => ?_)
    refine i_46_10 (x := Int32.ofInt mode) l3 ?_
    refine i_46_11 (z_eq (a := mode) ⟨by omega, by omega⟩ fun c0 => ?_) (z_ne (a := mode) ⟨by omega, by omega⟩ fun c0 => ?_)
    · refine i_46_22 (x := t) l1 ?_
      refine i_46_23 (x := Int32.ofInt sg) l2 ?_
      have hobj := hR.k2 ht
      obtain ⟨w, hrun, hR⟩ := x_inf (d := d + 4) (t := t) (sg := sg) hR ht (by first | omega | exact bb_01 _)
      refine i_46_24 hobj (Nat.le_of_ble_eq_true rfl) hrun ?_
      refine i_46_27 rfl ?_
      refine i_46_28 ?_
      refine i_46_29 ?_
      exfalso
      clear hR
      grind [far, away]
    · refine i_46_14 (x := Int32.ofInt mode) l3 ?_
      refine i_46_15 (x := Int32.ofInt sg) l2 ?_
      have hrun := x_isOut (d := d + 5) (w := w) (way := mode) (neg := sg) ⟨by omega, by omega⟩ (by first | omega | exact bb_01 _)
      refine i_46_16 (Nat.le_of_ble_eq_true rfl) hrun ?_
      refine i_46_19 (zb_f fun c1 => ?_) (zb_t fun c1 => ?_)
      · refine i_46_30 (x := t) l1 ?_
        refine i_46_31 (x := Int32.ofInt sg) l2 ?_
        refine i_46_32 (x := g) l0 ?_
        refine i_46_33 (v := Value.int (Int32.ofInt ((u2 S g 3 (zor (S g 3) 2)) g 1))) (hR.k1 hg) rfl ?_
        rw [show Int32.ofInt ((u2 S g 3 (zor (S g 3) 2)) g 1) = Int32.ofInt (S g 1) by rw [u2_eq, if_neg (by omega)]]
        have hobj := hR.k2 ht
        have ep : (u2 S g 3 (zor (S g 3) 2)) t 0 = S t 0 := by rw [u2_eq, if_neg (by omega)]
        obtain ⟨w, hrun, hR⟩ := x_great (d := d + 1) (t := t) (sg := sg) (pw := S g 1) hR ht (by first | omega | exact bb_01 _) (by rw [ep]; omega)
        rw [ep] at hR
        refine i_46_36 hobj (Nat.le_of_ble_eq_true rfl) hrun ?_
        refine i_46_39 ?_
        refine i_46_40 ?_
        exact ⟨rfl, hR⟩
      · refine i_46_22 (x := t) l1 ?_
        refine i_46_23 (x := Int32.ofInt sg) l2 ?_
        have hobj := hR.k2 ht
        obtain ⟨w, hrun, hR⟩ := x_inf (d := d + 4) (t := t) (sg := sg) hR ht (by first | omega | exact bb_01 _)
        refine i_46_24 hobj (Nat.le_of_ble_eq_true rfl) hrun ?_
        refine i_46_27 rfl ?_
        refine i_46_28 ?_
        refine i_46_29 ?_
        exfalso
        clear hR
        grind [far, away]
  obtain ⟨o, w', h1, rfl, h2⟩ := (key (lv_args 0 [Value.ref g, Value.ref t, Value.int (Int32.ofInt sg), Value.int (Int32.ofInt mode)]) rfl rfl rfl rfl).run
  exact ⟨w', h1, h2⟩
set_option maxHeartbeats 4000000 in
theorem x_und1 {mode : Int} (hR : cX w0 L Z S V w) (hg : kd g = 1) (ht : kd t = 2) (hk : kd h = 4) (hp : 1 ≤ S t 0 ∧ S t 0 ≤ 4096) (hs : S h 0 = 0 ∨ S h 0 = 1) (hm : S h 3 = 0 ∨ S h 3 = 1) (hmo : 0 ≤ mode ∧ mode ≤ 4) (hm0 : V (h + 1) ≠ 0) (hmb : xbl (V (h + 1)) ≤ 600000) (hsc : -1000000 ≤ S h 2 ∧ S h 2 ≤ 1000000) (hl : -1000000 ≤ S g 0 ∧ S g 0 ≤ 1000000) (hx : (xbl (V (h + 1)) : Int) + S h 2 ≤ S g 0 - 1) (hf : upU (V (h + 1)) ((xbl (V (h + 1)) : Int) + S h 2) (S g 0) (S h 3) (S h 0) mode = true) : ∃ w', xRun (d + 6) 50 [Value.ref g, Value.ref t, Value.ref h, Value.int (Int32.ofInt mode)] w (.inl (some (.int (Int32.ofInt 1)))) w' ∧ cX w0 L Z (u2 (u2 (u2 (u2 S g 3 (zor (S g 3) 4)) t 1 3) t 2 (S h 0)) t 3 (S g 0)) (uv V (t + 1) (2 ^ (S t 0 - 1).toNat)) w' := by
  have key : ∀ lv, xld lv 0 = some (Value.ref g) → xld lv 1 = some (Value.ref t) → xld lv 2 = some (Value.ref h) → xld lv 3 = some (Value.int (Int32.ofInt mode)) → xEv (d + 6) 50 0 lv [] w (fun o w' => o = .inl (some (.int (Int32.ofInt 1))) ∧ cX w0 L Z (u2 (u2 (u2 (u2 S g 3 (zor (S g 3) 4)) t 1 3) t 2 (S h 0)) t 3 (S g 0)) (uv V (t + 1) (2 ^ (S t 0 - 1).toNat)) w') := by
    intro lv l0 l1 l2 l3
    have n1 : t ≠ h := kd_ne ht hk (by decide)
    have n2 : t ≠ g := kd_ne ht hg (by decide)
    have n3 : g ≠ h := kd_ne hg hk (by decide)
    have n4 : t ≠ h + 1 := kd_ne ht (kd_rl hk) (by decide)
    have n5 : t + 1 ≠ h := kd_ne (kd_rg ht) hk (by decide)
    have n6 : t + 1 ≠ g := kd_ne (kd_rg ht) hg (by decide)
    refine i_50_0 (x := g) l0 ?_
    refine i_50_1 rfl ?_
    refine i_50_2 (v := Value.int (Int32.ofInt (S g 3))) (hR.k1 hg) rfl ?_
    refine i_50_5 ?_
    refine i_50_6 (c := Int32.ofInt (zor (S g 3) 4)) (o_or (S g 3) 4) ?_
    refine i_50_7 (fs2 := f1 (u1 (S g) 3 (zor (S g 3) 4))) (hR.k1 hg) (Nat.le_of_ble_eq_true rfl) rfl (h7k hg (by decide)) ?_
    refine xgen (P := cX w0 L Z (u2 S g 3 (zor (S g 3) 4)) V) (hR.p1 hg) (fun w hR => ?_)
    refine i_50_10 (x := Int32.ofInt mode) l3 ?_
    refine i_50_11 (x := h) l2 ?_
    refine i_50_12 (v := Value.int (Int32.ofInt ((u2 S g 3 (zor (S g 3) 4)) h 0))) (hR.k4 hk) rfl ?_
    rw [show Int32.ofInt ((u2 S g 3 (zor (S g 3) 4)) h 0) = Int32.ofInt (S h 0) by rw [u2_eq, if_neg (by omega)]]
    have hrun := x_isOut (d := d + 5) (w := w) (way := mode) (neg := S h 0) ⟨by omega, by omega⟩ (by first | omega | exact bb_01 _)
    refine i_50_15 (Nat.le_of_ble_eq_true rfl) hrun ?_
    refine i_50_18 rfl ?_
    refine lgen1 (i := 4) (v := Value.int (Int32.ofInt (bb (away mode (S h 0))))) (fun lv lg ls => ?_)
    replace l0 := lg 0 _ rfl rfl l0
    replace l1 := lg 1 _ rfl rfl l1
    replace l2 := lg 2 _ rfl rfl l2
    replace l3 := lg 3 _ rfl rfl l3
    have l4 := ls
    refine i_50_20 (x := Int32.ofInt mode) l3 ?_
    refine i_50_21 (z_ne (a := mode) ⟨by omega, by omega⟩ fun c0 => ?_) (z_eq (a := mode) ⟨by omega, by omega⟩ fun c0 => ?_)
    · refine i_50_82 (x := Int32.ofInt (bb (away mode (S h 0)))) l4 ?_
      refine i_50_84 (zb_f fun c1 => ?_) (zb_t fun c1 => ?_)
      · refine i_50_101 (x := t) l1 ?_
        refine i_50_102 (x := h) l2 ?_
        refine i_50_103 (v := Value.int (Int32.ofInt ((u2 S g 3 (zor (S g 3) 4)) h 0))) (hR.k4 hk) rfl ?_
        rw [show Int32.ofInt ((u2 S g 3 (zor (S g 3) 4)) h 0) = Int32.ofInt (S h 0) by rw [u2_eq, if_neg (by omega)]]
        have hobj := hR.k2 ht
        obtain ⟨w, hrun, hR⟩ := x_zero (d := d + 4) (t := t) (sg := S h 0) hR ht (by first | omega | exact bb_01 _)
        refine i_50_106 hobj (Nat.le_of_ble_eq_true rfl) hrun ?_
        refine i_50_109 rfl ?_
        refine i_50_110 ?_
        refine i_50_111 ?_
        exfalso
        clear hR
        grind [upU, away]
      · refine i_50_87 (x := t) l1 ?_
        refine i_50_88 (x := h) l2 ?_
        refine i_50_89 (v := Value.int (Int32.ofInt ((u2 S g 3 (zor (S g 3) 4)) h 0))) (hR.k4 hk) rfl ?_
        rw [show Int32.ofInt ((u2 S g 3 (zor (S g 3) 4)) h 0) = Int32.ofInt (S h 0) by rw [u2_eq, if_neg (by omega)]]
        refine i_50_92 (x := g) l0 ?_
        refine i_50_93 (v := Value.int (Int32.ofInt ((u2 S g 3 (zor (S g 3) 4)) g 0))) (hR.k1 hg) rfl ?_
        rw [show Int32.ofInt ((u2 S g 3 (zor (S g 3) 4)) g 0) = Int32.ofInt (S g 0) by rw [u2_eq, if_neg (by omega)]]
        have hobj := hR.k2 ht
        have ep : (u2 S g 3 (zor (S g 3) 4)) t 0 = S t 0 := by rw [u2_eq, if_neg (by omega)]
        obtain ⟨w, hrun, hR⟩ := x_pow2 (d := d + 1) (t := t) (sg := S h 0) (pw := S g 0) hR ht (by first | omega | exact bb_01 _) (by rw [ep]; omega)
        rw [ep] at hR
        refine i_50_96 hobj (Nat.le_of_ble_eq_true rfl) hrun ?_
        refine i_50_99 ?_
        refine i_50_100 ?_
        first | exact ⟨rfl, hR⟩ | (exfalso; clear hR; grind [upU, away])
    · refine i_50_24 (x := h) l2 ?_
      refine i_50_25 (v := Value.int (Int32.ofInt ((u2 S g 3 (zor (S g 3) 4)) h 3))) (hR.k4 hk) rfl ?_
      rw [show Int32.ofInt ((u2 S g 3 (zor (S g 3) 4)) h 3) = Int32.ofInt (S h 3) by rw [u2_eq, if_neg (by omega)]]
      refine i_50_28 (z_ne (a := S h 3) ⟨by omega, by omega⟩ fun c2 => ?_) (z_eq (a := S h 3) ⟨by omega, by omega⟩ fun c2 => ?_)
      · refine i_50_54 ?_
        refine i_50_55 rfl ?_
        refine lgen1 (i := 5) (v := Value.int 0) (fun lv lg ls => ?_)
        replace l4 := lg 4 _ rfl rfl l4
        replace l0 := lg 0 _ rfl rfl l0
        replace l1 := lg 1 _ rfl rfl l1
        replace l2 := lg 2 _ rfl rfl l2
        replace l3 := lg 3 _ rfl rfl l3
        have l5 := ls
        refine i_50_57 (x := h) l2 ?_
        have hobj := hR.k4 hk
        have hrun := x_exp (d := d + 3) (h := h) hR hk
        rw [show (u2 S g 3 (zor (S g 3) 4)) h 2 = S h 2 by rw [u2_eq, if_neg (by omega)], show V (h + 1) = V (h + 1) from rfl] at hrun
        refine i_50_58 hobj (Nat.le_of_ble_eq_true rfl) hrun ?_
        refine i_50_61 (x := g) l0 ?_
        refine i_50_62 (v := Value.int (Int32.ofInt ((u2 S g 3 (zor (S g 3) 4)) g 0))) (hR.k1 hg) rfl ?_
        rw [show Int32.ofInt ((u2 S g 3 (zor (S g 3) 4)) g 0) = Int32.ofInt (S g 0) by rw [u2_eq, if_neg (by omega)]]
        refine i_50_65 ?_
        refine i_50_66 (c := Int32.ofInt ((S g 0) - 1)) (o_sub (S g 0) 1) ?_
        refine i_50_67 (b_ne (a := (xbl (V (h + 1)) : Int) + S h 2) (b := (S g 0) - 1) ⟨by omega, by omega⟩ ⟨by omega, by omega⟩ fun c3 => ?_) (b_eq (a := (xbl (V (h + 1)) : Int) + S h 2) (b := (S g 0) - 1) ⟨by omega, by omega⟩ ⟨by omega, by omega⟩ fun c3 => ?_)
        · refine i_50_79 ?_
          refine i_50_80 rfl ?_
          refine lgen1 (i := 4) (v := Value.int 0) (fun lv lg ls => ?_)
          replace l5 := lg 5 _ rfl rfl l5
          replace l0 := lg 0 _ rfl rfl l0
          replace l1 := lg 1 _ rfl rfl l1
          replace l2 := lg 2 _ rfl rfl l2
          replace l3 := lg 3 _ rfl rfl l3
          have l4 := ls
          refine i_50_82 (x := 0) l4 ?_
          refine i_50_84 (fun _ => ?_) (fun c => absurd c (by decide))
          refine i_50_101 (x := t) l1 ?_
          refine i_50_102 (x := h) l2 ?_
          refine i_50_103 (v := Value.int (Int32.ofInt ((u2 S g 3 (zor (S g 3) 4)) h 0))) (hR.k4 hk) rfl ?_
          rw [show Int32.ofInt ((u2 S g 3 (zor (S g 3) 4)) h 0) = Int32.ofInt (S h 0) by rw [u2_eq, if_neg (by omega)]]
          have hobj := hR.k2 ht
          obtain ⟨w, hrun, hR⟩ := x_zero (d := d + 4) (t := t) (sg := S h 0) hR ht (by first | omega | exact bb_01 _)
          refine i_50_106 hobj (Nat.le_of_ble_eq_true rfl) hrun ?_
          refine i_50_109 rfl ?_
          refine i_50_110 ?_
          refine i_50_111 ?_
          exfalso
          clear hR
          grind [upU, away]
        · refine i_50_70 (x := 0) l5 ?_
          refine i_50_72 (fun c => absurd c (by decide)) (fun _ => ?_)
          refine i_50_75 ?_
          refine i_50_76 ?_
          refine i_50_80 rfl ?_
          refine lgen1 (i := 4) (v := Value.int 1) (fun lv lg ls => ?_)
          replace l5 := lg 5 _ rfl rfl l5
          replace l0 := lg 0 _ rfl rfl l0
          replace l1 := lg 1 _ rfl rfl l1
          replace l2 := lg 2 _ rfl rfl l2
          replace l3 := lg 3 _ rfl rfl l3
          have l4 := ls
          refine i_50_82 (x := 1) l4 ?_
          refine i_50_84 (fun c => absurd c (by decide)) (fun _ => ?_)
          refine i_50_87 (x := t) l1 ?_
          refine i_50_88 (x := h) l2 ?_
          refine i_50_89 (v := Value.int (Int32.ofInt ((u2 S g 3 (zor (S g 3) 4)) h 0))) (hR.k4 hk) rfl ?_
          rw [show Int32.ofInt ((u2 S g 3 (zor (S g 3) 4)) h 0) = Int32.ofInt (S h 0) by rw [u2_eq, if_neg (by omega)]]
          refine i_50_92 (x := g) l0 ?_
          refine i_50_93 (v := Value.int (Int32.ofInt ((u2 S g 3 (zor (S g 3) 4)) g 0))) (hR.k1 hg) rfl ?_
          rw [show Int32.ofInt ((u2 S g 3 (zor (S g 3) 4)) g 0) = Int32.ofInt (S g 0) by rw [u2_eq, if_neg (by omega)]]
          have hobj := hR.k2 ht
          have ep : (u2 S g 3 (zor (S g 3) 4)) t 0 = S t 0 := by rw [u2_eq, if_neg (by omega)]
          obtain ⟨w, hrun, hR⟩ := x_pow2 (d := d + 1) (t := t) (sg := S h 0) (pw := S g 0) hR ht (by first | omega | exact bb_01 _) (by rw [ep]; omega)
          rw [ep] at hR
          refine i_50_96 hobj (Nat.le_of_ble_eq_true rfl) hrun ?_
          refine i_50_99 ?_
          refine i_50_100 ?_
          first | exact ⟨rfl, hR⟩ | (exfalso; clear hR; grind [upU, away])
      · refine i_50_31 (x := h) l2 ?_
        refine i_50_32 (v := Value.ref (h + 1)) (hR.k4 hk) rfl ?_
        obtain ⟨fs, hobj⟩ := hR.nat (kd_rl hk)
        obtain ⟨z5, K5, hrun, hzK5⟩ := X_zeros (d := d + 4) (h := h + 1) (u := V (h + 1)) hR (kd_rl hk) (rfl)
        have hzp : ((z5 : Int) = (xbl (V (h + 1)) : Int) - 1) ↔ nany (V (h + 1)) ((xbl (V (h + 1)) : Int) - 1) = false := by
          rcases hzK5 with g | g
          · exact absurd g.1 hm0
          · exact zp hm0 g
        have hzl : z5 ≤ 600000 := zk_le hzK5 (by omega)
        refine i_50_35 hobj (Nat.le_of_ble_eq_true rfl) hrun ?_
        refine i_50_38 (x := h) l2 ?_
        refine i_50_39 (v := Value.ref (h + 1)) (hR.k4 hk) rfl ?_
        obtain ⟨fs, hobj⟩ := hR.nat (kd_rl hk)
        have hrun := X_bits (d := d + 4) (h := h + 1) (u := V (h + 1)) hR (kd_rl hk) (rfl)
        refine i_50_42 hobj (Nat.le_of_ble_eq_true rfl) hrun ?_
        refine i_50_45 ?_
        refine i_50_46 (c := Int32.ofInt ((xbl (V (h + 1)) : Int) - 1)) (o_sub (xbl (V (h + 1)) : Int) 1) ?_
        refine i_50_47 (b_ne (a := (z5 : Int)) (b := (xbl (V (h + 1)) : Int) - 1) ⟨by omega, by omega⟩ ⟨by omega, by omega⟩ fun c5 => ?_) (b_eq (a := (z5 : Int)) (b := (xbl (V (h + 1)) : Int) - 1) ⟨by omega, by omega⟩ ⟨by omega, by omega⟩ fun c5 => ?_)
        · refine i_50_54 ?_
          refine i_50_55 rfl ?_
          refine lgen1 (i := 5) (v := Value.int 0) (fun lv lg ls => ?_)
          replace l4 := lg 4 _ rfl rfl l4
          replace l0 := lg 0 _ rfl rfl l0
          replace l1 := lg 1 _ rfl rfl l1
          replace l2 := lg 2 _ rfl rfl l2
          replace l3 := lg 3 _ rfl rfl l3
          have l5 := ls
          refine i_50_57 (x := h) l2 ?_
          have hobj := hR.k4 hk
          have hrun := x_exp (d := d + 3) (h := h) hR hk
          rw [show (u2 S g 3 (zor (S g 3) 4)) h 2 = S h 2 by rw [u2_eq, if_neg (by omega)], show V (h + 1) = V (h + 1) from rfl] at hrun
          refine i_50_58 hobj (Nat.le_of_ble_eq_true rfl) hrun ?_
          refine i_50_61 (x := g) l0 ?_
          refine i_50_62 (v := Value.int (Int32.ofInt ((u2 S g 3 (zor (S g 3) 4)) g 0))) (hR.k1 hg) rfl ?_
          rw [show Int32.ofInt ((u2 S g 3 (zor (S g 3) 4)) g 0) = Int32.ofInt (S g 0) by rw [u2_eq, if_neg (by omega)]]
          refine i_50_65 ?_
          refine i_50_66 (c := Int32.ofInt ((S g 0) - 1)) (o_sub (S g 0) 1) ?_
          refine i_50_67 (b_ne (a := (xbl (V (h + 1)) : Int) + S h 2) (b := (S g 0) - 1) ⟨by omega, by omega⟩ ⟨by omega, by omega⟩ fun c6 => ?_) (b_eq (a := (xbl (V (h + 1)) : Int) + S h 2) (b := (S g 0) - 1) ⟨by omega, by omega⟩ ⟨by omega, by omega⟩ fun c6 => ?_)
          · refine i_50_79 ?_
            refine i_50_80 rfl ?_
            refine lgen1 (i := 4) (v := Value.int 0) (fun lv lg ls => ?_)
            replace l5 := lg 5 _ rfl rfl l5
            replace l0 := lg 0 _ rfl rfl l0
            replace l1 := lg 1 _ rfl rfl l1
            replace l2 := lg 2 _ rfl rfl l2
            replace l3 := lg 3 _ rfl rfl l3
            have l4 := ls
            refine i_50_82 (x := 0) l4 ?_
            refine i_50_84 (fun _ => ?_) (fun c => absurd c (by decide))
            refine i_50_101 (x := t) l1 ?_
            refine i_50_102 (x := h) l2 ?_
            refine i_50_103 (v := Value.int (Int32.ofInt ((u2 S g 3 (zor (S g 3) 4)) h 0))) (hR.k4 hk) rfl ?_
            rw [show Int32.ofInt ((u2 S g 3 (zor (S g 3) 4)) h 0) = Int32.ofInt (S h 0) by rw [u2_eq, if_neg (by omega)]]
            have hobj := hR.k2 ht
            obtain ⟨w, hrun, hR⟩ := x_zero (d := d + 4) (t := t) (sg := S h 0) hR ht (by first | omega | exact bb_01 _)
            refine i_50_106 hobj (Nat.le_of_ble_eq_true rfl) hrun ?_
            refine i_50_109 rfl ?_
            refine i_50_110 ?_
            refine i_50_111 ?_
            exfalso
            clear hR
            grind [upU, away]
          · refine i_50_70 (x := 0) l5 ?_
            refine i_50_72 (fun c => absurd c (by decide)) (fun _ => ?_)
            refine i_50_75 ?_
            refine i_50_76 ?_
            refine i_50_80 rfl ?_
            refine lgen1 (i := 4) (v := Value.int 1) (fun lv lg ls => ?_)
            replace l5 := lg 5 _ rfl rfl l5
            replace l0 := lg 0 _ rfl rfl l0
            replace l1 := lg 1 _ rfl rfl l1
            replace l2 := lg 2 _ rfl rfl l2
            replace l3 := lg 3 _ rfl rfl l3
            have l4 := ls
            refine i_50_82 (x := 1) l4 ?_
            refine i_50_84 (fun c => absurd c (by decide)) (fun _ => ?_)
            refine i_50_87 (x := t) l1 ?_
            refine i_50_88 (x := h) l2 ?_
            refine i_50_89 (v := Value.int (Int32.ofInt ((u2 S g 3 (zor (S g 3) 4)) h 0))) (hR.k4 hk) rfl ?_
            rw [show Int32.ofInt ((u2 S g 3 (zor (S g 3) 4)) h 0) = Int32.ofInt (S h 0) by rw [u2_eq, if_neg (by omega)]]
            refine i_50_92 (x := g) l0 ?_
            refine i_50_93 (v := Value.int (Int32.ofInt ((u2 S g 3 (zor (S g 3) 4)) g 0))) (hR.k1 hg) rfl ?_
            rw [show Int32.ofInt ((u2 S g 3 (zor (S g 3) 4)) g 0) = Int32.ofInt (S g 0) by rw [u2_eq, if_neg (by omega)]]
            have hobj := hR.k2 ht
            have ep : (u2 S g 3 (zor (S g 3) 4)) t 0 = S t 0 := by rw [u2_eq, if_neg (by omega)]
            obtain ⟨w, hrun, hR⟩ := x_pow2 (d := d + 1) (t := t) (sg := S h 0) (pw := S g 0) hR ht (by first | omega | exact bb_01 _) (by rw [ep]; omega)
            rw [ep] at hR
            refine i_50_96 hobj (Nat.le_of_ble_eq_true rfl) hrun ?_
            refine i_50_99 ?_
            refine i_50_100 ?_
            first | exact ⟨rfl, hR⟩ | (exfalso; clear hR; grind [upU, away])
        · refine i_50_50 ?_
          refine i_50_51 ?_
          refine i_50_55 rfl ?_
          refine lgen1 (i := 5) (v := Value.int 1) (fun lv lg ls => ?_)
          replace l4 := lg 4 _ rfl rfl l4
          replace l0 := lg 0 _ rfl rfl l0
          replace l1 := lg 1 _ rfl rfl l1
          replace l2 := lg 2 _ rfl rfl l2
          replace l3 := lg 3 _ rfl rfl l3
          have l5 := ls
          refine i_50_57 (x := h) l2 ?_
          have hobj := hR.k4 hk
          have hrun := x_exp (d := d + 3) (h := h) hR hk
          rw [show (u2 S g 3 (zor (S g 3) 4)) h 2 = S h 2 by rw [u2_eq, if_neg (by omega)], show V (h + 1) = V (h + 1) from rfl] at hrun
          refine i_50_58 hobj (Nat.le_of_ble_eq_true rfl) hrun ?_
          refine i_50_61 (x := g) l0 ?_
          refine i_50_62 (v := Value.int (Int32.ofInt ((u2 S g 3 (zor (S g 3) 4)) g 0))) (hR.k1 hg) rfl ?_
          rw [show Int32.ofInt ((u2 S g 3 (zor (S g 3) 4)) g 0) = Int32.ofInt (S g 0) by rw [u2_eq, if_neg (by omega)]]
          refine i_50_65 ?_
          refine i_50_66 (c := Int32.ofInt ((S g 0) - 1)) (o_sub (S g 0) 1) ?_
          refine i_50_67 (b_ne (a := (xbl (V (h + 1)) : Int) + S h 2) (b := (S g 0) - 1) ⟨by omega, by omega⟩ ⟨by omega, by omega⟩ fun c7 => ?_) (b_eq (a := (xbl (V (h + 1)) : Int) + S h 2) (b := (S g 0) - 1) ⟨by omega, by omega⟩ ⟨by omega, by omega⟩ fun c7 => ?_)
          · refine i_50_79 ?_
            refine i_50_80 rfl ?_
            refine lgen1 (i := 4) (v := Value.int 0) (fun lv lg ls => ?_)
            replace l5 := lg 5 _ rfl rfl l5
            replace l0 := lg 0 _ rfl rfl l0
            replace l1 := lg 1 _ rfl rfl l1
            replace l2 := lg 2 _ rfl rfl l2
            replace l3 := lg 3 _ rfl rfl l3
            have l4 := ls
            refine i_50_82 (x := 0) l4 ?_
            refine i_50_84 (fun _ => ?_) (fun c => absurd c (by decide))
            refine i_50_101 (x := t) l1 ?_
            refine i_50_102 (x := h) l2 ?_
            refine i_50_103 (v := Value.int (Int32.ofInt ((u2 S g 3 (zor (S g 3) 4)) h 0))) (hR.k4 hk) rfl ?_
            rw [show Int32.ofInt ((u2 S g 3 (zor (S g 3) 4)) h 0) = Int32.ofInt (S h 0) by rw [u2_eq, if_neg (by omega)]]
            have hobj := hR.k2 ht
            obtain ⟨w, hrun, hR⟩ := x_zero (d := d + 4) (t := t) (sg := S h 0) hR ht (by first | omega | exact bb_01 _)
            refine i_50_106 hobj (Nat.le_of_ble_eq_true rfl) hrun ?_
            refine i_50_109 rfl ?_
            refine i_50_110 ?_
            refine i_50_111 ?_
            exfalso
            clear hR
            grind [upU, away]
          · refine i_50_70 (x := 1) l5 ?_
            refine i_50_72 (fun _ => ?_) (fun c => absurd c (by decide))
            refine i_50_79 ?_
            refine i_50_80 rfl ?_
            refine lgen1 (i := 4) (v := Value.int 0) (fun lv lg ls => ?_)
            replace l5 := lg 5 _ rfl rfl l5
            replace l0 := lg 0 _ rfl rfl l0
            replace l1 := lg 1 _ rfl rfl l1
            replace l2 := lg 2 _ rfl rfl l2
            replace l3 := lg 3 _ rfl rfl l3
            have l4 := ls
            refine i_50_82 (x := 0) l4 ?_
            refine i_50_84 (fun _ => ?_) (fun c => absurd c (by decide))
            refine i_50_101 (x := t) l1 ?_
            refine i_50_102 (x := h) l2 ?_
            refine i_50_103 (v := Value.int (Int32.ofInt ((u2 S g 3 (zor (S g 3) 4)) h 0))) (hR.k4 hk) rfl ?_
            rw [show Int32.ofInt ((u2 S g 3 (zor (S g 3) 4)) h 0) = Int32.ofInt (S h 0) by rw [u2_eq, if_neg (by omega)]]
            have hobj := hR.k2 ht
            obtain ⟨w, hrun, hR⟩ := x_zero (d := d + 4) (t := t) (sg := S h 0) hR ht (by first | omega | exact bb_01 _)
            refine i_50_106 hobj (Nat.le_of_ble_eq_true rfl) hrun ?_
            refine i_50_109 rfl ?_
            refine i_50_110 ?_
            refine i_50_111 ?_
            exfalso
            clear hR
            grind [upU, away]
  obtain ⟨o, w', h1, rfl, h2⟩ := (key (lv_args 0 [Value.ref g, Value.ref t, Value.ref h, Value.int (Int32.ofInt mode)]) rfl rfl rfl rfl).run
  exact ⟨w', h1, h2⟩
set_option maxHeartbeats 4000000 in
theorem x_und0 {mode : Int} (hR : cX w0 L Z S V w) (hg : kd g = 1) (ht : kd t = 2) (hk : kd h = 4) (hp : 1 ≤ S t 0 ∧ S t 0 ≤ 4096) (hs : S h 0 = 0 ∨ S h 0 = 1) (hm : S h 3 = 0 ∨ S h 3 = 1) (hmo : 0 ≤ mode ∧ mode ≤ 4) (hm0 : V (h + 1) ≠ 0) (hmb : xbl (V (h + 1)) ≤ 600000) (hsc : -1000000 ≤ S h 2 ∧ S h 2 ≤ 1000000) (hl : -1000000 ≤ S g 0 ∧ S g 0 ≤ 1000000) (hx : (xbl (V (h + 1)) : Int) + S h 2 ≤ S g 0 - 1) (hf : upU (V (h + 1)) ((xbl (V (h + 1)) : Int) + S h 2) (S g 0) (S h 3) (S h 0) mode = false) : ∃ w', xRun (d + 6) 50 [Value.ref g, Value.ref t, Value.ref h, Value.int (Int32.ofInt mode)] w (.inl (some (.int (Int32.ofInt (-1))))) w' ∧ cX w0 L Z (u2 (u2 (u2 S g 3 (zor (S g 3) 4)) t 1 2) t 2 (S h 0)) V w' := by
  have key : ∀ lv, xld lv 0 = some (Value.ref g) → xld lv 1 = some (Value.ref t) → xld lv 2 = some (Value.ref h) → xld lv 3 = some (Value.int (Int32.ofInt mode)) → xEv (d + 6) 50 0 lv [] w (fun o w' => o = .inl (some (.int (Int32.ofInt (-1)))) ∧ cX w0 L Z (u2 (u2 (u2 S g 3 (zor (S g 3) 4)) t 1 2) t 2 (S h 0)) V w') := by
    intro lv l0 l1 l2 l3
    have n1 : t ≠ h := kd_ne ht hk (by decide)
    have n2 : t ≠ g := kd_ne ht hg (by decide)
    have n3 : g ≠ h := kd_ne hg hk (by decide)
    have n4 : t ≠ h + 1 := kd_ne ht (kd_rl hk) (by decide)
    have n5 : t + 1 ≠ h := kd_ne (kd_rg ht) hk (by decide)
    have n6 : t + 1 ≠ g := kd_ne (kd_rg ht) hg (by decide)
    refine i_50_0 (x := g) l0 ?_
    refine i_50_1 rfl ?_
    refine i_50_2 (v := Value.int (Int32.ofInt (S g 3))) (hR.k1 hg) rfl ?_
    refine i_50_5 ?_
    refine i_50_6 (c := Int32.ofInt (zor (S g 3) 4)) (o_or (S g 3) 4) ?_
    refine i_50_7 (fs2 := f1 (u1 (S g) 3 (zor (S g 3) 4))) (hR.k1 hg) (Nat.le_of_ble_eq_true rfl) rfl (h7k hg (by decide)) ?_
    refine xgen (P := cX w0 L Z (u2 S g 3 (zor (S g 3) 4)) V) (hR.p1 hg) (fun w hR => ?_)
    refine i_50_10 (x := Int32.ofInt mode) l3 ?_
    refine i_50_11 (x := h) l2 ?_
    refine i_50_12 (v := Value.int (Int32.ofInt ((u2 S g 3 (zor (S g 3) 4)) h 0))) (hR.k4 hk) rfl ?_
    rw [show Int32.ofInt ((u2 S g 3 (zor (S g 3) 4)) h 0) = Int32.ofInt (S h 0) by rw [u2_eq, if_neg (by omega)]]
    have hrun := x_isOut (d := d + 5) (w := w) (way := mode) (neg := S h 0) ⟨by omega, by omega⟩ (by first | omega | exact bb_01 _)
    refine i_50_15 (Nat.le_of_ble_eq_true rfl) hrun ?_
    refine i_50_18 rfl ?_
    refine lgen1 (i := 4) (v := Value.int (Int32.ofInt (bb (away mode (S h 0))))) (fun lv lg ls => ?_)
    replace l0 := lg 0 _ rfl rfl l0
    replace l1 := lg 1 _ rfl rfl l1
    replace l2 := lg 2 _ rfl rfl l2
    replace l3 := lg 3 _ rfl rfl l3
    have l4 := ls
    refine i_50_20 (x := Int32.ofInt mode) l3 ?_
    refine i_50_21 (z_ne (a := mode) ⟨by omega, by omega⟩ fun c0 => ?_) (z_eq (a := mode) ⟨by omega, by omega⟩ fun c0 => ?_)
    · refine i_50_82 (x := Int32.ofInt (bb (away mode (S h 0)))) l4 ?_
      refine i_50_84 (zb_f fun c1 => ?_) (zb_t fun c1 => ?_)
      · refine i_50_101 (x := t) l1 ?_
        refine i_50_102 (x := h) l2 ?_
        refine i_50_103 (v := Value.int (Int32.ofInt ((u2 S g 3 (zor (S g 3) 4)) h 0))) (hR.k4 hk) rfl ?_
        rw [show Int32.ofInt ((u2 S g 3 (zor (S g 3) 4)) h 0) = Int32.ofInt (S h 0) by rw [u2_eq, if_neg (by omega)]]
        have hobj := hR.k2 ht
        obtain ⟨w, hrun, hR⟩ := x_zero (d := d + 4) (t := t) (sg := S h 0) hR ht (by first | omega | exact bb_01 _)
        refine i_50_106 hobj (Nat.le_of_ble_eq_true rfl) hrun ?_
        refine i_50_109 rfl ?_
        refine i_50_110 ?_
        refine i_50_111 ?_
        first | exact ⟨rfl, hR⟩ | (exfalso; clear hR; grind [upU, away])
      · refine i_50_87 (x := t) l1 ?_
        refine i_50_88 (x := h) l2 ?_
        refine i_50_89 (v := Value.int (Int32.ofInt ((u2 S g 3 (zor (S g 3) 4)) h 0))) (hR.k4 hk) rfl ?_
        rw [show Int32.ofInt ((u2 S g 3 (zor (S g 3) 4)) h 0) = Int32.ofInt (S h 0) by rw [u2_eq, if_neg (by omega)]]
        refine i_50_92 (x := g) l0 ?_
        refine i_50_93 (v := Value.int (Int32.ofInt ((u2 S g 3 (zor (S g 3) 4)) g 0))) (hR.k1 hg) rfl ?_
        rw [show Int32.ofInt ((u2 S g 3 (zor (S g 3) 4)) g 0) = Int32.ofInt (S g 0) by rw [u2_eq, if_neg (by omega)]]
        have hobj := hR.k2 ht
        have ep : (u2 S g 3 (zor (S g 3) 4)) t 0 = S t 0 := by rw [u2_eq, if_neg (by omega)]
        obtain ⟨w, hrun, hR⟩ := x_pow2 (d := d + 1) (t := t) (sg := S h 0) (pw := S g 0) hR ht (by first | omega | exact bb_01 _) (by rw [ep]; omega)
        rw [ep] at hR
        refine i_50_96 hobj (Nat.le_of_ble_eq_true rfl) hrun ?_
        refine i_50_99 ?_
        refine i_50_100 ?_
        exfalso
        clear hR
        grind [upU, away]
    · refine i_50_24 (x := h) l2 ?_
      refine i_50_25 (v := Value.int (Int32.ofInt ((u2 S g 3 (zor (S g 3) 4)) h 3))) (hR.k4 hk) rfl ?_
      rw [show Int32.ofInt ((u2 S g 3 (zor (S g 3) 4)) h 3) = Int32.ofInt (S h 3) by rw [u2_eq, if_neg (by omega)]]
      refine i_50_28 (z_ne (a := S h 3) ⟨by omega, by omega⟩ fun c2 => ?_) (z_eq (a := S h 3) ⟨by omega, by omega⟩ fun c2 => ?_)
      · refine i_50_54 ?_
        refine i_50_55 rfl ?_
        refine lgen1 (i := 5) (v := Value.int 0) (fun lv lg ls => ?_)
        replace l4 := lg 4 _ rfl rfl l4
        replace l0 := lg 0 _ rfl rfl l0
        replace l1 := lg 1 _ rfl rfl l1
        replace l2 := lg 2 _ rfl rfl l2
        replace l3 := lg 3 _ rfl rfl l3
        have l5 := ls
        refine i_50_57 (x := h) l2 ?_
        have hobj := hR.k4 hk
        have hrun := x_exp (d := d + 3) (h := h) hR hk
        rw [show (u2 S g 3 (zor (S g 3) 4)) h 2 = S h 2 by rw [u2_eq, if_neg (by omega)], show V (h + 1) = V (h + 1) from rfl] at hrun
        refine i_50_58 hobj (Nat.le_of_ble_eq_true rfl) hrun ?_
        refine i_50_61 (x := g) l0 ?_
        refine i_50_62 (v := Value.int (Int32.ofInt ((u2 S g 3 (zor (S g 3) 4)) g 0))) (hR.k1 hg) rfl ?_
        rw [show Int32.ofInt ((u2 S g 3 (zor (S g 3) 4)) g 0) = Int32.ofInt (S g 0) by rw [u2_eq, if_neg (by omega)]]
        refine i_50_65 ?_
        refine i_50_66 (c := Int32.ofInt ((S g 0) - 1)) (o_sub (S g 0) 1) ?_
        refine i_50_67 (b_ne (a := (xbl (V (h + 1)) : Int) + S h 2) (b := (S g 0) - 1) ⟨by omega, by omega⟩ ⟨by omega, by omega⟩ fun c3 => ?_) (b_eq (a := (xbl (V (h + 1)) : Int) + S h 2) (b := (S g 0) - 1) ⟨by omega, by omega⟩ ⟨by omega, by omega⟩ fun c3 => ?_)
        · refine i_50_79 ?_
          refine i_50_80 rfl ?_
          refine lgen1 (i := 4) (v := Value.int 0) (fun lv lg ls => ?_)
          replace l5 := lg 5 _ rfl rfl l5
          replace l0 := lg 0 _ rfl rfl l0
          replace l1 := lg 1 _ rfl rfl l1
          replace l2 := lg 2 _ rfl rfl l2
          replace l3 := lg 3 _ rfl rfl l3
          have l4 := ls
          refine i_50_82 (x := 0) l4 ?_
          refine i_50_84 (fun _ => ?_) (fun c => absurd c (by decide))
          refine i_50_101 (x := t) l1 ?_
          refine i_50_102 (x := h) l2 ?_
          refine i_50_103 (v := Value.int (Int32.ofInt ((u2 S g 3 (zor (S g 3) 4)) h 0))) (hR.k4 hk) rfl ?_
          rw [show Int32.ofInt ((u2 S g 3 (zor (S g 3) 4)) h 0) = Int32.ofInt (S h 0) by rw [u2_eq, if_neg (by omega)]]
          have hobj := hR.k2 ht
          obtain ⟨w, hrun, hR⟩ := x_zero (d := d + 4) (t := t) (sg := S h 0) hR ht (by first | omega | exact bb_01 _)
          refine i_50_106 hobj (Nat.le_of_ble_eq_true rfl) hrun ?_
          refine i_50_109 rfl ?_
          refine i_50_110 ?_
          refine i_50_111 ?_
          first | exact ⟨rfl, hR⟩ | (exfalso; clear hR; grind [upU, away])
        · refine i_50_70 (x := 0) l5 ?_
          refine i_50_72 (fun c => absurd c (by decide)) (fun _ => ?_)
          refine i_50_75 ?_
          refine i_50_76 ?_
          refine i_50_80 rfl ?_
          refine lgen1 (i := 4) (v := Value.int 1) (fun lv lg ls => ?_)
          replace l5 := lg 5 _ rfl rfl l5
          replace l0 := lg 0 _ rfl rfl l0
          replace l1 := lg 1 _ rfl rfl l1
          replace l2 := lg 2 _ rfl rfl l2
          replace l3 := lg 3 _ rfl rfl l3
          have l4 := ls
          refine i_50_82 (x := 1) l4 ?_
          refine i_50_84 (fun c => absurd c (by decide)) (fun _ => ?_)
          refine i_50_87 (x := t) l1 ?_
          refine i_50_88 (x := h) l2 ?_
          refine i_50_89 (v := Value.int (Int32.ofInt ((u2 S g 3 (zor (S g 3) 4)) h 0))) (hR.k4 hk) rfl ?_
          rw [show Int32.ofInt ((u2 S g 3 (zor (S g 3) 4)) h 0) = Int32.ofInt (S h 0) by rw [u2_eq, if_neg (by omega)]]
          refine i_50_92 (x := g) l0 ?_
          refine i_50_93 (v := Value.int (Int32.ofInt ((u2 S g 3 (zor (S g 3) 4)) g 0))) (hR.k1 hg) rfl ?_
          rw [show Int32.ofInt ((u2 S g 3 (zor (S g 3) 4)) g 0) = Int32.ofInt (S g 0) by rw [u2_eq, if_neg (by omega)]]
          have hobj := hR.k2 ht
          have ep : (u2 S g 3 (zor (S g 3) 4)) t 0 = S t 0 := by rw [u2_eq, if_neg (by omega)]
          obtain ⟨w, hrun, hR⟩ := x_pow2 (d := d + 1) (t := t) (sg := S h 0) (pw := S g 0) hR ht (by first | omega | exact bb_01 _) (by rw [ep]; omega)
          rw [ep] at hR
          refine i_50_96 hobj (Nat.le_of_ble_eq_true rfl) hrun ?_
          refine i_50_99 ?_
          refine i_50_100 ?_
          exfalso
          clear hR
          grind [upU, away]
      · refine i_50_31 (x := h) l2 ?_
        refine i_50_32 (v := Value.ref (h + 1)) (hR.k4 hk) rfl ?_
        obtain ⟨fs, hobj⟩ := hR.nat (kd_rl hk)
        obtain ⟨z5, K5, hrun, hzK5⟩ := X_zeros (d := d + 4) (h := h + 1) (u := V (h + 1)) hR (kd_rl hk) (rfl)
        have hzp : ((z5 : Int) = (xbl (V (h + 1)) : Int) - 1) ↔ nany (V (h + 1)) ((xbl (V (h + 1)) : Int) - 1) = false := by
          rcases hzK5 with g | g
          · exact absurd g.1 hm0
          · exact zp hm0 g
        have hzl : z5 ≤ 600000 := zk_le hzK5 (by omega)
        refine i_50_35 hobj (Nat.le_of_ble_eq_true rfl) hrun ?_
        refine i_50_38 (x := h) l2 ?_
        refine i_50_39 (v := Value.ref (h + 1)) (hR.k4 hk) rfl ?_
        obtain ⟨fs, hobj⟩ := hR.nat (kd_rl hk)
        have hrun := X_bits (d := d + 4) (h := h + 1) (u := V (h + 1)) hR (kd_rl hk) (rfl)
        refine i_50_42 hobj (Nat.le_of_ble_eq_true rfl) hrun ?_
        refine i_50_45 ?_
        refine i_50_46 (c := Int32.ofInt ((xbl (V (h + 1)) : Int) - 1)) (o_sub (xbl (V (h + 1)) : Int) 1) ?_
        refine i_50_47 (b_ne (a := (z5 : Int)) (b := (xbl (V (h + 1)) : Int) - 1) ⟨by omega, by omega⟩ ⟨by omega, by omega⟩ fun c5 => ?_) (b_eq (a := (z5 : Int)) (b := (xbl (V (h + 1)) : Int) - 1) ⟨by omega, by omega⟩ ⟨by omega, by omega⟩ fun c5 => ?_)
        · refine i_50_54 ?_
          refine i_50_55 rfl ?_
          refine lgen1 (i := 5) (v := Value.int 0) (fun lv lg ls => ?_)
          replace l4 := lg 4 _ rfl rfl l4
          replace l0 := lg 0 _ rfl rfl l0
          replace l1 := lg 1 _ rfl rfl l1
          replace l2 := lg 2 _ rfl rfl l2
          replace l3 := lg 3 _ rfl rfl l3
          have l5 := ls
          refine i_50_57 (x := h) l2 ?_
          have hobj := hR.k4 hk
          have hrun := x_exp (d := d + 3) (h := h) hR hk
          rw [show (u2 S g 3 (zor (S g 3) 4)) h 2 = S h 2 by rw [u2_eq, if_neg (by omega)], show V (h + 1) = V (h + 1) from rfl] at hrun
          refine i_50_58 hobj (Nat.le_of_ble_eq_true rfl) hrun ?_
          refine i_50_61 (x := g) l0 ?_
          refine i_50_62 (v := Value.int (Int32.ofInt ((u2 S g 3 (zor (S g 3) 4)) g 0))) (hR.k1 hg) rfl ?_
          rw [show Int32.ofInt ((u2 S g 3 (zor (S g 3) 4)) g 0) = Int32.ofInt (S g 0) by rw [u2_eq, if_neg (by omega)]]
          refine i_50_65 ?_
          refine i_50_66 (c := Int32.ofInt ((S g 0) - 1)) (o_sub (S g 0) 1) ?_
          refine i_50_67 (b_ne (a := (xbl (V (h + 1)) : Int) + S h 2) (b := (S g 0) - 1) ⟨by omega, by omega⟩ ⟨by omega, by omega⟩ fun c6 => ?_) (b_eq (a := (xbl (V (h + 1)) : Int) + S h 2) (b := (S g 0) - 1) ⟨by omega, by omega⟩ ⟨by omega, by omega⟩ fun c6 => ?_)
          · refine i_50_79 ?_
            refine i_50_80 rfl ?_
            refine lgen1 (i := 4) (v := Value.int 0) (fun lv lg ls => ?_)
            replace l5 := lg 5 _ rfl rfl l5
            replace l0 := lg 0 _ rfl rfl l0
            replace l1 := lg 1 _ rfl rfl l1
            replace l2 := lg 2 _ rfl rfl l2
            replace l3 := lg 3 _ rfl rfl l3
            have l4 := ls
            refine i_50_82 (x := 0) l4 ?_
            refine i_50_84 (fun _ => ?_) (fun c => absurd c (by decide))
            refine i_50_101 (x := t) l1 ?_
            refine i_50_102 (x := h) l2 ?_
            refine i_50_103 (v := Value.int (Int32.ofInt ((u2 S g 3 (zor (S g 3) 4)) h 0))) (hR.k4 hk) rfl ?_
            rw [show Int32.ofInt ((u2 S g 3 (zor (S g 3) 4)) h 0) = Int32.ofInt (S h 0) by rw [u2_eq, if_neg (by omega)]]
            have hobj := hR.k2 ht
            obtain ⟨w, hrun, hR⟩ := x_zero (d := d + 4) (t := t) (sg := S h 0) hR ht (by first | omega | exact bb_01 _)
            refine i_50_106 hobj (Nat.le_of_ble_eq_true rfl) hrun ?_
            refine i_50_109 rfl ?_
            refine i_50_110 ?_
            refine i_50_111 ?_
            first | exact ⟨rfl, hR⟩ | (exfalso; clear hR; grind [upU, away])
          · refine i_50_70 (x := 0) l5 ?_
            refine i_50_72 (fun c => absurd c (by decide)) (fun _ => ?_)
            refine i_50_75 ?_
            refine i_50_76 ?_
            refine i_50_80 rfl ?_
            refine lgen1 (i := 4) (v := Value.int 1) (fun lv lg ls => ?_)
            replace l5 := lg 5 _ rfl rfl l5
            replace l0 := lg 0 _ rfl rfl l0
            replace l1 := lg 1 _ rfl rfl l1
            replace l2 := lg 2 _ rfl rfl l2
            replace l3 := lg 3 _ rfl rfl l3
            have l4 := ls
            refine i_50_82 (x := 1) l4 ?_
            refine i_50_84 (fun c => absurd c (by decide)) (fun _ => ?_)
            refine i_50_87 (x := t) l1 ?_
            refine i_50_88 (x := h) l2 ?_
            refine i_50_89 (v := Value.int (Int32.ofInt ((u2 S g 3 (zor (S g 3) 4)) h 0))) (hR.k4 hk) rfl ?_
            rw [show Int32.ofInt ((u2 S g 3 (zor (S g 3) 4)) h 0) = Int32.ofInt (S h 0) by rw [u2_eq, if_neg (by omega)]]
            refine i_50_92 (x := g) l0 ?_
            refine i_50_93 (v := Value.int (Int32.ofInt ((u2 S g 3 (zor (S g 3) 4)) g 0))) (hR.k1 hg) rfl ?_
            rw [show Int32.ofInt ((u2 S g 3 (zor (S g 3) 4)) g 0) = Int32.ofInt (S g 0) by rw [u2_eq, if_neg (by omega)]]
            have hobj := hR.k2 ht
            have ep : (u2 S g 3 (zor (S g 3) 4)) t 0 = S t 0 := by rw [u2_eq, if_neg (by omega)]
            obtain ⟨w, hrun, hR⟩ := x_pow2 (d := d + 1) (t := t) (sg := S h 0) (pw := S g 0) hR ht (by first | omega | exact bb_01 _) (by rw [ep]; omega)
            rw [ep] at hR
            refine i_50_96 hobj (Nat.le_of_ble_eq_true rfl) hrun ?_
            refine i_50_99 ?_
            refine i_50_100 ?_
            exfalso
            clear hR
            grind [upU, away]
        · refine i_50_50 ?_
          refine i_50_51 ?_
          refine i_50_55 rfl ?_
          refine lgen1 (i := 5) (v := Value.int 1) (fun lv lg ls => ?_)
          replace l4 := lg 4 _ rfl rfl l4
          replace l0 := lg 0 _ rfl rfl l0
          replace l1 := lg 1 _ rfl rfl l1
          replace l2 := lg 2 _ rfl rfl l2
          replace l3 := lg 3 _ rfl rfl l3
          have l5 := ls
          refine i_50_57 (x := h) l2 ?_
          have hobj := hR.k4 hk
          have hrun := x_exp (d := d + 3) (h := h) hR hk
          rw [show (u2 S g 3 (zor (S g 3) 4)) h 2 = S h 2 by rw [u2_eq, if_neg (by omega)], show V (h + 1) = V (h + 1) from rfl] at hrun
          refine i_50_58 hobj (Nat.le_of_ble_eq_true rfl) hrun ?_
          refine i_50_61 (x := g) l0 ?_
          refine i_50_62 (v := Value.int (Int32.ofInt ((u2 S g 3 (zor (S g 3) 4)) g 0))) (hR.k1 hg) rfl ?_
          rw [show Int32.ofInt ((u2 S g 3 (zor (S g 3) 4)) g 0) = Int32.ofInt (S g 0) by rw [u2_eq, if_neg (by omega)]]
          refine i_50_65 ?_
          refine i_50_66 (c := Int32.ofInt ((S g 0) - 1)) (o_sub (S g 0) 1) ?_
          refine i_50_67 (b_ne (a := (xbl (V (h + 1)) : Int) + S h 2) (b := (S g 0) - 1) ⟨by omega, by omega⟩ ⟨by omega, by omega⟩ fun c7 => ?_) (b_eq (a := (xbl (V (h + 1)) : Int) + S h 2) (b := (S g 0) - 1) ⟨by omega, by omega⟩ ⟨by omega, by omega⟩ fun c7 => ?_)
          · refine i_50_79 ?_
            refine i_50_80 rfl ?_
            refine lgen1 (i := 4) (v := Value.int 0) (fun lv lg ls => ?_)
            replace l5 := lg 5 _ rfl rfl l5
            replace l0 := lg 0 _ rfl rfl l0
            replace l1 := lg 1 _ rfl rfl l1
            replace l2 := lg 2 _ rfl rfl l2
            replace l3 := lg 3 _ rfl rfl l3
            have l4 := ls
            refine i_50_82 (x := 0) l4 ?_
            refine i_50_84 (fun _ => ?_) (fun c => absurd c (by decide))
            refine i_50_101 (x := t) l1 ?_
            refine i_50_102 (x := h) l2 ?_
            refine i_50_103 (v := Value.int (Int32.ofInt ((u2 S g 3 (zor (S g 3) 4)) h 0))) (hR.k4 hk) rfl ?_
            rw [show Int32.ofInt ((u2 S g 3 (zor (S g 3) 4)) h 0) = Int32.ofInt (S h 0) by rw [u2_eq, if_neg (by omega)]]
            have hobj := hR.k2 ht
            obtain ⟨w, hrun, hR⟩ := x_zero (d := d + 4) (t := t) (sg := S h 0) hR ht (by first | omega | exact bb_01 _)
            refine i_50_106 hobj (Nat.le_of_ble_eq_true rfl) hrun ?_
            refine i_50_109 rfl ?_
            refine i_50_110 ?_
            refine i_50_111 ?_
            first | exact ⟨rfl, hR⟩ | (exfalso; clear hR; grind [upU, away])
          · refine i_50_70 (x := 1) l5 ?_
            refine i_50_72 (fun _ => ?_) (fun c => absurd c (by decide))
            refine i_50_79 ?_
            refine i_50_80 rfl ?_
            refine lgen1 (i := 4) (v := Value.int 0) (fun lv lg ls => ?_)
            replace l5 := lg 5 _ rfl rfl l5
            replace l0 := lg 0 _ rfl rfl l0
            replace l1 := lg 1 _ rfl rfl l1
            replace l2 := lg 2 _ rfl rfl l2
            replace l3 := lg 3 _ rfl rfl l3
            have l4 := ls
            refine i_50_82 (x := 0) l4 ?_
            refine i_50_84 (fun _ => ?_) (fun c => absurd c (by decide))
            refine i_50_101 (x := t) l1 ?_
            refine i_50_102 (x := h) l2 ?_
            refine i_50_103 (v := Value.int (Int32.ofInt ((u2 S g 3 (zor (S g 3) 4)) h 0))) (hR.k4 hk) rfl ?_
            rw [show Int32.ofInt ((u2 S g 3 (zor (S g 3) 4)) h 0) = Int32.ofInt (S h 0) by rw [u2_eq, if_neg (by omega)]]
            have hobj := hR.k2 ht
            obtain ⟨w, hrun, hR⟩ := x_zero (d := d + 4) (t := t) (sg := S h 0) hR ht (by first | omega | exact bb_01 _)
            refine i_50_106 hobj (Nat.le_of_ble_eq_true rfl) hrun ?_
            refine i_50_109 rfl ?_
            refine i_50_110 ?_
            refine i_50_111 ?_
            first | exact ⟨rfl, hR⟩ | (exfalso; clear hR; grind [upU, away])
  obtain ⟨o, w', h1, rfl, h2⟩ := (key (lv_args 0 [Value.ref g, Value.ref t, Value.ref h, Value.int (Int32.ofInt mode)]) rfl rfl rfl rfl).run
  exact ⟨w', h1, h2⟩
end
