/-! raise of the reference -/
theorem o_bit {n : Int} {k : Nat} (h0 : 0 ≤ n) (h1 : n < 2147483648) (hk : k < 31) : ((Int32.ofInt n) >>> (Int32.ofInt (k : Int) &&& 31)) &&& (1 : Int32) = Int32.ofInt ((n.toNat / 2 ^ k % 2 : Nat) : Int) := by
  have en := oI (k := n) (by omega) h1
  have ek := oI (k := (k : Int)) (by omega) (by omega)
  have hs := xi_shr (x := Int32.ofInt n) (p := Int32.ofInt (k : Int)) (q := k) (by omega) ek (by omega)
  have ha := xun_and1 ((Int32.ofInt n) >>> (Int32.ofInt (k : Int) &&& 31))
  have hx := xun_i (x := Int32.ofInt n) (by omega)
  rw [hs, show xun (Int32.ofInt n) = n.toNat by omega] at ha
  apply xun_inj
  rw [ha, oNn, xun_of (by omega)]
theorem s_nlz {d : Nat} {w : xW} {n : Int} (h0 : 0 < n) (h1 : n < 2147483648) : xRun d 277 [.int (Int32.ofInt n)] w (.inl (some (.int (Int32.ofInt (32 - (xbl n.toNat : Int)))))) w := by
  have h := nlz_run (d := d) (w := w) (x := Int32.ofInt n)
  have en := oI (k := n) (by omega) h1
  have hx := xun_i (x := Int32.ofInt n) (by omega)
  have e : xnlz (Int32.ofInt n) = Int32.ofInt (32 - (xbl n.toNat : Int)) := by
    apply Int32.toInt_inj.mp
    have hb : xbl n.toNat ≤ 31 := xbl_le (by omega)
    rw [xnlz_i, show xun (Int32.ofInt n) = n.toNat by omega, oI (by omega) (by omega)]
  rwa [e] at h
theorem xbl_sq (a : Nat) : 2 * xbl a ≤ xbl (a * a) + 1 := by
  by_cases h : a = 0
  · subst h; decide
  · have h1 := xbl_of h
    have h2 : 2 ^ (xbl a - 1 + (xbl a - 1)) ≤ a * a := by rw [Nat.pow_add]; exact Nat.mul_le_mul h1.1 h1.1
    have := xbl_ge h2
    omega
theorem xbl_mulge {a b : Nat} (ha : a ≠ 0) (hb : b ≠ 0) : xbl a + xbl b ≤ xbl (a * b) + 1 := by
  have h1 := xbl_of ha
  have h3 := xbl_of hb
  have h2 : 2 ^ (xbl a - 1 + (xbl b - 1)) ≤ a * b := by rw [Nat.pow_add]; exact Nat.mul_le_mul h1.1 h3.1
  have := xbl_ge h2
  omega
theorem pow_le_b {x j n : Nat} (hx : x ≠ 0) (h : j ≤ n) : xbl (x ^ j) ≤ xbl (x ^ n) := xbl_mono (Nat.pow_le_pow_right (by omega) h)
theorem pw2 (x j : Nat) : x ^ j * x ^ j = x ^ (2 * j) := by rw [Nat.two_mul, Nat.pow_add]
theorem pw21 (x j : Nat) : x ^ j * x ^ j * x = x ^ (2 * j + 1) := by rw [pw2, Nat.pow_succ]
theorem half_step (n k : Nat) : n / 2 ^ k = 2 * (n / 2 ^ (k + 1)) + n / 2 ^ k % 2 := by
  rw [Nat.pow_succ, ← Nat.div_div_eq_div_mul]
  omega
theorem ra_loop {d : Nat} {w0 : xW} {S : Nat → Nat → Int} {V : Nat → Nat} {h x : Nat} {n : Int} {Q : Option Value ⊕ Nat → xW → Prop} (hh : isN h) (a1 : h ≠ 141) (a2 : h ≠ 151) (hv : V h = x) (hx : x ≠ 0) (hn0 : 0 ≤ n) (hn1 : n < 2147483648) (hb : xbl (x ^ n.toNat) ≤ 135000) (hQ : ∀ w u, mR w0 S (uv (uv V 151 u) 141 (x ^ n.toNat)) w → Q (.inl none) w) (k : Nat) : ∀ (lv : xLv) (w : xW) (u : Nat), k ≤ 31 → xld lv 0 = some (Value.ref 128) → xld lv 1 = some (Value.ref h) → xld lv 2 = some (Value.int (Int32.ofInt n)) → xld lv 3 = some (Value.int (Int32.ofInt ((k : Int) - 1))) → mR w0 S (uv (uv V 151 u) 141 (x ^ (n.toNat / 2 ^ k))) w → xEv (d + 3) 206 18 lv [] w Q := by
  induction k with
  | zero =>
    intro lv w u hk l0 l1 l2 l3 hR
    refine i_206_18 (x := Int32.ofInt (((0 : Nat) : Int) - 1)) l3 ?_
    refine i_206_19 (z_lt (a := ((0 : Nat) : Int) - 1) ⟨by omega, by omega⟩ fun c0 => ?_) (z_ge (a := ((0 : Nat) : Int) - 1) ⟨by omega, by omega⟩ fun c0 => absurd c0 (by omega))
    refine i_206_88 ?_
    refine hQ _ u ?_
    rw [Nat.pow_zero, Nat.div_one] at hR
    exact hR
  | succ k ih =>
    intro lv w u hk l0 l1 l2 l3 hR
    have ek : (((k + 1 : Nat) : Int) - 1) = (k : Int) := by omega
    obtain ⟨P, hP⟩ : ∃ P, P = x ^ (n.toNat / 2 ^ (k + 1)) := ⟨_, rfl⟩
    have hstep := half_step n.toNat k
    have hle : n.toNat / 2 ^ k ≤ n.toNat := Nat.div_le_self _ _
    have hP0 : P ≠ 0 := by rw [hP]; exact Nat.pos_iff_ne_zero.mp (Nat.pow_pos (Nat.pos_of_ne_zero hx))
    have b1 : xbl (P * P) ≤ 135000 := by
      have : P * P = x ^ (2 * (n.toNat / 2 ^ (k + 1))) := by rw [hP]; exact pw2 _ _
      rw [this]
      exact Nat.le_trans (pow_le_b hx (by omega)) hb
    have b2 := xbl_sq P
    have hPP : P * P ≠ 0 := Nat.mul_ne_zero hP0 hP0
    have b3 : n.toNat / 2 ^ k % 2 = 1 → xbl (P * P * x) ≤ 135000 := fun h1 => by
      have : P * P * x = x ^ (2 * (n.toNat / 2 ^ (k + 1)) + 1) := by rw [hP]; exact pw21 _ _
      rw [this]
      exact Nat.le_trans (pow_le_b hx (by omega)) hb
    have b4 := xbl_mulge hPP hx
    rw [← hP] at hR
    refine i_206_18 (x := Int32.ofInt (((k + 1 : Nat) : Int) - 1)) l3 ?_
    refine i_206_19 (z_lt (a := ((k + 1 : Nat) : Int) - 1) ⟨by omega, by omega⟩ fun c0 => absurd c0 (by omega)) (z_ge (a := ((k + 1 : Nat) : Int) - 1) ⟨by omega, by omega⟩ fun c0 => ?_)
    refine i_206_22 (x := 128) l0 ?_
    refine i_206_23 (v := Value.ref 151) hR.c128 rfl ?_
    refine i_206_26 (x := 128) l0 ?_
    refine i_206_27 (v := Value.ref 141) hR.c128 rfl ?_
    refine i_206_30 (x := 128) l0 ?_
    refine i_206_31 (v := Value.ref 141) hR.c128 rfl ?_
    obtain ⟨fs, hobj⟩ := hR.obj (h := 151) (iNw (h := 151) (by decide) (by decide) (by decide))
    obtain ⟨w, hrun, hR⟩ := r_prod (d := d) (v2 := P) (v3 := P) (c := 4700) hR (iNw (h := 151) (by decide) (by decide) (by decide)) (iNw (h := 141) (by decide) (by decide) (by decide)) (iNw (h := 141) (by decide) (by decide) (by decide)) (by omega) (by omega) (uv_s) (uv_s) rfl (by omega)
    refine i_206_34 hobj (Nat.le_of_ble_eq_true rfl) hrun ?_
    refine i_206_37 (x := 128) l0 ?_
    refine i_206_38 (v := Value.ref 141) hR.c128 rfl ?_
    refine i_206_41 (x := 128) l0 ?_
    refine i_206_42 (v := Value.ref 151) hR.c128 rfl ?_
    obtain ⟨fs, hobj⟩ := hR.obj (h := 141) (iNw (h := 141) (by decide) (by decide) (by decide))
    obtain ⟨w, hrun, hR⟩ := r_setn (d := d) (v := P * P) (c := 4700) hR (iNw (h := 141) (by decide) (by decide) (by decide)) (iNw (h := 151) (by decide) (by decide) (by decide)) (uv_s) rfl (by omega)
    refine i_206_45 hobj (Nat.le_of_ble_eq_true rfl) hrun ?_
    refine i_206_48 (x := Int32.ofInt n) l2 ?_
    refine i_206_49 (x := Int32.ofInt (((k + 1 : Nat) : Int) - 1)) l3 ?_
    refine i_206_50 rfl ?_
    refine i_206_51 ?_
    refine i_206_52 (c := Int32.ofInt ((n.toNat / 2 ^ k % 2 : Nat) : Int)) (by rw [ek]; exact o_bit hn0 hn1 (by omega)) ?_
    refine i_206_53 (z_ne (a := ((n.toNat / 2 ^ k % 2 : Nat) : Int)) ⟨by omega, by omega⟩ fun c1 => ?_) (z_eq (a := ((n.toNat / 2 ^ k % 2 : Nat) : Int)) ⟨by omega, by omega⟩ fun c1 => ?_)
    · refine i_206_59 (x := 128) l0 ?_
      refine i_206_60 (v := Value.ref 151) hR.c128 rfl ?_
      refine i_206_63 (x := 128) l0 ?_
      refine i_206_64 (v := Value.ref 141) hR.c128 rfl ?_
      refine i_206_67 (x := h) l1 ?_
      obtain ⟨fs, hobj⟩ := hR.obj (h := 151) (iNw (h := 151) (by decide) (by decide) (by decide))
      obtain ⟨w, hrun, hR⟩ := r_prod (d := d) (v2 := P * P) (v3 := x) (c := 4700) hR (iNw (h := 151) (by decide) (by decide) (by decide)) (iNw (h := 141) (by decide) (by decide) (by decide)) hh (by omega) (by omega) (uv_s) ((uv_n (by omega)).trans ((uv_n (by omega)).trans ((uv_n (by omega)).trans ((uv_n (by omega)).trans (hv))))) rfl (by have := b3 (by omega); omega)
      refine i_206_68 hobj (Nat.le_of_ble_eq_true rfl) hrun ?_
      refine i_206_71 (x := 128) l0 ?_
      refine i_206_72 (v := Value.ref 141) hR.c128 rfl ?_
      refine i_206_75 (x := 128) l0 ?_
      refine i_206_76 (v := Value.ref 151) hR.c128 rfl ?_
      obtain ⟨fs, hobj⟩ := hR.obj (h := 141) (iNw (h := 141) (by decide) (by decide) (by decide))
      obtain ⟨w, hrun, hR⟩ := r_setn (d := d) (v := (P * P) * x) (c := 4700) hR (iNw (h := 141) (by decide) (by decide) (by decide)) (iNw (h := 151) (by decide) (by decide) (by decide)) (uv_s) rfl (by have := b3 (by omega); omega)
      refine i_206_79 hobj (Nat.le_of_ble_eq_true rfl) hrun ?_
      refine i_206_82 (x := (Int32.ofInt (((k + 1 : Nat) : Int) - 1))) (c := (Int32.ofInt (((k + 1 : Nat) : Int) - 1 + (-1)))) l3 (o_dec (((k + 1 : Nat) : Int) - 1)) rfl ?_
      refine lgen1 (i := 3) (v := Value.int (Int32.ofInt (((k + 1 : Nat) : Int) - 1 + (-1)))) (fun lv lg ls => ?_)
      replace l0 := lg 0 _ rfl rfl l0
      replace l1 := lg 1 _ rfl rfl l1
      replace l2 := lg 2 _ rfl rfl l2
      have l3 := ls
      refine i_206_85 ?_
      have hR2 := hR
      simp only [uvv, uv_comm (a := 141) (b := 151) (by decide)] at hR2
      have e1 : n.toNat / 2 ^ k = 2 * (n.toNat / 2 ^ (k + 1)) + 1 := by omega
      have e2 : (P * P) * x = x ^ (n.toNat / 2 ^ k) := by rw [e1, hP]; exact pw21 _ _
      exact ih _ _ ((P * P) * x) (by omega) l0 l1 l2 (by rw [show (k : Int) - 1 = ((k + 1 : Nat) : Int) - 1 + (-1) by omega]; exact l3) (e2 ▸ hR2)
    · refine i_206_56 ?_
      refine i_206_82 (x := (Int32.ofInt (((k + 1 : Nat) : Int) - 1))) (c := (Int32.ofInt (((k + 1 : Nat) : Int) - 1 + (-1)))) l3 (o_dec (((k + 1 : Nat) : Int) - 1)) rfl ?_
      refine lgen1 (i := 3) (v := Value.int (Int32.ofInt (((k + 1 : Nat) : Int) - 1 + (-1)))) (fun lv lg ls => ?_)
      replace l0 := lg 0 _ rfl rfl l0
      replace l1 := lg 1 _ rfl rfl l1
      replace l2 := lg 2 _ rfl rfl l2
      have l3 := ls
      refine i_206_85 ?_
      have hR2 := hR
      simp only [uvv, uv_comm (a := 141) (b := 151) (by decide)] at hR2
      have e1 : n.toNat / 2 ^ k = 2 * (n.toNat / 2 ^ (k + 1)) := by omega
      have e2 : P * P = x ^ (n.toNat / 2 ^ k) := by rw [e1, hP]; exact pw2 _ _
      exact ih _ _ (P * P) (by omega) l0 l1 l2 (by rw [show (k : Int) - 1 = ((k + 1 : Nat) : Int) - 1 + (-1) by omega]; exact l3) (e2 ▸ hR2)
theorem s_raise {d : Nat} {w0 w : xW} {S : Nat → Nat → Int} {V : Nat → Nat} {h x : Nat} {n : Int} (hR : mR w0 S V w) (hh : isN h) (a1 : h ≠ 141) (a2 : h ≠ 151) (hv : V h = x) (hx : x ≠ 0) (hn0 : 1 ≤ n) (hn1 : n < 2147483648) (hb : xbl (x ^ n.toNat) ≤ 135000) : ∃ w' u, xRun (d + 3) 206 [.ref 128, .ref h, .int (Int32.ofInt n)] w (.inl none) w' ∧ mR w0 S (uv (uv V 151 u) 141 (x ^ n.toNat)) w' := by
  have hx1 : xbl x ≤ 135000 := by
    have := pow_le_b (j := 1) hx (show 1 ≤ n.toNat by omega)
    rw [Nat.pow_one] at this
    omega
  have hbn : xbl n.toNat ≤ 31 := xbl_le (by omega)
  have key : xEv (d + 3) 206 0 (lv_args 0 [.ref 128, .ref h, .int (Int32.ofInt n)]) [] w (fun o w' => o = .inl none ∧ ∃ u, mR w0 S (uv (uv V 151 u) 141 (x ^ n.toNat)) w') := by
    generalize hlv : lv_args 0 [.ref 128, .ref h, .int (Int32.ofInt n)] = lv
    have l0 : xld lv 0 = some (Value.ref 128) := by subst hlv; rfl
    have l1 : xld lv 1 = some (Value.ref h) := by subst hlv; rfl
    have l2 : xld lv 2 = some (Value.int (Int32.ofInt n)) := by subst hlv; rfl
    clear hlv
    refine i_206_0 (x := 128) l0 ?_
    refine i_206_1 (v := Value.ref 141) hR.c128 rfl ?_
    refine i_206_4 (x := h) l1 ?_
    obtain ⟨fs, hobj⟩ := hR.obj (h := 141) (iNw (h := 141) (by decide) (by decide) (by decide))
    obtain ⟨w, hrun, hR⟩ := r_setn (d := d) (v := x) (c := 4700) hR (iNw (h := 141) (by decide) (by decide) (by decide)) hh (hv) rfl (by omega)
    refine i_206_5 hobj (Nat.le_of_ble_eq_true rfl) hrun ?_
    refine i_206_8 ?_
    refine i_206_10 (x := Int32.ofInt n) l2 ?_
    have hrun := s_nlz (d := d + 2) (w := w) (n := n) (by omega) (by omega)
    refine i_206_11 (Nat.le_of_ble_eq_true rfl) hrun ?_
    refine i_206_14 (c := Int32.ofInt (31 - (32 - (xbl n.toNat : Int)))) (o_sub 31 (32 - (xbl n.toNat : Int))) ?_
    refine i_206_15 ?_
    refine i_206_16 (c := Int32.ofInt ((31 - (32 - (xbl n.toNat : Int))) - 1)) (o_sub (31 - (32 - (xbl n.toNat : Int))) 1) ?_
    refine i_206_17 rfl ?_
    refine lgen1 (i := 3) (v := Value.int (Int32.ofInt ((31 - (32 - (xbl n.toNat : Int))) - 1))) (fun lv lg ls => ?_)
    replace l0 := lg 0 _ rfl rfl l0
    replace l1 := lg 1 _ rfl rfl l1
    replace l2 := lg 2 _ rfl rfl l2
    have l3 := ls
    have hn2 := xbl_of (n := n.toNat) (by omega)
    have hn3 : n.toNat / 2 ^ (xbl n.toNat - 1) = 1 := by
      have : 2 ^ xbl n.toNat = 2 ^ (xbl n.toNat - 1) * 2 := by rw [← Nat.pow_succ]; congr 1; omega
      exact Nat.le_antisymm (Nat.le_of_lt_succ (Nat.div_lt_of_lt_mul (by omega))) (Nat.div_pos hn2.1 (Nat.two_pow_pos _))
    refine ra_loop hh a1 a2 hv hx (by omega) hn1 hb (fun w u hR => ⟨rfl, u, hR⟩) (xbl n.toNat - 1) _ _ (V 151) (by omega) l0 l1 l2 (by rw [show ((xbl n.toNat - 1 : Nat) : Int) - 1 = 31 - (32 - (xbl n.toNat : Int)) - 1 by omega]; exact l3) (by rw [hn3, Nat.pow_one, uv_id]; exact hR)
  obtain ⟨o, w', h1, rfl, u, h2⟩ := key.run
  exact ⟨w', u, h1, h2⟩
