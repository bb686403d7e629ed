/-! rootOf, rooted of the reference -/
theorem o_div {a b : Int} (ha : 0 ≤ a ∧ a < 2147483648) (hb : 0 < b ∧ b < 2147483648) : Int32.ofInt a / Int32.ofInt b = Int32.ofInt (a / b) := by
  apply Int32.toInt_inj.mp
  have h0 : 0 ≤ a / b := Int.ediv_nonneg ha.1 (by omega)
  have h1 : a / b ≤ a := Int.ediv_le_self _ ha.1
  rw [oI (by omega) (by omega), Int32.toInt_div, oI (by omega) (by omega), oI (by omega) (by omega), Int.tdiv_eq_ediv_of_nonneg ha.1]
  exact Int.bmod_eq_of_le (by omega) (by omega)
theorem o_nz {b : Int} (hb : 0 < b ∧ b < 2147483648) : Int32.ofInt b ≠ 0 := fun e => by
  have := oI (k := b) (by omega) (by omega)
  rw [e] at this
  have h0 : (0 : Int32).toInt = 0 := rfl
  omega
/-- the root of v, rounded down -/
def isRt (v n g : Nat) : Prop := g ^ n ≤ v ∧ v < (g + 1) ^ n
theorem s_rootOf {d : Nat} {w0 w : xW} {S : Nat → Nat → Int} {V : Nat → Nat} {n : Int} {v : Nat} (hR : mR w0 S V w) (hv : V 129 = v) (hv0 : v ≠ 0) (hn : 1 ≤ n ∧ n ≤ 32) (hb : xbl v ≤ 134000) : ∃ w' b, xRun (d + 4) 205 [.ref 128, .int (Int32.ofInt n)] w (.inl (some (.int (Int32.ofInt b)))) w' ∧ (b = 0 ∨ b = 1) ∧ ∃ V' g, mR w0 S V' w' ∧ nV V V' ∧ V' 145 = g ∧ isRt v n.toNat g ∧ b = if g ^ n.toNat = v then 0 else 1 := by
  have key : xEv (d + 4) 205 0 (lv_args 0 [.ref 128, .int (Int32.ofInt n)]) [] w (fun o w' => ∃ b, o = .inl (some (.int (Int32.ofInt b))) ∧ (b = 0 ∨ b = 1) ∧ ∃ V' g, mR w0 S V' w' ∧ nV V V' ∧ V' 145 = g ∧ isRt v n.toNat g ∧ b = if g ^ n.toNat = v then 0 else 1) := by
    generalize hlv : lv_args 0 [.ref 128, .int (Int32.ofInt n)] = lv
    have l0 : xld lv 0 = some (Value.ref 128) := by subst hlv; rfl
    have l1 : xld lv 1 = some (Value.int (Int32.ofInt n)) := by subst hlv; rfl
    clear hlv
    refine i_205_0 (x := Int32.ofInt n) l1 ?_
    refine i_205_1 ?_
    refine i_205_2 (b_ne (a := n) (b := 1) ⟨by omega, by omega⟩ ⟨by decide, by decide⟩ fun c0 => ?_) (b_eq (a := n) (b := 1) ⟨by omega, by omega⟩ ⟨by decide, by decide⟩ fun c0 => ?_)
    · refine i_205_18 (x := 128) l0 ?_
      refine i_205_19 (v := Value.ref 145) hR.c128 rfl ?_
      refine i_205_22 (x := 128) l0 ?_
      refine i_205_23 (v := Value.ref 129) hR.c128 rfl ?_
      obtain ⟨fs, hobj⟩ := hR.obj (h := 129) (iNw (h := 129) (by decide) (by decide) (by decide))
      have hrun := r_bits (d := d + 1) (v := v) hR (iNw (h := 129) (by decide) (by decide) (by decide)) (hv)
      refine i_205_26 hobj (Nat.le_of_ble_eq_true rfl) hrun ?_
      refine i_205_29 (x := Int32.ofInt n) l1 ?_
      refine i_205_30 (c := Int32.ofInt ((xbl v : Int) + n)) (o_add (xbl v : Int) n) ?_
      refine i_205_31 ?_
      refine i_205_32 (c := Int32.ofInt (((xbl v : Int) + n) - 1)) (o_sub ((xbl v : Int) + n) 1) ?_
      refine i_205_33 (x := Int32.ofInt n) l1 ?_
      refine i_205_34 (c := Int32.ofInt ((((xbl v : Int) + n) - 1) / n)) (o_nz (b := n) ⟨by omega, by omega⟩) (o_div (a := ((xbl v : Int) + n) - 1) (b := n) ⟨by omega, by omega⟩ ⟨by omega, by omega⟩) ?_
      obtain ⟨fs, hobj⟩ := hR.obj (h := 145) (iNw (h := 145) (by decide) (by decide) (by decide))
      obtain ⟨w, hrun, hR⟩ := r_one (d := d + 1) (c := 4700) (k := (((xbl v : Int) + n) - 1) / n) hR (iNw (h := 145) (by decide) (by decide) (by decide)) rfl (Int.ediv_nonneg (by omega) (by omega)) (by have := Int.ediv_le_self (b := n) (a := (xbl v : Int) + n - 1) (by omega); omega)
      refine i_205_35 hobj (Nat.le_of_ble_eq_true rfl) hrun ?_
      refine i_205_38 ?_
      refine i_205_39 rfl ?_
      refine lgen1 (i := 2) (v := Value.int 1) (fun lv lg ls => ?_)
      replace l0 := lg 0 _ rfl rfl l0
      replace l1 := lg 1 _ rfl rfl l1
      have l2 := ls
      obtain ⟨N, hN⟩ : ∃ N : Nat, n = (N : Int) + 1 := ⟨(n - 1).toNat, by omega⟩
      obtain ⟨c, hc⟩ : ∃ c : Nat, (c : Int) = ((xbl v : Int) + n - 1) / n := ⟨(((xbl v : Int) + n - 1) / n).toNat, by have : 0 ≤ ((xbl v : Int) + n - 1) / n := Int.ediv_nonneg (by omega) (by omega); omega⟩
      have hc1 : (xbl v : Int) ≤ (c : Int) * n := by
        have h1 := Int.lt_ediv_add_one_mul_self ((xbl v : Int) + n - 1) (show 0 < n by omega)
        rw [← hc, Int.add_mul, Int.one_mul] at h1
        omega
      have hc2 : (c : Int) * n ≤ (xbl v : Int) + n - 1 := by
        have h1 := Int.ediv_mul_le ((xbl v : Int) + n - 1) (show n ≠ 0 by omega)
        rw [← hc] at h1
        exact h1
      have hcN : ((c * (N + 1) : Nat) : Int) = (c : Int) * n := by rw [hN, Int.natCast_mul]; rfl
      obtain ⟨r, hr1, hr2⟩ := root_ex v N
      have hr0 : 1 ≤ r := by
        rcases Nat.eq_zero_or_pos r with e | e
        · subst e; rw [Nat.zero_add, Nat.one_pow] at hr2; omega
        · exact e
      have hGp : (2 ^ c) ^ (N + 1) = 2 ^ (c * (N + 1)) := (Nat.pow_mul 2 c (N + 1)).symm
      have hG : xbl ((2 ^ c) ^ (N + 1)) ≤ 134500 := by rw [hGp, xbl_2pow]; omega
      have hrG : r ≤ 2 ^ c := by
        rcases Nat.lt_or_ge (2 ^ c) r with h | h
        · have h1 : (2 ^ c) ^ (N + 1) ≤ r ^ (N + 1) := Nat.pow_le_pow_left (Nat.le_of_lt h) _
          have h2 := xbl_lt v
          have h3 : 2 ^ xbl v ≤ 2 ^ (c * (N + 1)) := Nat.pow_le_pow_right (by omega) (by omega)
          omega
        · exact h
      rw [← hc] at hR
      refine ro_loop (V := V) (v := v) (r := r) (N := N) (G0 := 2 ^ c) hN (by omega) hb hr1 hr2 hr0 hG ?_ (2 ^ c) _ _ _ (2 ^ c) (by omega) hrG (Nat.le_refl _) l0 l1 l2 (nV.up nV.refl (by decide)) ((uv_n (by decide)).trans hv) (by rw [uv_s]; rfl) hR
      intro lv w V1 l0 l1 hn1 hv1 hx1 hR
      have en : (n : Int).toNat = N + 1 := by omega
      refine i_205_161 (x := 128) l0 ?_
      refine i_205_162 (x := 128) l0 ?_
      refine i_205_163 (v := Value.ref 145) hR.c128 rfl ?_
      refine i_205_166 (x := Int32.ofInt n) l1 ?_
      have hobj := hR.c128
      obtain ⟨x, hxr⟩ : ∃ x, x = r := ⟨_, rfl⟩
      rw [← hxr] at hx1
      obtain ⟨w, u1, hrun, hR⟩ := s_raise (d := d) (h := 145) (x := x) (n := n) hR (iNw (h := 145) (by decide) (by decide) (by decide)) (by omega) (by omega) (hx1) (by omega) (by omega) (by omega) (by rw [en]; exact Nat.le_trans (xbl_mono (by rw [hxr]; exact hr1)) (by omega))
      refine i_205_167 hobj (Nat.le_of_ble_eq_true rfl) hrun ?_
      refine i_205_170 (x := 128) l0 ?_
      refine i_205_171 (v := Value.ref 141) hR.c128 rfl ?_
      refine i_205_174 (x := 128) l0 ?_
      refine i_205_175 (v := Value.ref 129) hR.c128 rfl ?_
      obtain ⟨fs, hobj⟩ := hR.obj (h := 141) (iNw (h := 141) (by decide) (by decide) (by decide))
      have hrun := r_cmp (d := d + 1) (v := x ^ (n : Int).toNat) (v2 := v) hR (iNw (h := 141) (by decide) (by decide) (by decide)) (iNw (h := 129) (by decide) (by decide) (by decide)) (uv_s) ((uv_n (by omega)).trans ((uv_n (by omega)).trans (hv1)))
      refine i_205_178 hobj (Nat.le_of_ble_eq_true rfl) hrun ?_
      refine i_205_181 (z_eq (a := ncmp (x ^ (n : Int).toNat) v) (ncmp_b _ _) fun c1 => ?_) (z_ne (a := ncmp (x ^ (n : Int).toNat) v) (ncmp_b _ _) fun c1 => ?_)
      · refine i_205_188 ?_
        refine i_205_189 rfl ?_
        have hcm := ncmp_i (x ^ (n : Int).toNat) v
        refine ⟨0, rfl, by decide, _, x, hR, (nV.up (nV.up hn1 (by decide)) (by decide)), (uv_n (by omega)).trans ((uv_n (by omega)).trans (hx1)), ?_, ?_⟩
        · rw [en]; exact ⟨by rw [← hxr] at hr1; exact hr1, by rw [← hxr] at hr2; exact hr2⟩
        · rw [if_pos (by omega)]
      · refine i_205_184 ?_
        refine i_205_185 ?_
        refine i_205_189 rfl ?_
        have hcm := ncmp_i (x ^ (n : Int).toNat) v
        refine ⟨1, rfl, by decide, _, x, hR, (nV.up (nV.up hn1 (by decide)) (by decide)), (uv_n (by omega)).trans ((uv_n (by omega)).trans (hx1)), ?_, ?_⟩
        · rw [en]; exact ⟨by rw [← hxr] at hr1; exact hr1, by rw [← hxr] at hr2; exact hr2⟩
        · rw [if_neg (by omega)]
    · refine i_205_5 (x := 128) l0 ?_
      refine i_205_6 (v := Value.ref 145) hR.c128 rfl ?_
      refine i_205_9 (x := 128) l0 ?_
      refine i_205_10 (v := Value.ref 129) hR.c128 rfl ?_
      obtain ⟨fs, hobj⟩ := hR.obj (h := 145) (iNw (h := 145) (by decide) (by decide) (by decide))
      obtain ⟨w, hrun, hR⟩ := r_setn (d := d + 1) (v := v) (c := 4700) hR (iNw (h := 145) (by decide) (by decide) (by decide)) (iNw (h := 129) (by decide) (by decide) (by decide)) (hv) rfl (by omega)
      refine i_205_13 hobj (Nat.le_of_ble_eq_true rfl) hrun ?_
      refine i_205_16 ?_
      refine i_205_17 rfl ?_
      refine ⟨0, rfl, Or.inl rfl, _, v, hR, nV.up nV.refl (by decide), uv_s, ?_, ?_⟩
      · rw [show n.toNat = 1 by omega]; exact ⟨by rw [Nat.pow_one]; exact Nat.le_refl _, by rw [Nat.pow_one]; omega⟩
      · rw [show n.toNat = 1 by omega, Nat.pow_one, if_pos rfl]
  obtain ⟨o, w', h1, b, rfl, h2⟩ := key.run
  exact ⟨w', b, h1, h2⟩
