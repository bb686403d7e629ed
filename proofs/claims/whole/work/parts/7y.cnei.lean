/-! neighbours in the class: stepInward -/
theorem half_bl {m p : Nat} (hp : 1 ≤ p) (hm : xbl m = p) : (nany m ((p : Int) - 1) = false ∧ xbl (m * 2 - 1) = p) ∨ (nany m ((p : Int) - 1) = true ∧ xbl (m * 2 - 1) = p + 1) := by
  have m0 : m ≠ 0 := fun e => by rw [e, xbl_zero] at hm; omega
  obtain ⟨h1, h2, -⟩ := xbl_of m0
  rw [hm] at h1 h2
  have ht : ((p : Int) - 1).toNat = p - 1 := by omega
  have hP : 2 ^ p = 2 ^ (p - 1) * 2 := by rw [← Nat.pow_succ, show (p - 1).succ = p by omega]
  have hd := Nat.div_add_mod m (2 ^ (p - 1))
  have hl := Nat.mod_lt m (Nat.two_pow_pos (p - 1))
  have hq : m / 2 ^ (p - 1) = 1 := by
    have h5 : 0 < m / 2 ^ (p - 1) := Nat.div_pos h1 (Nat.two_pow_pos _)
    have h6 : m / 2 ^ (p - 1) < 2 := by rw [Nat.div_lt_iff_lt_mul (Nat.two_pow_pos _), Nat.mul_comm, ← hP]; exact h2
    omega
  rw [hq, Nat.mul_one] at hd
  by_cases g : m % 2 ^ (p - 1) = 0
  · left
    refine ⟨nany_f (by rw [ht]; exact g), ?_⟩
    rw [show m * 2 - 1 = 2 ^ p - 1 by omega, xbl_ones]
  · right
    refine ⟨nany_t (by rw [ht]; exact g), ?_⟩
    exact xbl_eq (by omega) (by rw [Nat.pow_succ]; omega)
theorem nea_num {K Y R : Nat} (hK : 0 < K) (hR : R < K) (h0 : K * Y + R ≠ 0) : ((K * Y + R) * 2 - 1) / (K * 2) = if R = 0 then Y - 1 else Y := by
  have e1 : K * 2 * Y = K * Y * 2 := Nat.mul_right_comm _ _ _
  by_cases g : R = 0
  · rw [if_pos g]
    have hy : Y ≠ 0 := fun e => h0 (by rw [e, g, Nat.mul_zero])
    obtain ⟨y, rfl⟩ : ∃ y, Y = y + 1 := ⟨Y - 1, by omega⟩
    have e2 : K * 2 * y = K * y * 2 := Nat.mul_right_comm _ _ _
    have e : (K * (y + 1) + R) * 2 - 1 = K * 2 * y + (K * 2 - 1) := by rw [Nat.mul_add, Nat.mul_one]; omega
    rw [e, Nat.mul_add_div (by omega), Nat.div_eq_of_lt (by omega)]
    rfl
  · rw [if_neg g]
    have e : (K * Y + R) * 2 - 1 = K * 2 * Y + (R * 2 - 1) := by omega
    rw [e, Nat.mul_add_div (by omega), Nat.div_eq_of_lt (by omega)]
    rfl
theorem nea_q {m : Nat} {c : Int} (hc : 0 < c) (hm : m ≠ 0) : (m * 2 - 1) / 2 ^ (c + 1).toNat = neaQ m c := by
  rw [show (c + 1).toNat = c.toNat + 1 by omega, Nat.pow_succ]
  have hd := Nat.div_add_mod m (2 ^ c.toNat)
  have h := nea_num (Nat.two_pow_pos c.toNat) (Nat.mod_lt m (Nat.two_pow_pos c.toNat)) (by rw [hd]; exact hm)
  rw [hd] at h
  rw [h]
  unfold neaQ
  by_cases g : m % 2 ^ c.toNat = 0
  · have hz : m / 2 ^ c.toNat ≠ 0 := fun e => hm (by rw [← hd, e, g, Nat.mul_zero])
    rw [if_pos g, if_pos ⟨nany_f g, hz⟩]
  · rw [if_neg g, if_neg (fun e => by rw [nany_t g] at e; exact absurd e.1 (by decide))]
section
variable {w0 w : xW} {L Z : Nat} {S : Nat → Nat → Int} {V : Nat → Nat} {d h t r : Nat}
set_option maxHeartbeats 8000000 in
theorem x_inw {r : Int} (hR : cX w0 L Z S V w) (hI : cI S V) (hr : 0 ≤ r ∧ r ≤ 15) (h3 : S (30 + 3 * r.toNat) 1 = 3) : ∃ w', xRun (d + 7) 120 [Value.ref 78, Value.ref (30 + 3 * r.toNat), Value.ref 16] w (.inl none) w' ∧ ∃ S' V', cX w0 L Z S' V' w' ∧ fC S S' V V' (30 + 3 * r.toNat) (S (30 + 3 * r.toNat) 2) (sNea (vS S) (vV V) r.toNat) := by
  have key : ∀ lv, xld lv 0 = some (Value.ref 78) → xld lv 1 = some (Value.ref (30 + 3 * r.toNat)) → xld lv 2 = some (Value.ref 16) → xEv (d + 7) 120 0 lv [] w (fun o w' => o = .inl none ∧ ∃ S' V', cX w0 L Z S' V' w' ∧ fC S S' V V' (30 + 3 * r.toNat) (S (30 + 3 * r.toNat) 2) (sNea (vS S) (vV V) r.toNat)) := by
    intro lv l0 l1 l2
    obtain ⟨hp_r, hk_r, hn_r, ht_r, hx_r, hz_r⟩ := hI.1 r.toNat (by omega)
    have hi_l := hI.2.1
    have hi_g := hI.2.2.1
    have hm_r := hI.nz (by omega) h3
    have hzr := hz_r h3
    have hz_m1 : 2 ≤ V (30 + 3 * r.toNat + 1) := by have := (xbl_of hm_r).1; have h2 : 2 ^ 1 ≤ 2 ^ (xbl (V (30 + 3 * r.toNat + 1)) - 1) := Nat.pow_le_pow_right (by decide) (by omega); omega
    have hb2 : xbl (V (30 + 3 * r.toNat + 1) * 2) ≤ 5000 := by have := xbl_powle (V (30 + 3 * r.toNat + 1)) 1; rw [Nat.pow_one] at this; omega
    have hb3 : xbl (V (30 + 3 * r.toNat + 1) * 2 - 1) ≤ 5000 := Nat.le_trans (xbl_mono (Nat.sub_le _ _)) hb2
    refine i_120_0 (x := 30 + 3 * r.toNat) l1 ?_
    refine i_120_1 (v := Value.int (Int32.ofInt (S (30 + 3 * r.toNat) 2))) (hR.k2 (kd_reg (r := r.toNat) (by omega))) rfl ?_
    refine i_120_4 rfl ?_
    refine lgen1 (i := 3) (v := Value.int (Int32.ofInt (S (30 + 3 * r.toNat) 2))) (fun lv lg ls => ?_)
    replace l0 := lg 0 _ rfl rfl l0
    replace l1 := lg 1 _ rfl rfl l1
    replace l2 := lg 2 _ rfl rfl l2
    have l3 := ls
    refine i_120_5 (x := 30 + 3 * r.toNat) l1 ?_
    refine i_120_6 (v := Value.int (Int32.ofInt (S (30 + 3 * r.toNat) 3))) (hR.k2 (kd_reg (r := r.toNat) (by omega))) rfl ?_
    refine i_120_9 (x := 78) l0 ?_
    refine i_120_10 (v := Value.int (Int32.ofInt (S 78 1))) (hR.k1 kq_78) rfl ?_
    refine i_120_13 (b_le (a := S (30 + 3 * r.toNat) 3) (b := S 78 1) ⟨by omega, by omega⟩ ⟨by omega, by omega⟩ fun c0 => ?_) (b_lt (a := S 78 1) (b := S (30 + 3 * r.toNat) 3) ⟨by omega, by omega⟩ ⟨by omega, by omega⟩ fun c0 => ?_)
    · refine i_120_26 (x := 16) l2 ?_
      refine i_120_27 (x := 30 + 3 * r.toNat) l1 ?_
      have hobj := hR.k4 kq_16
      have ep : S (30 + 3 * r.toNat) 0 = S (30 + 3 * r.toNat) 0 := rfl
      have en : S (30 + 3 * r.toNat) 2 = S (30 + 3 * r.toNat) 2 := rfl
      have ex : S (30 + 3 * r.toNat) 3 = S (30 + 3 * r.toNat) 3 := rfl
      have ev : V ((30 + 3 * r.toNat) + 1) = V ((30 + 3 * r.toNat) + 1) := rfl
      obtain ⟨w, hrun, hR⟩ := x_tn (d := d + 2) (h := 16) (t := 30 + 3 * r.toNat) hR kq_16 (kd_reg (r := r.toNat) (by omega)) (by rw [en]; omega) (by rw [ev]; omega)
      rw [ep, en, ex, ev] at hR
      refine i_120_28 hobj (Nat.le_of_ble_eq_true rfl) hrun ?_
      refine i_120_31 (x := 16) l2 ?_
      refine i_120_32 (v := Value.ref 17) (hR.k4 kq_16) rfl ?_
      refine i_120_35 (x := 16) l2 ?_
      refine i_120_36 (v := Value.ref 17) (hR.k4 kq_16) rfl ?_
      refine i_120_39 ?_
      obtain ⟨fs, hobj⟩ := hR.nat kq_17
      obtain ⟨w, hrun, hR⟩ := X_shift (d := d + 3) (h := 17) (h2 := 17) (u := V ((30 + 3 * r.toNat) + 1)) (k := 1) hR kq_17 kq_17 (uv_s) (by decide) (by omega)
      rw [shf_nn (by decide), show (V ((30 + 3 * r.toNat) + 1)) * 2 ^ (1 : Int).toNat = (V ((30 + 3 * r.toNat) + 1)) * 2 from rfl] at hR
      rw [uvv] at hR
      refine i_120_40 hobj (Nat.le_of_ble_eq_true rfl) hrun ?_
      refine i_120_43 (x := 16) l2 ?_
      refine i_120_44 rfl ?_
      refine i_120_45 (v := Value.int (Int32.ofInt ((u2 (u2 (u2 S 16 0 (S (30 + 3 * r.toNat) 2)) 16 2 ((S (30 + 3 * r.toNat) 3) - (S (30 + 3 * r.toNat) 0))) 16 3 0) 16 2))) (hR.k4 kq_16) rfl ?_
      rw [show Int32.ofInt ((u2 (u2 (u2 S 16 0 (S (30 + 3 * r.toNat) 2)) 16 2 ((S (30 + 3 * r.toNat) 3) - (S (30 + 3 * r.toNat) 0))) 16 3 0) 16 2) = Int32.ofInt ((S (30 + 3 * r.toNat) 3) - (S (30 + 3 * r.toNat) 0)) by rw [u2_eq, if_neg (fun e => absurd e.2 (by decide)), u2_eq, if_pos ⟨rfl, rfl⟩]]
      refine i_120_48 ?_
      refine i_120_49 (c := Int32.ofInt (((S (30 + 3 * r.toNat) 3) - (S (30 + 3 * r.toNat) 0)) - 1)) (o_sub ((S (30 + 3 * r.toNat) 3) - (S (30 + 3 * r.toNat) 0)) 1) ?_
      refine i_120_50 (fs2 := f4 16 (u1 ((u2 (u2 (u2 S 16 0 (S (30 + 3 * r.toNat) 2)) 16 2 ((S (30 + 3 * r.toNat) 3) - (S (30 + 3 * r.toNat) 0))) 16 3 0) 16) 2 (((S (30 + 3 * r.toNat) 3) - (S (30 + 3 * r.toNat) 0)) - 1))) (hR.k4 kq_16) (Nat.le_of_ble_eq_true rfl) rfl (h7k kq_16 (by decide)) ?_
      refine xgen (P := cX w0 L Z (u2 (u2 (u2 (u2 S 16 0 (S (30 + 3 * r.toNat) 2)) 16 2 ((S (30 + 3 * r.toNat) 3) - (S (30 + 3 * r.toNat) 0))) 16 3 0) 16 2 (((S (30 + 3 * r.toNat) 3) - (S (30 + 3 * r.toNat) 0)) - 1)) (uv V 17 ((V ((30 + 3 * r.toNat) + 1)) * 2))) (hR.p4 kq_16) (fun w hR => ?_)
      refine i_120_53 (x := 16) l2 ?_
      refine i_120_54 (v := Value.ref 17) (hR.k4 kq_16) rfl ?_
      obtain ⟨fs, hobj⟩ := hR.nat kq_17
      obtain ⟨w, hrun, hR⟩ := X_dec (d := d + 5) (h := 17) (u := (V ((30 + 3 * r.toNat) + 1)) * 2) hR kq_17 (uv_s) (by omega)
      rw [uvv] at hR
      refine i_120_57 hobj (Nat.le_of_ble_eq_true rfl) hrun ?_
      refine i_120_60 (x := 16) l2 ?_
      have hobj := hR.k4 kq_16
      have hrun := x_exp (d := d + 4) (h := 16) hR kq_16
      rw [show (u2 (u2 (u2 (u2 S 16 0 (S (30 + 3 * r.toNat) 2)) 16 2 ((S (30 + 3 * r.toNat) 3) - (S (30 + 3 * r.toNat) 0))) 16 3 0) 16 2 (((S (30 + 3 * r.toNat) 3) - (S (30 + 3 * r.toNat) 0)) - 1)) 16 2 = ((S (30 + 3 * r.toNat) 3) - (S (30 + 3 * r.toNat) 0)) - 1 by rw [u2_eq, if_pos ⟨rfl, rfl⟩], show (uv V 17 (((V ((30 + 3 * r.toNat) + 1)) * 2) - 1)) 17 = ((V ((30 + 3 * r.toNat) + 1)) * 2) - 1 from uv_s] at hrun
      obtain ⟨x, hx⟩ : ∃ x : Int, x = (xbl (((V ((30 + 3 * r.toNat) + 1)) * 2) - 1) : Int) + (((S (30 + 3 * r.toNat) 3) - (S (30 + 3 * r.toNat) 0)) - 1) := ⟨_, rfl⟩
      rw [← hx] at hrun
      have hxx : (nany (V (30 + 3 * r.toNat + 1)) (S (30 + 3 * r.toNat) 0 - 1) = false ∧ x = S (30 + 3 * r.toNat) 3 - 1) ∨ (nany (V (30 + 3 * r.toNat + 1)) (S (30 + 3 * r.toNat) 0 - 1) = true ∧ x = S (30 + 3 * r.toNat) 3) := by
        have := half_bl (m := V (30 + 3 * r.toNat + 1)) (p := (S (30 + 3 * r.toNat) 0).toNat) (by omega) (by omega)
        rw [show (((S (30 + 3 * r.toNat) 0).toNat : Nat) : Int) = S (30 + 3 * r.toNat) 0 by omega] at this
        rcases this with g | g
        · exact Or.inl ⟨g.1, by omega⟩
        · exact Or.inr ⟨g.1, by omega⟩
      refine i_120_61 hobj (Nat.le_of_ble_eq_true rfl) hrun ?_
      refine i_120_64 rfl ?_
      refine lgen1 (i := 4) (v := Value.int (Int32.ofInt x)) (fun lv lg ls => ?_)
      replace l3 := lg 3 _ rfl rfl l3
      replace l0 := lg 0 _ rfl rfl l0
      replace l1 := lg 1 _ rfl rfl l1
      replace l2 := lg 2 _ rfl rfl l2
      have l4 := ls
      refine i_120_66 (x := 78) l0 ?_
      refine i_120_67 (v := Value.int (Int32.ofInt ((u2 (u2 (u2 (u2 S 16 0 (S (30 + 3 * r.toNat) 2)) 16 2 ((S (30 + 3 * r.toNat) 3) - (S (30 + 3 * r.toNat) 0))) 16 3 0) 16 2 (((S (30 + 3 * r.toNat) 3) - (S (30 + 3 * r.toNat) 0)) - 1)) 78 2))) (hR.k1 kq_78) rfl ?_
      rw [show Int32.ofInt ((u2 (u2 (u2 (u2 S 16 0 (S (30 + 3 * r.toNat) 2)) 16 2 ((S (30 + 3 * r.toNat) 3) - (S (30 + 3 * r.toNat) 0))) 16 3 0) 16 2 (((S (30 + 3 * r.toNat) 3) - (S (30 + 3 * r.toNat) 0)) - 1)) 78 2) = Int32.ofInt (S 78 2) by rw [u2_eq, if_neg (fun e => absurd e.1 (by decide)), u2_eq, if_neg (fun e => absurd e.2 (by decide)), u2_eq, if_neg (fun e => absurd e.1 (by decide)), u2_eq, if_neg (fun e => absurd e.2 (by decide))]]
      refine i_120_70 (z_ne (a := S 78 2) ⟨by omega, by omega⟩ fun c1 => ?_) (z_eq (a := S 78 2) ⟨by omega, by omega⟩ fun c1 => ?_)
      · refine i_120_89 (x := 30 + 3 * r.toNat) l1 ?_
        refine i_120_90 (x := 16) l2 ?_
        refine i_120_91 (x := 78) l0 ?_
        refine i_120_92 (x := Int32.ofInt x) l4 ?_
        refine i_120_94 (x := 30 + 3 * r.toNat) l1 ?_
        refine i_120_95 (v := Value.int (Int32.ofInt ((u2 (u2 (u2 (u2 S 16 0 (S (30 + 3 * r.toNat) 2)) 16 2 ((S (30 + 3 * r.toNat) 3) - (S (30 + 3 * r.toNat) 0))) 16 3 0) 16 2 (((S (30 + 3 * r.toNat) 3) - (S (30 + 3 * r.toNat) 0)) - 1)) (30 + 3 * r.toNat) 0))) (hR.k2 (kd_reg (r := r.toNat) (by omega))) rfl ?_
        rw [show Int32.ofInt ((u2 (u2 (u2 (u2 S 16 0 (S (30 + 3 * r.toNat) 2)) 16 2 ((S (30 + 3 * r.toNat) 3) - (S (30 + 3 * r.toNat) 0))) 16 3 0) 16 2 (((S (30 + 3 * r.toNat) 3) - (S (30 + 3 * r.toNat) 0)) - 1)) (30 + 3 * r.toNat) 0) = Int32.ofInt (S (30 + 3 * r.toNat) 0) by rw [u2_eq, if_neg (fun e => absurd e.2 (by decide)), u2_eq, if_neg (fun e => absurd e.2 (by decide)), u2_eq, if_neg (fun e => absurd e.2 (by decide)), u2_eq, if_neg (fun e => absurd e.1 (by omega))]]
        have hobj := hR.k1 kq_78
        have el : (u2 (u2 (u2 (u2 S 16 0 (S (30 + 3 * r.toNat) 2)) 16 2 ((S (30 + 3 * r.toNat) 3) - (S (30 + 3 * r.toNat) 0))) 16 3 0) 16 2 (((S (30 + 3 * r.toNat) 3) - (S (30 + 3 * r.toNat) 0)) - 1)) 78 0 = S 78 0 := by rw [u2_eq, if_neg (fun e => absurd e.2 (by decide)), u2_eq, if_neg (fun e => absurd e.2 (by decide)), u2_eq, if_neg (fun e => absurd e.2 (by decide)), u2_eq, if_neg (fun e => absurd e.1 (by decide))]
        have ed : (u2 (u2 (u2 (u2 S 16 0 (S (30 + 3 * r.toNat) 2)) 16 2 ((S (30 + 3 * r.toNat) 3) - (S (30 + 3 * r.toNat) 0))) 16 3 0) 16 2 (((S (30 + 3 * r.toNat) 3) - (S (30 + 3 * r.toNat) 0)) - 1)) 78 2 = S 78 2 := by rw [u2_eq, if_neg (fun e => absurd e.1 (by decide)), u2_eq, if_neg (fun e => absurd e.2 (by decide)), u2_eq, if_neg (fun e => absurd e.1 (by decide)), u2_eq, if_neg (fun e => absurd e.2 (by decide))]
        have hrun := x_unit (d := d + 6) (g := 78) (x := x) (p := S (30 + 3 * r.toNat) 0) hR kq_78 ⟨by omega, by omega⟩ (by rw [el]; omega) (by rw [ed]; omega)
        rw [el, ed] at hrun
        have hub := rU_b (p := S (30 + 3 * r.toNat) 0) (least := S 78 0) (gradual := S 78 2) (free := 0) (x := x)
        obtain ⟨u, hu⟩ : ∃ u : Int, u = rU (S (30 + 3 * r.toNat) 0) (S 78 0) (S 78 2) 0 x := ⟨_, rfl⟩
        rw [← hu] at hrun hub
        have hu2 : (x < S 78 0 ∧ u = S 78 0 - S (30 + 3 * r.toNat) 0) ∨ (S 78 0 ≤ x ∧ u = x - S (30 + 3 * r.toNat) 0) := by
          unfold rU at hu
          by_cases g : x < S 78 0
          · rw [if_pos ⟨rfl, by omega, g⟩] at hu; exact Or.inl ⟨g, hu⟩
          · rw [if_neg (fun e => g e.2.2)] at hu; exact Or.inr ⟨by omega, hu⟩
        refine i_120_98 hobj (Nat.le_of_ble_eq_true rfl) hrun ?_
        refine i_120_101 ?_
        have hobj := hR.k2 (kd_reg (r := r.toNat) (by omega))
        have ep : (u2 (u2 (u2 (u2 S 16 0 (S (30 + 3 * r.toNat) 2)) 16 2 ((S (30 + 3 * r.toNat) 3) - (S (30 + 3 * r.toNat) 0))) 16 3 0) 16 2 (((S (30 + 3 * r.toNat) 3) - (S (30 + 3 * r.toNat) 0)) - 1)) (30 + 3 * r.toNat) 0 = S (30 + 3 * r.toNat) 0 := by rw [u2_eq, if_neg (fun e => absurd e.2 (by decide)), u2_eq, if_neg (fun e => absurd e.2 (by decide)), u2_eq, if_neg (fun e => absurd e.2 (by decide)), u2_eq, if_neg (fun e => absurd e.1 (by omega))]
        have es : (u2 (u2 (u2 (u2 S 16 0 (S (30 + 3 * r.toNat) 2)) 16 2 ((S (30 + 3 * r.toNat) 3) - (S (30 + 3 * r.toNat) 0))) 16 3 0) 16 2 (((S (30 + 3 * r.toNat) 3) - (S (30 + 3 * r.toNat) 0)) - 1)) 16 0 = S (30 + 3 * r.toNat) 2 := by rw [u2_eq, if_neg (fun e => absurd e.2 (by decide)), u2_eq, if_neg (fun e => absurd e.2 (by decide)), u2_eq, if_neg (fun e => absurd e.2 (by decide)), u2_eq, if_pos ⟨rfl, rfl⟩]
        have ec : (u2 (u2 (u2 (u2 S 16 0 (S (30 + 3 * r.toNat) 2)) 16 2 ((S (30 + 3 * r.toNat) 3) - (S (30 + 3 * r.toNat) 0))) 16 3 0) 16 2 (((S (30 + 3 * r.toNat) 3) - (S (30 + 3 * r.toNat) 0)) - 1)) 16 2 = ((S (30 + 3 * r.toNat) 3) - (S (30 + 3 * r.toNat) 0)) - 1 := by rw [u2_eq, if_pos ⟨rfl, rfl⟩]
        have ev : (uv V 17 (((V ((30 + 3 * r.toNat) + 1)) * 2) - 1)) 17 = ((V ((30 + 3 * r.toNat) + 1)) * 2) - 1 := uv_s
        obtain ⟨w, hrun, S2, V2, hR, hB⟩ := x_mult (d := d + 1) (t := 30 + 3 * r.toNat) (h := 16) (unit := u) (og := 0) hR (kd_reg (r := r.toNat) (by omega)) kq_16 (by omega) (by omega) (by omega) (by rw [ep]; omega) (by rw [es]; omega) (by omega) (by rw [ev]; omega) (by rw [ev]; omega) (by rw [ec]; omega) ⟨by omega, by omega⟩ (by rw [ev, ec, ep]; omega)
        rw [ev, ec, es] at hB
        obtain ⟨b1, b2, b3, b4, b5⟩ := hB
        rw [ep] at b3
        obtain ⟨q, hq⟩ : ∃ q, q = rq (((V ((30 + 3 * r.toNat) + 1)) * 2) - 1) (u - (((S (30 + 3 * r.toNat) 3) - (S (30 + 3 * r.toNat) 0)) - 1)) + (0 : Int).toNat := ⟨_, rfl⟩
        rw [← hq] at b1 b3
        have fr : ∀ b j, b ≠ 16 → ¬ (b = 30 + 3 * r.toNat ∧ (j = 1 ∨ j = 2 ∨ j = 3)) → S2 b j = S b j := fun b j g1 g2 => by rw [b4 b j g2, u2_eq, if_neg (fun e => g1 e.1), u2_eq, if_neg (fun e => g1 e.1), u2_eq, if_neg (fun e => g1 e.1), u2_eq, if_neg (fun e => g1 e.1)]
        have frV : ∀ k, k ≠ 17 → k ≠ 30 + 3 * r.toNat + 1 → V2 k = V k := fun k g1 g2 => by rw [b5 k g2, uv_n g1]
        have fr0 : S2 78 0 = S 78 0 := fr _ _ (by decide) (by omega)
        have fr1 : S2 78 1 = S 78 1 := fr _ _ (by decide) (by omega)
        have hqv : (S (30 + 3 * r.toNat) 3 < S 78 0 ∧ S 78 2 ≠ 0 ∧ q = neaQ (V (30 + 3 * r.toNat + 1)) (S 78 0 - S (30 + 3 * r.toNat) 3) ∧ u = S 78 0 - S (30 + 3 * r.toNat) 0) ∨ (S 78 0 ≤ S (30 + 3 * r.toNat) 3 ∧ (nany (V (30 + 3 * r.toNat + 1)) (S (30 + 3 * r.toNat) 0 - 1) = false ∧ S 78 0 < S (30 + 3 * r.toNat) 3) ∧ q = V (30 + 3 * r.toNat + 1) * 2 - 1 ∧ u = S (30 + 3 * r.toNat) 3 - S (30 + 3 * r.toNat) 0 - 1) ∨ (S 78 0 ≤ S (30 + 3 * r.toNat) 3 ∧ ¬ (nany (V (30 + 3 * r.toNat + 1)) (S (30 + 3 * r.toNat) 0 - 1) = false ∧ S 78 0 < S (30 + 3 * r.toNat) 3) ∧ ¬ (nany (V (30 + 3 * r.toNat + 1)) (S (30 + 3 * r.toNat) 0 - 1) = false ∧ S (30 + 3 * r.toNat) 3 = S 78 0 ∧ S 78 2 = 0) ∧ q = V (30 + 3 * r.toNat + 1) - 1 ∧ u = S (30 + 3 * r.toNat) 3 - S (30 + 3 * r.toNat) 0) := by
          have hadd : q = rq (V (30 + 3 * r.toNat + 1) * 2 - 1) (u - (S (30 + 3 * r.toNat) 3 - S (30 + 3 * r.toNat) 0 - 1)) := hq
          by_cases g : S (30 + 3 * r.toNat) 3 < S 78 0
          · left
            have hxl : x < S 78 0 := by omega
            have hgd : S 78 2 ≠ 0 := by omega
            refine ⟨g, hgd, ?_, by omega⟩
            rw [hadd, show u - (S (30 + 3 * r.toNat) 3 - S (30 + 3 * r.toNat) 0 - 1) = (S 78 0 - S (30 + 3 * r.toNat) 3) + 1 by omega]
            unfold rq
            rw [if_pos (by omega)]
            exact nea_q (by omega) hm_r
          · right
            by_cases g2 : nany (V (30 + 3 * r.toNat + 1)) (S (30 + 3 * r.toNat) 0 - 1) = false ∧ S 78 0 < S (30 + 3 * r.toNat) 3
            · left
              have hx1 : x = S (30 + 3 * r.toNat) 3 - 1 := by
                rcases hxx with h | h
                · exact h.2
                · rw [g2.1] at h; exact absurd h.1 (by decide)
              refine ⟨by omega, g2, ?_, by omega⟩
              rw [hadd, show u - (S (30 + 3 * r.toNat) 3 - S (30 + 3 * r.toNat) 0 - 1) = 0 by omega]
              exact Nat.mul_one _
            · right
              have hgz : ¬ (nany (V (30 + 3 * r.toNat + 1)) (S (30 + 3 * r.toNat) 0 - 1) = false ∧ S (30 + 3 * r.toNat) 3 = S 78 0 ∧ S 78 2 = 0) := fun e => by
                rcases hxx with h | h
                · omega
                · rw [e.1] at h; exact absurd h.1 (by decide)
              refine ⟨by omega, g2, hgz, ?_, ?_⟩
              · have hu3 : u = S (30 + 3 * r.toNat) 3 - S (30 + 3 * r.toNat) 0 := by
                  rcases hxx with h | h
                  · have : ¬ S 78 0 < S (30 + 3 * r.toNat) 3 := fun e => g2 ⟨h.1, e⟩
                    omega
                  · omega
                rw [hadd, show u - (S (30 + 3 * r.toNat) 3 - S (30 + 3 * r.toNat) 0 - 1) = 1 by omega]
                unfold rq
                rw [if_pos (by decide)]
                show (V (30 + 3 * r.toNat + 1) * 2 - 1) / 2 = _
                omega
              · rcases hxx with h | h
                · have : ¬ S 78 0 < S (30 + 3 * r.toNat) 3 := fun e => g2 ⟨h.1, e⟩
                  omega
                · omega
        refine i_120_102 hobj (Nat.le_of_ble_eq_true rfl) hrun ?_
        refine i_120_105 ?_
        by_cases hq0 : q = 0
        · have eo : sNea (vS S) (vV V) r.toNat = (2, 0, 0) := by
            simp only [sNea, vS_153, vS_154, vS_155, vS_156, vS_17, vS_18, vS_19, vS_20, vV_r]
            rw [if_neg (by omega)]
            rcases hqv with ⟨g1, g2, g3, g4⟩ | ⟨g1, g2, g3, g4⟩ | ⟨g1, g2, g5, g3, g4⟩
            · rw [if_pos g1, if_pos (Or.inr (by rw [← g3]; exact hq0))]
            · exfalso; omega
            · exfalso; have := hz_m1; omega
          rw [eo]
          exact ⟨rfl, _, _, hR, by rw [if_pos hq0] at b1; exact b1, b2, fun e => absurd (show (2 : Int) = 3 from e) (by decide), fr, frV⟩
        · have eo : sNea (vS S) (vV V) r.toNat = (3, (xbl q : Int) + u, nrm q (S (30 + 3 * r.toNat) 0)) := by
            simp only [sNea, vS_153, vS_154, vS_155, vS_156, vS_17, vS_18, vS_19, vS_20, vV_r]
            rw [if_neg (by omega)]
            rcases hqv with ⟨g1, g2, g3, g4⟩ | ⟨g1, g2, g3, g4⟩ | ⟨g1, g2, g5, g3, g4⟩
            · rw [if_pos g1, if_neg (fun e => by rcases e with e | e; exact g2 e; exact hq0 (g3.trans e)), ← g3, g4]; rfl
            · rw [if_neg (by omega), if_neg (fun e => by omega), if_pos g2, show V (30 + 3 * r.toNat + 1) * 2 ^ (1 : Int).toNat - 1 = q from g3.symm, g4]; rfl
            · rw [if_neg (by omega), if_neg g5, if_neg g2, ← g3, g4]; rfl
          rw [eo]
          exact ⟨rfl, _, _, hR, by rw [if_neg hq0] at b1; exact b1, b2, fun _ => b3 hq0, fr, frV⟩
      · refine i_120_73 (x := Int32.ofInt x) l4 ?_
        refine i_120_75 (x := 78) l0 ?_
        refine i_120_76 (v := Value.int (Int32.ofInt ((u2 (u2 (u2 (u2 S 16 0 (S (30 + 3 * r.toNat) 2)) 16 2 ((S (30 + 3 * r.toNat) 3) - (S (30 + 3 * r.toNat) 0))) 16 3 0) 16 2 (((S (30 + 3 * r.toNat) 3) - (S (30 + 3 * r.toNat) 0)) - 1)) 78 0))) (hR.k1 kq_78) rfl ?_
        rw [show Int32.ofInt ((u2 (u2 (u2 (u2 S 16 0 (S (30 + 3 * r.toNat) 2)) 16 2 ((S (30 + 3 * r.toNat) 3) - (S (30 + 3 * r.toNat) 0))) 16 3 0) 16 2 (((S (30 + 3 * r.toNat) 3) - (S (30 + 3 * r.toNat) 0)) - 1)) 78 0) = Int32.ofInt (S 78 0) by rw [u2_eq, if_neg (fun e => absurd e.2 (by decide)), u2_eq, if_neg (fun e => absurd e.2 (by decide)), u2_eq, if_neg (fun e => absurd e.2 (by decide)), u2_eq, if_neg (fun e => absurd e.1 (by decide))]]
        refine i_120_79 (b_le (a := S 78 0) (b := x) ⟨by omega, by omega⟩ ⟨by omega, by omega⟩ fun c2 => ?_) (b_lt (a := x) (b := S 78 0) ⟨by omega, by omega⟩ ⟨by omega, by omega⟩ fun c2 => ?_)
        · refine i_120_89 (x := 30 + 3 * r.toNat) l1 ?_
          refine i_120_90 (x := 16) l2 ?_
          refine i_120_91 (x := 78) l0 ?_
          refine i_120_92 (x := Int32.ofInt x) l4 ?_
          refine i_120_94 (x := 30 + 3 * r.toNat) l1 ?_
          refine i_120_95 (v := Value.int (Int32.ofInt ((u2 (u2 (u2 (u2 S 16 0 (S (30 + 3 * r.toNat) 2)) 16 2 ((S (30 + 3 * r.toNat) 3) - (S (30 + 3 * r.toNat) 0))) 16 3 0) 16 2 (((S (30 + 3 * r.toNat) 3) - (S (30 + 3 * r.toNat) 0)) - 1)) (30 + 3 * r.toNat) 0))) (hR.k2 (kd_reg (r := r.toNat) (by omega))) rfl ?_
          rw [show Int32.ofInt ((u2 (u2 (u2 (u2 S 16 0 (S (30 + 3 * r.toNat) 2)) 16 2 ((S (30 + 3 * r.toNat) 3) - (S (30 + 3 * r.toNat) 0))) 16 3 0) 16 2 (((S (30 + 3 * r.toNat) 3) - (S (30 + 3 * r.toNat) 0)) - 1)) (30 + 3 * r.toNat) 0) = Int32.ofInt (S (30 + 3 * r.toNat) 0) by rw [u2_eq, if_neg (fun e => absurd e.2 (by decide)), u2_eq, if_neg (fun e => absurd e.2 (by decide)), u2_eq, if_neg (fun e => absurd e.2 (by decide)), u2_eq, if_neg (fun e => absurd e.1 (by omega))]]
          have hobj := hR.k1 kq_78
          have el : (u2 (u2 (u2 (u2 S 16 0 (S (30 + 3 * r.toNat) 2)) 16 2 ((S (30 + 3 * r.toNat) 3) - (S (30 + 3 * r.toNat) 0))) 16 3 0) 16 2 (((S (30 + 3 * r.toNat) 3) - (S (30 + 3 * r.toNat) 0)) - 1)) 78 0 = S 78 0 := by rw [u2_eq, if_neg (fun e => absurd e.2 (by decide)), u2_eq, if_neg (fun e => absurd e.2 (by decide)), u2_eq, if_neg (fun e => absurd e.2 (by decide)), u2_eq, if_neg (fun e => absurd e.1 (by decide))]
          have ed : (u2 (u2 (u2 (u2 S 16 0 (S (30 + 3 * r.toNat) 2)) 16 2 ((S (30 + 3 * r.toNat) 3) - (S (30 + 3 * r.toNat) 0))) 16 3 0) 16 2 (((S (30 + 3 * r.toNat) 3) - (S (30 + 3 * r.toNat) 0)) - 1)) 78 2 = S 78 2 := by rw [u2_eq, if_neg (fun e => absurd e.1 (by decide)), u2_eq, if_neg (fun e => absurd e.2 (by decide)), u2_eq, if_neg (fun e => absurd e.1 (by decide)), u2_eq, if_neg (fun e => absurd e.2 (by decide))]
          have hrun := x_unit (d := d + 6) (g := 78) (x := x) (p := S (30 + 3 * r.toNat) 0) hR kq_78 ⟨by omega, by omega⟩ (by rw [el]; omega) (by rw [ed]; omega)
          rw [el, ed] at hrun
          have hub := rU_b (p := S (30 + 3 * r.toNat) 0) (least := S 78 0) (gradual := S 78 2) (free := 0) (x := x)
          obtain ⟨u, hu⟩ : ∃ u : Int, u = rU (S (30 + 3 * r.toNat) 0) (S 78 0) (S 78 2) 0 x := ⟨_, rfl⟩
          rw [← hu] at hrun hub
          have hu2 : (x < S 78 0 ∧ u = S 78 0 - S (30 + 3 * r.toNat) 0) ∨ (S 78 0 ≤ x ∧ u = x - S (30 + 3 * r.toNat) 0) := by
            unfold rU at hu
            by_cases g : x < S 78 0
            · rw [if_pos ⟨rfl, by omega, g⟩] at hu; exact Or.inl ⟨g, hu⟩
            · rw [if_neg (fun e => g e.2.2)] at hu; exact Or.inr ⟨by omega, hu⟩
          refine i_120_98 hobj (Nat.le_of_ble_eq_true rfl) hrun ?_
          refine i_120_101 ?_
          have hobj := hR.k2 (kd_reg (r := r.toNat) (by omega))
          have ep : (u2 (u2 (u2 (u2 S 16 0 (S (30 + 3 * r.toNat) 2)) 16 2 ((S (30 + 3 * r.toNat) 3) - (S (30 + 3 * r.toNat) 0))) 16 3 0) 16 2 (((S (30 + 3 * r.toNat) 3) - (S (30 + 3 * r.toNat) 0)) - 1)) (30 + 3 * r.toNat) 0 = S (30 + 3 * r.toNat) 0 := by rw [u2_eq, if_neg (fun e => absurd e.2 (by decide)), u2_eq, if_neg (fun e => absurd e.2 (by decide)), u2_eq, if_neg (fun e => absurd e.2 (by decide)), u2_eq, if_neg (fun e => absurd e.1 (by omega))]
          have es : (u2 (u2 (u2 (u2 S 16 0 (S (30 + 3 * r.toNat) 2)) 16 2 ((S (30 + 3 * r.toNat) 3) - (S (30 + 3 * r.toNat) 0))) 16 3 0) 16 2 (((S (30 + 3 * r.toNat) 3) - (S (30 + 3 * r.toNat) 0)) - 1)) 16 0 = S (30 + 3 * r.toNat) 2 := by rw [u2_eq, if_neg (fun e => absurd e.2 (by decide)), u2_eq, if_neg (fun e => absurd e.2 (by decide)), u2_eq, if_neg (fun e => absurd e.2 (by decide)), u2_eq, if_pos ⟨rfl, rfl⟩]
          have ec : (u2 (u2 (u2 (u2 S 16 0 (S (30 + 3 * r.toNat) 2)) 16 2 ((S (30 + 3 * r.toNat) 3) - (S (30 + 3 * r.toNat) 0))) 16 3 0) 16 2 (((S (30 + 3 * r.toNat) 3) - (S (30 + 3 * r.toNat) 0)) - 1)) 16 2 = ((S (30 + 3 * r.toNat) 3) - (S (30 + 3 * r.toNat) 0)) - 1 := by rw [u2_eq, if_pos ⟨rfl, rfl⟩]
          have ev : (uv V 17 (((V ((30 + 3 * r.toNat) + 1)) * 2) - 1)) 17 = ((V ((30 + 3 * r.toNat) + 1)) * 2) - 1 := uv_s
          obtain ⟨w, hrun, S2, V2, hR, hB⟩ := x_mult (d := d + 1) (t := 30 + 3 * r.toNat) (h := 16) (unit := u) (og := 0) hR (kd_reg (r := r.toNat) (by omega)) kq_16 (by omega) (by omega) (by omega) (by rw [ep]; omega) (by rw [es]; omega) (by omega) (by rw [ev]; omega) (by rw [ev]; omega) (by rw [ec]; omega) ⟨by omega, by omega⟩ (by rw [ev, ec, ep]; omega)
          rw [ev, ec, es] at hB
          obtain ⟨b1, b2, b3, b4, b5⟩ := hB
          rw [ep] at b3
          obtain ⟨q, hq⟩ : ∃ q, q = rq (((V ((30 + 3 * r.toNat) + 1)) * 2) - 1) (u - (((S (30 + 3 * r.toNat) 3) - (S (30 + 3 * r.toNat) 0)) - 1)) + (0 : Int).toNat := ⟨_, rfl⟩
          rw [← hq] at b1 b3
          have fr : ∀ b j, b ≠ 16 → ¬ (b = 30 + 3 * r.toNat ∧ (j = 1 ∨ j = 2 ∨ j = 3)) → S2 b j = S b j := fun b j g1 g2 => by rw [b4 b j g2, u2_eq, if_neg (fun e => g1 e.1), u2_eq, if_neg (fun e => g1 e.1), u2_eq, if_neg (fun e => g1 e.1), u2_eq, if_neg (fun e => g1 e.1)]
          have frV : ∀ k, k ≠ 17 → k ≠ 30 + 3 * r.toNat + 1 → V2 k = V k := fun k g1 g2 => by rw [b5 k g2, uv_n g1]
          have fr0 : S2 78 0 = S 78 0 := fr _ _ (by decide) (by omega)
          have fr1 : S2 78 1 = S 78 1 := fr _ _ (by decide) (by omega)
          have hqv : (S (30 + 3 * r.toNat) 3 < S 78 0 ∧ S 78 2 ≠ 0 ∧ q = neaQ (V (30 + 3 * r.toNat + 1)) (S 78 0 - S (30 + 3 * r.toNat) 3) ∧ u = S 78 0 - S (30 + 3 * r.toNat) 0) ∨ (S 78 0 ≤ S (30 + 3 * r.toNat) 3 ∧ (nany (V (30 + 3 * r.toNat + 1)) (S (30 + 3 * r.toNat) 0 - 1) = false ∧ S 78 0 < S (30 + 3 * r.toNat) 3) ∧ q = V (30 + 3 * r.toNat + 1) * 2 - 1 ∧ u = S (30 + 3 * r.toNat) 3 - S (30 + 3 * r.toNat) 0 - 1) ∨ (S 78 0 ≤ S (30 + 3 * r.toNat) 3 ∧ ¬ (nany (V (30 + 3 * r.toNat + 1)) (S (30 + 3 * r.toNat) 0 - 1) = false ∧ S 78 0 < S (30 + 3 * r.toNat) 3) ∧ ¬ (nany (V (30 + 3 * r.toNat + 1)) (S (30 + 3 * r.toNat) 0 - 1) = false ∧ S (30 + 3 * r.toNat) 3 = S 78 0 ∧ S 78 2 = 0) ∧ q = V (30 + 3 * r.toNat + 1) - 1 ∧ u = S (30 + 3 * r.toNat) 3 - S (30 + 3 * r.toNat) 0) := by
            have hadd : q = rq (V (30 + 3 * r.toNat + 1) * 2 - 1) (u - (S (30 + 3 * r.toNat) 3 - S (30 + 3 * r.toNat) 0 - 1)) := hq
            by_cases g : S (30 + 3 * r.toNat) 3 < S 78 0
            · left
              have hxl : x < S 78 0 := by omega
              have hgd : S 78 2 ≠ 0 := by omega
              refine ⟨g, hgd, ?_, by omega⟩
              rw [hadd, show u - (S (30 + 3 * r.toNat) 3 - S (30 + 3 * r.toNat) 0 - 1) = (S 78 0 - S (30 + 3 * r.toNat) 3) + 1 by omega]
              unfold rq
              rw [if_pos (by omega)]
              exact nea_q (by omega) hm_r
            · right
              by_cases g2 : nany (V (30 + 3 * r.toNat + 1)) (S (30 + 3 * r.toNat) 0 - 1) = false ∧ S 78 0 < S (30 + 3 * r.toNat) 3
              · left
                have hx1 : x = S (30 + 3 * r.toNat) 3 - 1 := by
                  rcases hxx with h | h
                  · exact h.2
                  · rw [g2.1] at h; exact absurd h.1 (by decide)
                refine ⟨by omega, g2, ?_, by omega⟩
                rw [hadd, show u - (S (30 + 3 * r.toNat) 3 - S (30 + 3 * r.toNat) 0 - 1) = 0 by omega]
                exact Nat.mul_one _
              · right
                have hgz : ¬ (nany (V (30 + 3 * r.toNat + 1)) (S (30 + 3 * r.toNat) 0 - 1) = false ∧ S (30 + 3 * r.toNat) 3 = S 78 0 ∧ S 78 2 = 0) := fun e => by
                  rcases hxx with h | h
                  · omega
                  · rw [e.1] at h; exact absurd h.1 (by decide)
                refine ⟨by omega, g2, hgz, ?_, ?_⟩
                · have hu3 : u = S (30 + 3 * r.toNat) 3 - S (30 + 3 * r.toNat) 0 := by
                    rcases hxx with h | h
                    · have : ¬ S 78 0 < S (30 + 3 * r.toNat) 3 := fun e => g2 ⟨h.1, e⟩
                      omega
                    · omega
                  rw [hadd, show u - (S (30 + 3 * r.toNat) 3 - S (30 + 3 * r.toNat) 0 - 1) = 1 by omega]
                  unfold rq
                  rw [if_pos (by decide)]
                  show (V (30 + 3 * r.toNat + 1) * 2 - 1) / 2 = _
                  omega
                · rcases hxx with h | h
                  · have : ¬ S 78 0 < S (30 + 3 * r.toNat) 3 := fun e => g2 ⟨h.1, e⟩
                    omega
                  · omega
          refine i_120_102 hobj (Nat.le_of_ble_eq_true rfl) hrun ?_
          refine i_120_105 ?_
          by_cases hq0 : q = 0
          · have eo : sNea (vS S) (vV V) r.toNat = (2, 0, 0) := by
              simp only [sNea, vS_153, vS_154, vS_155, vS_156, vS_17, vS_18, vS_19, vS_20, vV_r]
              rw [if_neg (by omega)]
              rcases hqv with ⟨g1, g2, g3, g4⟩ | ⟨g1, g2, g3, g4⟩ | ⟨g1, g2, g5, g3, g4⟩
              · rw [if_pos g1, if_pos (Or.inr (by rw [← g3]; exact hq0))]
              · exfalso; omega
              · exfalso; have := hz_m1; omega
            rw [eo]
            exact ⟨rfl, _, _, hR, by rw [if_pos hq0] at b1; exact b1, b2, fun e => absurd (show (2 : Int) = 3 from e) (by decide), fr, frV⟩
          · have eo : sNea (vS S) (vV V) r.toNat = (3, (xbl q : Int) + u, nrm q (S (30 + 3 * r.toNat) 0)) := by
              simp only [sNea, vS_153, vS_154, vS_155, vS_156, vS_17, vS_18, vS_19, vS_20, vV_r]
              rw [if_neg (by omega)]
              rcases hqv with ⟨g1, g2, g3, g4⟩ | ⟨g1, g2, g3, g4⟩ | ⟨g1, g2, g5, g3, g4⟩
              · rw [if_pos g1, if_neg (fun e => by rcases e with e | e; exact g2 e; exact hq0 (g3.trans e)), ← g3, g4]; rfl
              · rw [if_neg (by omega), if_neg (fun e => by omega), if_pos g2, show V (30 + 3 * r.toNat + 1) * 2 ^ (1 : Int).toNat - 1 = q from g3.symm, g4]; rfl
              · rw [if_neg (by omega), if_neg g5, if_neg g2, ← g3, g4]; rfl
            rw [eo]
            exact ⟨rfl, _, _, hR, by rw [if_neg hq0] at b1; exact b1, b2, fun _ => b3 hq0, fr, frV⟩
        · refine i_120_82 (x := 30 + 3 * r.toNat) l1 ?_
          refine i_120_83 (x := Int32.ofInt (S (30 + 3 * r.toNat) 2)) l3 ?_
          have hobj := hR.k2 (kd_reg (r := r.toNat) (by omega))
          obtain ⟨w, hrun, hR⟩ := x_zero (d := d + 5) (t := 30 + 3 * r.toNat) (sg := S (30 + 3 * r.toNat) 2) hR (kd_reg (r := r.toNat) (by omega)) (by first | omega | exact bb_01 _)
          refine i_120_84 hobj (Nat.le_of_ble_eq_true rfl) hrun ?_
          refine i_120_87 rfl ?_
          refine i_120_88 ?_
          have eo : sNea (vS S) (vV V) r.toNat = (2, 0, 0) := by
            simp only [sNea, vS_153, vS_154, vS_155, vS_156, vS_17, vS_18, vS_19, vS_20, vV_r]
            rw [if_neg (by omega)]
            by_cases g : S (30 + 3 * r.toNat) 3 < S 78 0
            · rw [if_pos g, if_pos (Or.inl (by omega))]
            · rw [if_neg g, if_pos ⟨by rcases hxx with h | h; exact h.1; omega, by omega, by omega⟩]
          rw [eo]
          exact ⟨rfl, _, _, hR, by rw [u2_eq, if_neg (fun e => absurd e.2 (by decide)), u2_eq, if_pos ⟨rfl, rfl⟩], by rw [u2_eq, if_pos ⟨rfl, rfl⟩], fun e => absurd (show (2 : Int) = 3 from e) (by decide), fun b j g1 g2 => by rw [u2_eq, if_neg (fun e => g2 ⟨e.1, by rw [e.2]; decide⟩), u2_eq, if_neg (fun e => g2 ⟨e.1, by rw [e.2]; decide⟩), u2_eq, if_neg (fun e => g1 e.1), u2_eq, if_neg (fun e => g1 e.1), u2_eq, if_neg (fun e => g1 e.1), u2_eq, if_neg (fun e => g1 e.1)], fun k g1 g2 => (uv_n g1).trans (rfl)⟩
    · refine i_120_16 (x := 30 + 3 * r.toNat) l1 ?_
      refine i_120_17 (x := Int32.ofInt (S (30 + 3 * r.toNat) 2)) l3 ?_
      refine i_120_18 (x := 78) l0 ?_
      refine i_120_19 (v := Value.int (Int32.ofInt (S 78 1))) (hR.k1 kq_78) rfl ?_
      have hobj := hR.k2 (kd_reg (r := r.toNat) (by omega))
      have ep : S (30 + 3 * r.toNat) 0 = S (30 + 3 * r.toNat) 0 := by rfl
      obtain ⟨w, hrun, hR⟩ := x_great (d := d + 2) (t := 30 + 3 * r.toNat) (sg := S (30 + 3 * r.toNat) 2) (pw := S 78 1) hR (kd_reg (r := r.toNat) (by omega)) (by first | omega | exact bb_01 _) (by rw [ep]; omega)
      rw [ep] at hR
      refine i_120_22 hobj (Nat.le_of_ble_eq_true rfl) hrun ?_
      refine i_120_25 ?_
      have eo : sNea (vS S) (vV V) r.toNat = (3, xbl (2 ^ (S (30 + 3 * r.toNat) 0).toNat - 1) + (S 78 1 - S (30 + 3 * r.toNat) 0), nrm (2 ^ (S (30 + 3 * r.toNat) 0).toNat - 1) (S (30 + 3 * r.toNat) 0)) := by simp only [sNea, vS_153, vS_154, vS_155, vS_156, vS_17, vS_18, vS_19, vS_20, vV_r]; rw [if_pos (Or.inr (by omega))]; rfl
      rw [eo]
      exact ⟨rfl, _, _, hR, by rw [u2_eq, if_neg (fun e => absurd e.2 (by decide)), u2_eq, if_neg (fun e => absurd e.2 (by decide)), u2_eq, if_pos ⟨rfl, rfl⟩], by rw [u2_eq, if_neg (fun e => absurd e.2 (by decide)), u2_eq, if_pos ⟨rfl, rfl⟩], fun _ => ⟨show (u2 (u2 (u2 S (30 + 3 * r.toNat) 1 3) (30 + 3 * r.toNat) 2 (S (30 + 3 * r.toNat) 2)) (30 + 3 * r.toNat) 3 (S 78 1)) (30 + 3 * r.toNat) 3 = xbl (2 ^ (S (30 + 3 * r.toNat) 0).toNat - 1) + (S 78 1 - S (30 + 3 * r.toNat) 0) from by rw [u2_eq, if_pos ⟨rfl, rfl⟩]; rw [xbl_ones]; omega, by rw [uv_s, nrm_ones (by omega)]⟩, fun b j g1 g2 => by rw [u2_eq, if_neg (fun e => g2 ⟨e.1, by rw [e.2]; decide⟩), u2_eq, if_neg (fun e => g2 ⟨e.1, by rw [e.2]; decide⟩), u2_eq, if_neg (fun e => g2 ⟨e.1, by rw [e.2]; decide⟩)], fun k g1 g2 => (uv_n g2).trans (rfl)⟩
  obtain ⟨o, w', h1, rfl, h2⟩ := (key (lv_args 0 [Value.ref 78, Value.ref (30 + 3 * r.toNat), Value.ref 16]) rfl rfl rfl).run
  exact ⟨w', h1, h2⟩
end
