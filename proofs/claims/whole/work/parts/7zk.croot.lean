/-! refine of the class: a step of Newton -/
theorem td_e {a b : Int} (hb : 0 < b) : (0 ≤ a → Int.tdiv a b = a / b) ∧ (Int.tdiv a b * b = a → Int.tdiv a b = a / b) ∧ (a < 0 → Int.tdiv a b * b ≠ a → Int.tdiv a b - 1 = a / b) := by
  have h := Int.tdiv_eq_ediv (a := a) (b := b)
  refine ⟨fun h0 => by rw [h, if_pos (Or.inl h0)]; omega, fun h0 => ?_, fun h0 h1 => ?_⟩
  · have hd : b ∣ a := ⟨Int.tdiv a b, by rw [Int.mul_comm]; exact h0.symm⟩
    rw [h, if_pos (Or.inr hd)]
    omega
  · have hnd : ¬ (0 ≤ a ∨ b ∣ a) := by
      rintro (h2 | h2)
      · omega
      · exact h1 (Int.tdiv_mul_cancel h2)
    rw [h, if_neg hnd, Int.sign_eq_one_of_pos hb]
    omega
theorem s_fdiv {d : Nat} {w : xW} {a b : Int} (ha : -1073741824 ≤ a ∧ a < 1073741824) (hb : 0 < b ∧ b < 1073741824) : xRun (d + 1) 275 [.int (Int32.ofInt a), .int (Int32.ofInt b)] w (.inl (some (.int (Int32.ofInt (a / b))))) w := by
  have te := td_e (a := a) hb.1
  have tb := tmod_b (a := a) hb.1
  have tm : Int.tdiv a b * b = a - Int.tmod a b := by rw [Int.tmod_def, Int.mul_comm]; omega
  have key : xEv (d + 1) 275 0 (lv_args 0 [.int (Int32.ofInt a), .int (Int32.ofInt b)]) [] w (fun o w' => o = .inl (some (.int (Int32.ofInt (a / b)))) ∧ w' = w) := by
    refine i_275_0 (x := Int32.ofInt a) rfl ?_
    refine i_275_1 (x := Int32.ofInt b) rfl ?_
    refine i_275_2 (c := Int32.ofInt (Int.tdiv a b)) (o_nz (b := b) ⟨by omega, by omega⟩) (o_tdiv (a := a) (b := b) ⟨by omega, by omega⟩ ⟨by omega, by omega⟩) ?_
    refine i_275_3 (lv2 := [(2, Value.int (Int32.ofInt (Int.tdiv a b))), (0, Value.int (Int32.ofInt a)), (1, Value.int (Int32.ofInt b))]) rfl ?_
    refine i_275_4 (x := Int32.ofInt a) rfl ?_
    refine i_275_5 (x := Int32.ofInt b) rfl ?_
    refine i_275_6 rfl ?_
    refine i_275_7 (xr_ge (a := a) (b := b) ⟨by omega, by omega⟩ ⟨by omega, by omega⟩ fun c0 => ?_) (xr_lt (a := a) (b := b) ⟨by omega, by omega⟩ ⟨by omega, by omega⟩ fun c0 => ?_)
    · refine i_275_21 (x := Int32.ofInt (Int.tdiv a b)) rfl ?_
      refine i_275_22 ?_
      have e : a / b = Int.tdiv a b := by first | exact (te.1 (by omega)).symm | exact (te.2.1 (by omega)).symm | exact (te.2.2 (by omega) (by omega)).symm
      rw [e]
      exact ⟨rfl, rfl⟩
    · refine i_275_10 (x := Int32.ofInt (Int.tdiv a b)) rfl ?_
      refine i_275_11 (x := Int32.ofInt b) rfl ?_
      refine i_275_12 (c := Int32.ofInt ((Int.tdiv a b) * b)) (o_mul (Int.tdiv a b) b) ?_
      refine i_275_13 (x := Int32.ofInt a) rfl ?_
      refine i_275_14 (b_eq (a := (Int.tdiv a b) * b) (b := a) ⟨by omega, by omega⟩ ⟨by omega, by omega⟩ fun c1 => ?_) (b_ne (a := (Int.tdiv a b) * b) (b := a) ⟨by omega, by omega⟩ ⟨by omega, by omega⟩ fun c1 => ?_)
      · refine i_275_21 (x := Int32.ofInt (Int.tdiv a b)) rfl ?_
        refine i_275_22 ?_
        have e : a / b = Int.tdiv a b := by first | exact (te.1 (by omega)).symm | exact (te.2.1 (by omega)).symm | exact (te.2.2 (by omega) (by omega)).symm
        rw [e]
        exact ⟨rfl, rfl⟩
      · refine i_275_17 (x := Int32.ofInt (Int.tdiv a b)) rfl ?_
        refine i_275_18 ?_
        refine i_275_19 (c := Int32.ofInt ((Int.tdiv a b) - 1)) (o_sub (Int.tdiv a b) 1) ?_
        refine i_275_20 ?_
        have e : a / b = (Int.tdiv a b) - 1 := by first | exact (te.1 (by omega)).symm | exact (te.2.1 (by omega)).symm | exact (te.2.2 (by omega) (by omega)).symm
        rw [e]
        exact ⟨rfl, rfl⟩
  obtain ⟨o, w', h1, rfl, h2⟩ := key.run
  subst h2; exact h1
def scr (i : Nat) : Prop := i = 80 ∨ i = 82 ∨ i = 84 ∨ i = 87 ∨ i = 89 ∨ i = 91 ∨ i = 102 ∨ i = 104 ∨ i = 106
/-- a search of a root under way -/
def fS (S : Nat → Nat → Int) (V : Nat → Nat) (S1 : Nat → Nat → Int) (V1 : Nat → Nat) (hr : Nat) (lift E : Int) (k P g : Nat) : Prop :=
  (∀ b j, b ≠ 79 → b ≠ 101 → S1 b j = S b j) ∧ S1 101 5 = (hr : Int) ∧ S1 101 6 = lift ∧ S1 101 7 = (k : Int) + 1 ∧ S1 101 8 = (P : Int) ∧ S1 101 9 = E ∧ pwP S1 ∧ V1 104 = g ∧ ∀ i, ¬ scr i → V1 i = V i
def rQ (s : Nat) (lift : Int) (k P N g : Nat) : Nat := shf s (lift + 32 * (N : Int) + 32 * (P : Int) * (k : Int) - (pR ((N : Int) + 2) g k).2.1) / (pR ((N : Int) + 2) g k).1
section
variable {w0 w : xW} {L Z : Nat} {S S1 : Nat → Nat → Int} {V V1 : Nat → Nat} {d hv hr k P N g : Nat} {lv : xLv} {Q : Option Value ⊕ Nat → xW → Prop} {lift sc t E : Int}
set_option maxHeartbeats 4000000 in
theorem rf_B (hR : cX w0 L Z S V w) (khr : kd hr = 3) (q5 : S 101 5 = (hr : Int)) (q6 : S 101 6 = lift) (q7 : S 101 7 = (k : Int) + 1) (q8 : S 101 8 = (P : Int)) (e0 : S 79 0 = (hv : Int)) (e3 : S 79 3 = sc) (hd : hv = 80 ∨ hv = 82) (ht : lift + 32 * (N : Int) + 32 * (P : Int) * ((k : Int) + 1 - 1) - sc = t) (t0 : -1000000 ≤ t) (t1 : (xbl (V hr) : Int) + t ≤ 500000 ∧ t ≤ 300000 ∧ xbl (V hr) ≤ 200000) (hk : 1 ≤ k ∧ k ≤ 31) (hPN : P ≤ N) (hN : N ≤ 140) (hG : V hv ≠ 0) (bG : xbl (V hv) ≤ 600000) (bg : xbl (V 104) ≤ 5000) (l0 : xld lv 0 = some (Value.ref 101)) (l1 : xld lv 1 = some (Value.int (Int32.ofInt (N : Int)))) (hQ : ∀ w' S' V', cX w0 L Z S' V' w' → (∀ b j, ¬ (b = 101 ∧ j = 8) → S' b j = S b j) → S' 101 8 = (N : Int) → V' 104 = (k * (V 104 * 2 ^ (32 * (N - P))) + shf (V hr) t / V hv) / (k + 1) → (∀ i, i ≠ 87 → i ≠ 89 → i ≠ 91 → i ≠ 102 → i ≠ 104 → V' i = V i) → Q (.inl none) w') : xEv (d + 6) 82 20 lv [] w Q := by
  have khv : kd hv = 3 := by rcases hd with rfl | rfl <;> decide +kernel
  have hb1 : xbl (shf (V 104) (32 * ((N : Int) - (P : Int))) * k + 0) ≤ 638000 := by
    have h1 := xbl_prod (shf (V 104) (32 * ((N : Int) - (P : Int)))) k
    have h2 : xbl k ≤ 5 := xbl_le (by omega)
    have h3 := shf_ble (V 104) (32 * ((N : Int) - (P : Int)))
    rw [Nat.add_zero]
    omega
  refine i_82_20 (x := 101) l0 ?_
  refine i_82_21 (v := Value.ref 102) (hR.k9 kq_101) rfl ?_
  refine i_82_24 (x := 101) l0 ?_
  refine i_82_25 (v := Value.ref (S 101 5).toNat) (hR.k9 kq_101) rfl ?_
  rw [show (S 101 5).toNat = hr by rw [q5]; rfl]
  refine i_82_28 (x := 101) l0 ?_
  refine i_82_29 (v := Value.int (Int32.ofInt (S 101 6))) (hR.k9 kq_101) rfl ?_
  rw [q6]
  refine i_82_32 ?_
  refine i_82_34 (x := Int32.ofInt (N : Int)) l1 ?_
  refine i_82_35 (c := Int32.ofInt (32 * (N : Int))) (o_mul 32 (N : Int)) ?_
  refine i_82_36 (c := Int32.ofInt (lift + (32 * (N : Int)))) (o_add lift (32 * (N : Int))) ?_
  refine i_82_37 ?_
  refine i_82_39 (x := 101) l0 ?_
  refine i_82_40 (v := Value.int (Int32.ofInt (S 101 8))) (hR.k9 kq_101) rfl ?_
  rw [q8]
  refine i_82_43 (c := Int32.ofInt (32 * (P : Int))) (o_mul 32 (P : Int)) ?_
  refine i_82_44 (x := 101) l0 ?_
  refine i_82_45 (v := Value.int (Int32.ofInt (S 101 7))) (hR.k9 kq_101) rfl ?_
  rw [q7]
  refine i_82_48 ?_
  refine i_82_49 (c := Int32.ofInt (((k : Int) + 1) - 1)) (o_sub ((k : Int) + 1) 1) ?_
  refine i_82_50 (c := Int32.ofInt ((32 * (P : Int)) * (((k : Int) + 1) - 1))) (o_mul (32 * (P : Int)) (((k : Int) + 1) - 1)) ?_
  refine i_82_51 (c := Int32.ofInt ((lift + (32 * (N : Int))) + ((32 * (P : Int)) * (((k : Int) + 1) - 1)))) (o_add (lift + (32 * (N : Int))) ((32 * (P : Int)) * (((k : Int) + 1) - 1))) ?_
  refine i_82_52 (x := 101) l0 ?_
  refine i_82_53 (v := Value.ref 79) (hR.k9 kq_101) rfl ?_
  refine i_82_56 (v := Value.int (Int32.ofInt (S 79 3))) (hR.k6 kq_79) rfl ?_
  rw [e3]
  refine i_82_59 (c := Int32.ofInt t) ((o_sub ((lift + (32 * (N : Int))) + ((32 * (P : Int)) * (((k : Int) + 1) - 1))) sc).trans (by rw [ht])) ?_
  obtain ⟨fs, hobj⟩ := hR.nat kq_102
  obtain ⟨w, hrun, hR⟩ := X_shift (d := d + 2) (h := 102) (h2 := hr) (u := V hr) (k := t) hR kq_102 khr (rfl) (by omega) (by omega)
  refine i_82_60 hobj (Nat.le_of_ble_eq_true rfl) hrun ?_
  refine i_82_63 (x := 101) l0 ?_
  refine i_82_64 (v := Value.ref 86) (hR.k9 kq_101) rfl ?_
  refine i_82_67 (x := 101) l0 ?_
  refine i_82_68 (v := Value.ref 102) (hR.k9 kq_101) rfl ?_
  refine i_82_71 (x := 101) l0 ?_
  refine i_82_72 (v := Value.ref 79) (hR.k9 kq_101) rfl ?_
  refine i_82_75 (v := Value.ref (S 79 0).toNat) (hR.k6 kq_79) rfl ?_
  rw [show (S 79 0).toNat = hv by rw [e0]; rfl]
  have exx : (uv V 102 (shf (V hr) t)) 102 = shf (V hr) t := uv_s
  have eyy : (uv V 102 (shf (V hr) t)) hv = V hv := (uv_n (by omega)).trans (rfl)
  have hobj := hR.k7 kq_86
  obtain ⟨w, hrun, z1, hR⟩ := X_divide (d := d + 1) (hx := 102) (hy := hv) hR kq_102 khv (by decide) (by decide) (by decide) (by omega) (by omega) (by omega) (by rw [eyy]; exact hG) (by rw [exx]; have := shf_ble (V hr) t; omega) (by rw [eyy]; exact bG)
  rw [exx, eyy] at hR
  refine i_82_78 hobj (Nat.le_of_ble_eq_true rfl) hrun ?_
  refine i_82_81 (x := 101) l0 ?_
  refine i_82_82 (v := Value.ref 104) (hR.k9 kq_101) rfl ?_
  refine i_82_85 (x := 101) l0 ?_
  refine i_82_86 (v := Value.ref 104) (hR.k9 kq_101) rfl ?_
  refine i_82_89 ?_
  refine i_82_91 (x := Int32.ofInt (N : Int)) l1 ?_
  refine i_82_92 (x := 101) l0 ?_
  refine i_82_93 (v := Value.int (Int32.ofInt (S 101 8))) (hR.k9 kq_101) rfl ?_
  rw [q8]
  refine i_82_96 (c := Int32.ofInt ((N : Int) - (P : Int))) (o_sub (N : Int) (P : Int)) ?_
  refine i_82_97 (c := Int32.ofInt (32 * ((N : Int) - (P : Int)))) (o_mul 32 ((N : Int) - (P : Int))) ?_
  obtain ⟨fs, hobj⟩ := hR.nat kq_104
  obtain ⟨w, hrun, hR⟩ := X_shift (d := d + 2) (h := 104) (h2 := 104) (u := V 104) (k := 32 * ((N : Int) - (P : Int))) hR kq_104 kq_104 ((uv_n (by omega)).trans ((uv_n (by omega)).trans ((uv_n (by omega)).trans ((uv_n (by omega)).trans (rfl))))) (by omega) (by omega)
  refine i_82_98 hobj (Nat.le_of_ble_eq_true rfl) hrun ?_
  refine i_82_101 (x := 101) l0 ?_
  refine i_82_102 (v := Value.ref 104) (hR.k9 kq_101) rfl ?_
  refine i_82_105 (x := 101) l0 ?_
  refine i_82_106 (v := Value.int (Int32.ofInt (S 101 7))) (hR.k9 kq_101) rfl ?_
  rw [q7]
  refine i_82_109 ?_
  refine i_82_110 (c := Int32.ofInt (((k : Int) + 1) - 1)) (o_sub ((k : Int) + 1) 1) ?_
  refine i_82_111 ?_
  rw [show ((k : Int) + 1) - 1 = (k : Int) by omega]
  obtain ⟨fs, hobj⟩ := hR.nat kq_104
  obtain ⟨w, hrun, hR⟩ := X_mad (d := d + 2) (h := 104) (u := shf (V 104) (32 * ((N : Int) - (P : Int)))) (f := k) (g := 0) hR kq_104 (uv_s) (by omega) (by omega) (by omega) (by have := shf_ble (V 104) (32 * ((N : Int) - (P : Int))); omega)
  rw [show Int32.ofInt ((0 : Nat) : Int) = 0 from rfl] at hrun
  rw [uvv] at hR
  refine i_82_112 hobj (Nat.le_of_ble_eq_true rfl) hrun ?_
  refine i_82_115 (x := 101) l0 ?_
  refine i_82_116 (v := Value.ref 104) (hR.k9 kq_101) rfl ?_
  refine i_82_119 (x := 101) l0 ?_
  refine i_82_120 (v := Value.ref 86) (hR.k9 kq_101) rfl ?_
  refine i_82_123 (v := Value.ref 87) (hR.k7 kq_86) rfl ?_
  refine i_82_126 ?_
  obtain ⟨fs, hobj⟩ := hR.nat kq_104
  obtain ⟨w, hrun, hR⟩ := X_addsh (d := d + 1) (h := 104) (h2 := 87) (u := (shf (V 104) (32 * ((N : Int) - (P : Int)))) * k + 0) (v2 := (shf (V hr) t) / (V hv)) (k := 0) hR kq_104 kq_87 (by decide) (uv_s) ((uv_n (by omega)).trans ((uv_n (by omega)).trans ((uv_n (by omega)).trans (uv_s)))) (by decide) hb1 (by have := xbl_mono (Nat.div_le_self (shf (V hr) t) (V hv)); have := shf_ble (V hr) t; omega)
  rw [uvv] at hR
  refine i_82_127 hobj (Nat.le_of_ble_eq_true rfl) hrun ?_
  refine i_82_130 (x := 101) l0 ?_
  refine i_82_131 (v := Value.ref 104) (hR.k9 kq_101) rfl ?_
  refine i_82_134 (x := 101) l0 ?_
  refine i_82_135 (v := Value.int (Int32.ofInt (S 101 7))) (hR.k9 kq_101) rfl ?_
  rw [q7]
  rw [show (k : Int) + 1 = ((k + 1 : Nat) : Int) by omega]
  obtain ⟨fs, hobj⟩ := hR.nat kq_104
  obtain ⟨w, hrun, hR⟩ := X_divBy (d := d + 4) (h := 104) (u := ((shf (V 104) (32 * ((N : Int) - (P : Int)))) * k + 0) + shf ((shf (V hr) t) / (V hv)) 0) (dv := k + 1) hR kq_104 (uv_s) ⟨by omega, by omega⟩
  rw [uvv] at hR
  refine i_82_138 hobj (Nat.le_of_ble_eq_true rfl) hrun ?_
  refine i_82_141 rfl ?_
  refine i_82_142 (x := 101) l0 ?_
  refine i_82_143 (x := Int32.ofInt (N : Int)) l1 ?_
  refine i_82_144 (fs2 := f9 (u1 (S 101) 8 (N : Int))) (hR.k9 kq_101) (Nat.le_of_ble_eq_true rfl) rfl (h7k kq_101 (by decide)) ?_
  refine xgen (P := cX w0 L Z (u2 S 101 8 (N : Int)) (uv (uv (uv (uv (uv V 102 (shf (V hr) t)) 87 ((shf (V hr) t) / (V hv))) 91 z1) 89 ((shf (V hr) t) % (V hv))) 104 ((((shf (V 104) (32 * ((N : Int) - (P : Int)))) * k + 0) + shf ((shf (V hr) t) / (V hv)) 0) / (k + 1)))) (hR.p9 kq_101) (fun w hR => ?_)
  refine i_82_147 ?_
  refine hQ _ _ _ hR (fun b j hb => by rw [u2_eq, if_neg hb]) (by rw [u2_eq, if_pos ⟨rfl, rfl⟩]) ?_ (fun i i1 i2 i3 i4 i5 => ?_)
  · rw [uv_s]
    rw [show 32 * ((N : Int) - (P : Int)) = ((32 * (N - P) : Nat) : Int) by omega, shf_p, shf_z, Nat.add_zero, Nat.mul_comm _ k]
  · simp only [uv_e]
    rw [if_neg (by omega), if_neg (by omega), if_neg (by omega), if_neg (by omega), if_neg (by omega)]
set_option maxHeartbeats 4000000 in
theorem x_refine (hR : cX w0 L Z S1 V1 w) (hf : fS S V S1 V1 hr lift E k P g) (khr : kd hr = 3) (nhr : ¬ scr hr) (hk : 1 ≤ k ∧ k ≤ 31) (hPN : P ≤ N) (hN : N ≤ 140) (bs : xbl (V hr) ≤ 200000) (bl : -200000 ≤ lift ∧ lift ≤ 100 ∧ (xbl (V hr) : Int) + lift ≤ 33) (bg : xbl g ≤ 5000) (hg0 : 0 < g) : ∃ w', xRun (d + 6) 82 [Value.ref 101, Value.int (Int32.ofInt (N : Int))] w (.inl none) w' ∧ ∃ S' V', cX w0 L Z S' V' w' ∧ fS S V S' V' hr lift E k N ((k * (g * 2 ^ (32 * (N - P))) + rQ (V hr) lift k P N g) / (k + 1)) ∧ V' 106 = V1 106 := by
  have key : ∀ lv, xld lv 0 = some (Value.ref 101) → xld lv 1 = some (Value.int (Int32.ofInt (N : Int))) → xEv (d + 6) 82 0 lv [] w (fun o w' => o = .inl none ∧ ∃ S' V', cX w0 L Z S' V' w' ∧ fS S V S' V' hr lift E k N ((k * (g * 2 ^ (32 * (N - P))) + rQ (V hr) lift k P N g) / (k + 1)) ∧ V' 106 = V1 106) := by
    intro lv l0 l1
    obtain ⟨q0, q5, q6, q7, q8, q9, qp, qg, qv⟩ := hf
    refine i_82_0 (x := 101) l0 ?_
    refine i_82_1 (v := Value.ref 79) (hR.k9 kq_101) rfl ?_
    refine i_82_4 (x := 101) l0 ?_
    refine i_82_5 (v := Value.ref 104) (hR.k9 kq_101) rfl ?_
    refine i_82_8 (x := 101) l0 ?_
    refine i_82_9 (v := Value.int (Int32.ofInt (S1 101 7))) (hR.k9 kq_101) rfl ?_
    rw [q7]
    refine i_82_12 ?_
    refine i_82_13 (c := Int32.ofInt (((k : Int) + 1) - 1)) (o_sub ((k : Int) + 1) 1) ?_
    refine i_82_14 (x := Int32.ofInt (N : Int)) l1 ?_
    refine i_82_15 ?_
    refine i_82_16 (c := Int32.ofInt ((N : Int) + 2)) (o_add (N : Int) 2) ?_
    rw [show ((k : Int) + 1) - 1 = (k : Int) by omega]
    have hobj := hR.k6 kq_79
    obtain ⟨hv, hs, e0, e1, hd⟩ : ∃ hv hs : Nat, S1 79 0 = (hv : Int) ∧ S1 79 1 = (hs : Int) ∧ ((hv = 80 ∧ hs = 82) ∨ (hv = 82 ∧ hs = 80)) := by
      rcases qp with ⟨a1, a2⟩ | ⟨a1, a2⟩
      · exact ⟨80, 82, a1, a2, Or.inl ⟨rfl, rfl⟩⟩
      · exact ⟨82, 80, a1, a2, Or.inr ⟨rfl, rfl⟩⟩
    obtain ⟨w, hrun, S2, V2, hv2, hs2, hR, hp⟩ := x_raise (d := d) (hb := 104) (n := (k : Int)) (most := (N : Int) + 2) hR kq_104 (by decide) (by decide) (by decide) e0 e1 hd ⟨by omega, by omega⟩ ⟨by omega, by omega⟩ (by rw [qg]; omega) (pOk_cut (by omega) (by omega) _ _ (by show ((xbl 1 : Nat) : Int) ≤ _; rw [xbl_one]; omega))
    refine i_82_17 hobj (Nat.le_of_ble_eq_true rfl) hrun ?_
    obtain ⟨p1, p2, p3, p4, p5, p6, p7, p8, p9, p10⟩ := hp
    rw [qg] at p4 p5 p6
    replace p4 : S2 79 3 = (pR ((N : Int) + 2) g k).2.1 := p4
    replace p6 : V2 hv2 = (pR ((N : Int) + 2) g k).1 := p6
    have hJ := pR_J (most := (N : Int) + 2) (W := 2 ^ (32 * (N + 1))) (b := g) (n := k) (by omega) (by rw [show ((N : Int) + 2).toNat - 1 = N + 1 by omega]) hg0 hk.1 (by omega)
    have hxb : (xbl (pR ((N : Int) + 2) g k).1 : Int) ≤ 32 * ((N : Int) + 2) := pF_b (by omega) _ _ (by show ((xbl 1 : Nat) : Int) ≤ _; rw [xbl_one]; omega)
    have hsc1 : (pR ((N : Int) + 2) g k).2.1 ≤ 200000 := by
      have a1 := hJ.2.2.1
      unfold pA at a1
      have a2 : 2 ^ ((pR ((N : Int) + 2) g k).2.1.toNat) ≤ g ^ k := Nat.le_trans (Nat.le_mul_of_pos_left _ hJ.1) a1
      have a3 := xbl_ge a2
      have a4 := xbl_npow g k
      have a5 : k * xbl g ≤ 31 * 5000 := Nat.mul_le_mul hk.2 bg
      omega
    have hsc0 := hJ.2.1
    have hpk : (P : Int) * (k : Int) ≤ 140 * 31 ∧ 0 ≤ (P : Int) * (k : Int) := by
      refine ⟨?_, Int.mul_nonneg (by omega) (by omega)⟩
      exact Int.mul_le_mul (by omega) (by omega) (by omega) (by omega)
    have epk : 32 * (P : Int) * (k : Int) = 32 * ((P : Int) * (k : Int)) := Int.mul_assoc _ _ _
    have e104 : V2 104 = g := (p8 104 (by decide) (by decide) (by decide)).trans qg
    have ehr : V2 hr = V hr := (p8 hr (fun e => nhr (by unfold scr; omega)) (fun e => nhr (by unfold scr; omega)) (fun e => nhr (by unfold scr; omega))).trans (qv hr nhr)
    refine rf_B (hr := hr) (hv := hv2) (lift := lift) (k := k) (P := P) (N := N) (sc := (pR ((N : Int) + 2) g k).2.1) (t := lift + 32 * (N : Int) + 32 * (P : Int) * (k : Int) - (pR ((N : Int) + 2) g k).2.1) hR khr ((p1 101 5 (by decide)).trans q5) ((p1 101 6 (by decide)).trans q6) ((p1 101 7 (by decide)).trans q7) ((p1 101 8 (by decide)).trans q8) p2 p4 (by omega) (by rw [show (k : Int) + 1 - 1 = (k : Int) by omega]) (by omega) (by rw [ehr]; omega) hk hPN hN (by rw [p6]; exact Nat.ne_of_gt hJ.1) (by rw [p6]; omega) (by rw [e104]; exact bg) l0 l1 (fun w' S' V' hX f1 f2 f3 f4 => ⟨rfl, S', V', hX, ?_, ?_⟩)
    · rw [e104, ehr, p6] at f3
      refine ⟨fun b j b1 b2 => ?_, ?_, ?_, ?_, f2, ?_, ?_, f3, fun i hi => ?_⟩
      · rw [f1 b j (fun e => b2 e.1), p1 b j b1]; exact q0 b j b1 b2
      · rw [f1 101 5 (by decide), p1 101 5 (by decide)]; exact q5
      · rw [f1 101 6 (by decide), p1 101 6 (by decide)]; exact q6
      · rw [f1 101 7 (by decide), p1 101 7 (by decide)]; exact q7
      · rw [f1 101 9 (by decide), p1 101 9 (by decide)]; exact q9
      · unfold pwP
        rw [f1 79 0 (by decide), f1 79 1 (by decide), p2, p3]
        omega
      · have hi' := hi
        unfold scr at hi'
        rw [f4 i (by omega) (by omega) (by omega) (by omega) (by omega), p8 i (by omega) (by omega) (by omega)]
        exact qv i hi
    · rw [f4 106 (by decide) (by decide) (by decide) (by decide) (by decide), p8 106 (by decide) (by decide) (by decide)]
  obtain ⟨o, w', h1, rfl, h2⟩ := (key (lv_args 0 [Value.ref 101, Value.int (Int32.ofInt (N : Int))]) rfl rfl).run
  exact ⟨w', h1, h2⟩
end
