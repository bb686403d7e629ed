/-! writing: begin -/
theorem twl_all : (List.range 35).all (fun j => (List.range 6).all (fun i => decide ((j + 2) % 2 ^ i ≠ 0) || decide ((i : Int) * lgt (j + 2) ≤ 1099511627776))) = true := by decide +kernel
theorem tw_bd {rx tw O : Nat} (h : 2 ≤ rx ∧ rx ≤ 36) (e : rx = 2 ^ tw * O) (hO : 0 < O) : tw ≤ 5 ∧ (tw : Int) * lgt rx ≤ 1099511627776 := by
  have h1 : tw ≤ 5 := by
    refine Nat.le_of_not_lt fun g => ?_
    have := Nat.pow_le_pow_right (show 0 < 2 by omega) (show 6 ≤ tw from g)
    have := Nat.le_mul_of_pos_right (2 ^ tw) hO
    omega
  refine ⟨h1, ?_⟩
  have h2 := List.all_eq_true.mp (List.all_eq_true.mp twl_all (rx - 2) (List.mem_range.mpr (by omega))) tw (List.mem_range.mpr (by omega))
  rw [Bool.or_eq_true, decide_eq_true_eq, decide_eq_true_eq, show rx - 2 + 2 = rx by omega] at h2
  exact h2.resolve_left fun g => g (by rw [e]; exact Nat.mul_mod_right _ _)
theorem tw_g {l T e tw : Int} (hT : 0 < T) (h0 : 0 ≤ l) (ht : 0 ≤ tw) (h : tw * l ≤ T) : (0 ≤ e → 0 ≤ tw * (e * l / T) ∧ tw * (e * l / T) ≤ e) ∧ (e < 0 → e - tw ≤ tw * (e * l / T) ∧ tw * (e * l / T) ≤ 0) := by
  have a1 := Int.ediv_mul_le (e * l) (Int.ne_of_gt hT)
  have a2 := Int.lt_ediv_add_one_mul_self (e * l) hT
  generalize e * l / T = g at a1 a2 ⊢
  constructor
  · intro he
    have g0 : 0 ≤ g := by
      refine Int.not_lt.mp fun c => ?_
      have c1 : (g + 1) * T ≤ 0 := Int.mul_nonpos_of_nonpos_of_nonneg (by omega) (Int.le_of_lt hT)
      have c2 : 0 ≤ e * l := Int.mul_nonneg he h0
      omega
    refine ⟨Int.mul_nonneg ht g0, Int.le_of_mul_le_mul_right (a := T) ?_ hT⟩
    calc tw * g * T = tw * (g * T) := Int.mul_assoc _ _ _
      _ ≤ tw * (e * l) := Int.mul_le_mul_of_nonneg_left a1 ht
      _ = e * (tw * l) := by rw [Int.mul_left_comm]
      _ ≤ e * T := Int.mul_le_mul_of_nonneg_left h he
  · intro he
    have g0 : g ≤ 0 := by
      refine Int.not_lt.mp fun c => ?_
      have c1 : 1 * T ≤ g * T := Int.mul_le_mul_of_nonneg_right (by omega) (Int.le_of_lt hT)
      have c2 : e * l ≤ 0 := Int.mul_nonpos_of_nonpos_of_nonneg (Int.le_of_lt he) h0
      omega
    refine ⟨?_, Int.mul_nonpos_of_nonneg_of_nonpos ht g0⟩
    have k : e * T ≤ (tw * (g + 1)) * T := by
      calc e * T ≤ e * (tw * l) := Int.mul_le_mul_of_nonpos_left (Int.le_of_lt he) h
        _ = tw * (e * l) := by rw [Int.mul_left_comm]
        _ ≤ tw * ((g + 1) * T) := Int.mul_le_mul_of_nonneg_left (Int.le_of_lt a2) ht
        _ = (tw * (g + 1)) * T := (Int.mul_assoc _ _ _).symm
    have := Int.le_of_mul_le_mul_right k hT
    rw [Int.mul_add, Int.mul_one] at this
    omega
/-- the writer has begun: the register t, the base rx = 2 ^ tw * O, F digits before the point -/
def wSt (S : Nat → Nat → Int) (V : Nat → Nat) (t rx O tw : Nat) (F : Int) : Prop := pwP S ∧ S 113 9 = (t : Int) ∧ S 113 10 = (rx : Int) ∧ S 113 11 = (tw : Int) ∧ S 113 12 = F ∧ V 115 = O ∧ rx = 2 ^ tw * O ∧ O % 2 = 1 ∧ (-20490 ≤ F ∧ F ≤ 20490) ∧ (-20490 ≤ (tw : Int) * F ∧ (tw : Int) * F ≤ 20490)
theorem no2 {rx tw O : Nat} (e : rx = 2 ^ tw * O) (h1 : O % 2 = 1) (h2 : O ≠ 1) : rx ≠ 2 ∧ rx ≠ 4 ∧ rx ≠ 8 ∧ rx ≠ 16 ∧ rx ≠ 32 := by
  have k : ∀ n, rx ≠ 2 ^ n := by
    intro n g
    have h3 : 2 ^ tw * (2 * (O / 2) + 1) = 2 ^ n := by rw [← g, e]; congr 1; omega
    by_cases h4 : tw = n
    · subst h4
      have h5 : 2 ^ tw * O = 2 ^ tw * 1 := by rw [← e, g, Nat.mul_one]
      exact h2 (Nat.eq_of_mul_eq_mul_left (Nat.two_pow_pos tw) h5)
    · exact pw_odd h3 h4
  exact ⟨k 1, k 2, k 3, k 4, k 5⟩
section
variable {w0 w : xW} {L Z : Nat} {S : Nat → Nat → Int} {V : Nat → Nat} {d t rx : Nat}
theorem bb_yes {b : Bool} (h : bb b ≠ 0) : b = true := by
  cases b
  · exact absurd rfl h
  · rfl
theorem bb_no {b : Bool} (h : bb b = 0) : b = false := by
  cases b
  · rfl
  · exact absurd h (by decide)
theorem mul_bd {e l : Int} (he : -20480 ≤ e ∧ e ≤ 20480) (hl : 0 ≤ l ∧ l ≤ 1099511627776) : -22517998136852480 ≤ e * l ∧ e * l ≤ 22517998136852480 := by
  have h1 : e * l ≤ 20480 * l := Int.mul_le_mul_of_nonneg_right he.2 hl.1
  have h2 : -20480 * l ≤ e * l := Int.mul_le_mul_of_nonneg_right he.1 hl.1
  omega
theorem fdiv_b {a b : Int} (hb : 1 ≤ b) : (0 ≤ a → 0 ≤ a / b ∧ a / b ≤ a) ∧ (a < 0 → a ≤ a / b ∧ a / b < 0) := by
  have a1 := Int.mul_ediv_self_le (x := a) (k := b) (by omega)
  have a2 := Int.lt_mul_ediv_self_add (x := a) (k := b) (by omega)
  generalize a / b = g at a1 a2 ⊢
  constructor
  · intro h
    have g0 : 0 ≤ g := by
      refine Int.not_lt.mp fun c => ?_
      have := Int.mul_le_mul_of_nonneg_left (show g + 1 ≤ 0 by omega) (show 0 ≤ b by omega)
      rw [Int.mul_add] at this
      omega
    have := Int.mul_le_mul_of_nonneg_right hb g0
    omega
  · intro h
    have g0 : g < 0 := by
      refine Int.not_le.mp fun c => ?_
      have := Int.mul_nonneg (show 0 ≤ b by omega) c
      omega
    refine ⟨?_, g0⟩
    refine Int.not_lt.mp fun c => ?_
    have h3 : b * (g + 1) ≤ 1 * (g + 1) := Int.mul_le_mul_of_nonpos_right hb (by omega)
    rw [Int.mul_add] at h3
    omega
set_option maxHeartbeats 8000000 in
theorem x_wbegin (hR : cX w0 L Z S V w) (ht : kd t = 2) (ht2 : 30 ≤ t ∧ t ≤ 75) (hpw : pwP S) (hK5 : w0[5]? = some (.inl (3, 37, fun j => .long (xlogc.getD j 0)))) (hr : 2 ≤ rx ∧ rx ≤ 36) (bM : xbl (V (t + 1)) ≤ 4096) (hM : V (t + 1) ≠ 0) (hp : 2 ≤ S t 0 ∧ S t 0 ≤ 4096) (hx : (xbl (V (t + 1)) : Int) = S t 0) (bE : -20479 ≤ S t 3 ∧ S t 3 ≤ 16384) : ∃ w', xRun (d + 7) 152 [Value.ref 113, Value.ref t, Value.int (Int32.ofInt (rx : Int))] w (.inl none) w' ∧ ∃ S' V' tw O F, cX w0 L Z S' V' w' ∧ wSt S' V' t rx O tw F ∧ fst_is (V (t + 1)) (S t 3 - S t 0) rx F ∧ (∀ b j, b ≠ 79 → b ≠ 113 → S' b j = S b j) ∧ S' 113 3 = S 113 3 ∧ (∀ i, i ≠ 80 → i ≠ 82 → i ≠ 84 → i ≠ 115 → i ≠ 117 → V' i = V i) := by
  have key : ∀ lv, xld lv 0 = some (Value.ref 113) → xld lv 1 = some (Value.ref t) → xld lv 2 = some (Value.int (Int32.ofInt (rx : Int))) → xEv (d + 7) 152 0 lv [] w (fun o w' => o = .inl none ∧ ∃ S' V' tw O F, cX w0 L Z S' V' w' ∧ wSt S' V' t rx O tw F ∧ fst_is (V (t + 1)) (S t 3 - S t 0) rx F ∧ (∀ b j, b ≠ 79 → b ≠ 113 → S' b j = S b j) ∧ S' 113 3 = S 113 3 ∧ (∀ i, i ≠ 80 → i ≠ 82 → i ≠ 84 → i ≠ 115 → i ≠ 117 → V' i = V i)) := by
    intro lv l0 l1 l2
    obtain ⟨⟨hl1, hl2⟩, -, -⟩ := lgt_ok hr
    obtain ⟨z, hz⟩ : ∃ z : Int, (S t 3 - 1) * lgt rx = z := ⟨_, rfl⟩
    have bz : -22517998136852480 ≤ z ∧ z ≤ 22517998136852480 := by rw [← hz]; exact mul_bd (by omega) (by omega)
    refine i_152_0 (x := 113) l0 ?_
    refine i_152_1 (x := t) l1 ?_
    refine i_152_2 (fs2 := f11 (u1 (S 113) 9 (t : Int))) (hR.k11 kq_113) (Nat.le_of_ble_eq_true rfl) rfl (h7k kq_113 (by decide)) ?_
    refine xgen (P := cX w0 L Z (u2 S 113 9 (t : Int)) V) (hR.p11 kq_113) (fun w hR => ?_)
    refine i_152_5 (x := 113) l0 ?_
    refine i_152_6 (x := Int32.ofInt (rx : Int)) l2 ?_
    refine i_152_7 (fs2 := f11 (u1 ((u2 S 113 9 (t : Int)) 113) 10 (rx : Int))) (hR.k11 kq_113) (Nat.le_of_ble_eq_true rfl) rfl (h7k kq_113 (by decide)) ?_
    refine xgen (P := cX w0 L Z (u2 (u2 S 113 9 (t : Int)) 113 10 (rx : Int)) V) (hR.p11 kq_113) (fun w hR => ?_)
    refine i_152_10 (x := 113) l0 ?_
    refine i_152_11 (x := Int32.ofInt (rx : Int)) l2 ?_
    obtain ⟨tw, q, hrun, etw, htw⟩ := s_ntz (d := d + 6) (w := w) (n := rx) (by omega) (by omega)
    obtain ⟨O, eOd⟩ : ∃ O, O = 2 * q + 1 := ⟨_, rfl⟩
    rw [← eOd] at etw
    have eO : rx / 2 ^ tw = O := by rw [etw]; exact Nat.mul_div_cancel_left _ (Nat.two_pow_pos _)
    have hO0 : 0 < O := by omega
    have hOr : O ≤ rx := by rw [etw]; exact Nat.le_mul_of_pos_left _ (Nat.two_pow_pos _)
    have hO2 : O % 2 = 1 := by omega
    obtain ⟨htw5, htwl⟩ := tw_bd hr etw hO0
    have htw1 : O ≠ 1 ∨ 1 ≤ tw := by
      rcases Nat.eq_zero_or_pos tw with g | g
      · rw [g, Nat.pow_zero, Nat.one_mul] at etw; omega
      · exact Or.inr g
    refine i_152_12 (Nat.le_of_ble_eq_true rfl) hrun ?_
    refine i_152_15 (fs2 := f11 (u1 ((u2 (u2 S 113 9 (t : Int)) 113 10 (rx : Int)) 113) 11 (tw : Int))) (hR.k11 kq_113) (Nat.le_of_ble_eq_true rfl) rfl (h7k kq_113 (by decide)) ?_
    refine xgen (P := cX w0 L Z (u2 (u2 (u2 S 113 9 (t : Int)) 113 10 (rx : Int)) 113 11 (tw : Int)) V) (hR.p11 kq_113) (fun w hR => ?_)
    refine i_152_18 (x := 113) l0 ?_
    refine i_152_19 (v := Value.ref 115) (hR.k11 kq_113) rfl ?_
    refine i_152_22 (x := Int32.ofInt (rx : Int)) l2 ?_
    refine i_152_23 (x := 113) l0 ?_
    refine i_152_24 (v := Value.int (Int32.ofInt ((u2 (u2 (u2 S 113 9 (t : Int)) 113 10 (rx : Int)) 113 11 (tw : Int)) 113 11))) (hR.k11 kq_113) rfl ?_
    rw [show Int32.ofInt ((u2 (u2 (u2 S 113 9 (t : Int)) 113 10 (rx : Int)) 113 11 (tw : Int)) 113 11) = Int32.ofInt (tw : Int) by rw [u2_eq, if_pos ⟨rfl, rfl⟩]]
    refine i_152_27 (c := Int32.ofInt ((rx / 2 ^ tw : Nat) : Int)) (o_shrk (by omega) (by omega)) ?_
    rw [show rx / 2 ^ tw = O from eO]
    refine i_152_28 (c := Int64.ofInt (O : Int)) (q_i2l (a := (O : Int)) ⟨by omega, by omega⟩) ?_
    obtain ⟨fs, hobj⟩ := hR.nat kq_115
    obtain ⟨w, hrun, hR⟩ := X_setl (d := d + 5) (h := 115) (x := Int64.ofInt (O : Int)) hR kq_115
    rw [show xul (Int64.ofInt (O : Int)) = O from (xul_o (by omega) (by omega)).trans rfl] at hR
    refine i_152_29 hobj (Nat.le_of_ble_eq_true rfl) hrun ?_
    refine i_152_32 (x := Int32.ofInt (rx : Int)) l2 ?_
    refine i_152_33 (x := 113) l0 ?_
    refine i_152_34 (v := Value.int (Int32.ofInt ((u2 (u2 (u2 S 113 9 (t : Int)) 113 10 (rx : Int)) 113 11 (tw : Int)) 113 11))) (hR.k11 kq_113) rfl ?_
    rw [show Int32.ofInt ((u2 (u2 (u2 S 113 9 (t : Int)) 113 10 (rx : Int)) 113 11 (tw : Int)) 113 11) = Int32.ofInt (tw : Int) by rw [u2_eq, if_pos ⟨rfl, rfl⟩]]
    refine i_152_37 (c := Int32.ofInt ((rx / 2 ^ tw : Nat) : Int)) (o_shrk (by omega) (by omega)) ?_
    rw [show rx / 2 ^ tw = O from eO]
    refine i_152_38 ?_
    refine i_152_39 (b_ne (a := (O : Int)) (b := 1) ⟨by omega, by omega⟩ ⟨by decide, by decide⟩ fun c0 => ?_) (b_eq (a := (O : Int)) (b := 1) ⟨by omega, by omega⟩ ⟨by decide, by decide⟩ fun c0 => ?_)
    · refine i_152_62 (x := 113) l0 ?_
      refine i_152_63 (x := t) l1 ?_
      refine i_152_64 (v := Value.int (Int32.ofInt ((u2 (u2 (u2 S 113 9 (t : Int)) 113 10 (rx : Int)) 113 11 (tw : Int)) t 3))) (hR.k2 ht) rfl ?_
      rw [show Int32.ofInt ((u2 (u2 (u2 S 113 9 (t : Int)) 113 10 (rx : Int)) 113 11 (tw : Int)) t 3) = Int32.ofInt (S t 3) by rw [u2_eq, if_neg (fun e => absurd e.2 (by decide)), u2_eq, if_neg (fun e => absurd e.2 (by decide)), u2_eq, if_neg (fun e => absurd e.2 (by decide))]]
      refine i_152_67 ?_
      refine i_152_68 (c := Int32.ofInt ((S t 3) - 1)) (o_sub (S t 3) 1) ?_
      refine i_152_69 (c := Int64.ofInt ((S t 3) - 1)) (q_i2l (a := (S t 3) - 1) ⟨by omega, by omega⟩) ?_
      refine i_152_70 ?_
      refine i_152_73 (x := Int32.ofInt (rx : Int)) l2 ?_
      refine i_152_74 (v := Value.long (Int64.ofInt (lgt rx))) ((hR.low (by decide)).trans hK5) (by rw [oI (by omega) (by omega)]; omega) (by rw [oI (by omega) (by omega)]; omega) (by rw [oI (by omega) (by omega)]; show Value.long (xlogc.getD rx 0) = _; unfold lgt; rw [Int64.ofInt_toInt]) ?_
      refine i_152_75 (c := Int64.ofInt z) ((q_mul (S t 3 - 1) (lgt rx)).trans (by rw [hz])) ?_
      refine i_152_76 ?_
      refine i_152_78 (c := Int64.ofInt (z / 1099511627776)) (q_shr40 (t := z) ⟨by omega, by omega⟩) ?_
      refine i_152_79 (c := Int32.ofInt (z / 1099511627776)) (q_l2i (z / 1099511627776)) ?_
      refine i_152_80 ?_
      refine i_152_81 (c := Int32.ofInt ((z / 1099511627776) + 1)) (o_add (z / 1099511627776) 1) ?_
      refine i_152_82 (fs2 := f11 (u1 ((u2 (u2 (u2 S 113 9 (t : Int)) 113 10 (rx : Int)) 113 11 (tw : Int)) 113) 12 ((z / 1099511627776) + 1))) (hR.k11 kq_113) (Nat.le_of_ble_eq_true rfl) rfl (h7k kq_113 (by decide)) ?_
      refine xgen (P := cX w0 L Z (u2 (u2 (u2 (u2 S 113 9 (t : Int)) 113 10 (rx : Int)) 113 11 (tw : Int)) 113 12 ((z / 1099511627776) + 1)) (uv V 115 O)) (hR.p11 kq_113) (fun w hR => ?_)
      refine i_152_85 (x := 113) l0 ?_
      refine i_152_86 (x := 113) l0 ?_
      refine i_152_87 (v := Value.int (Int32.ofInt ((u2 (u2 (u2 (u2 S 113 9 (t : Int)) 113 10 (rx : Int)) 113 11 (tw : Int)) 113 12 ((z / 1099511627776) + 1)) 113 12))) (hR.k11 kq_113) rfl ?_
      rw [show Int32.ofInt ((u2 (u2 (u2 (u2 S 113 9 (t : Int)) 113 10 (rx : Int)) 113 11 (tw : Int)) 113 12 ((z / 1099511627776) + 1)) 113 12) = Int32.ofInt ((z / 1099511627776) + 1) by rw [u2_eq, if_pos ⟨rfl, rfl⟩]]
      have hobj := hR.k11 kq_113
      obtain ⟨S1, eS1⟩ : ∃ S1, S1 = (u2 (u2 (u2 (u2 S 113 9 (t : Int)) 113 10 (rx : Int)) 113 11 (tw : Int)) 113 12 ((z / 1099511627776) + 1)) := ⟨_, rfl⟩
      rw [← eS1] at hR
      have f1 : ∀ b j, b ≠ 113 → S1 b j = S b j := fun b j hb => by rw [eS1, u2_eq, if_neg (by omega), u2_eq, if_neg (by omega), u2_eq, if_neg (by omega), u2_eq, if_neg (by omega)]
      have q9 : S1 113 9 = (t : Int) := by rw [eS1, u2_eq, if_neg (fun e => absurd e.2 (by decide)), u2_eq, if_neg (fun e => absurd e.2 (by decide)), u2_eq, if_neg (fun e => absurd e.2 (by decide)), u2_eq, if_pos ⟨rfl, rfl⟩]
      have q10 : S1 113 10 = (rx : Int) := by rw [eS1, u2_eq, if_neg (fun e => absurd e.2 (by decide)), u2_eq, if_neg (fun e => absurd e.2 (by decide)), u2_eq, if_pos ⟨rfl, rfl⟩]
      have q11 : S1 113 11 = (tw : Int) := by rw [eS1, u2_eq, if_neg (fun e => absurd e.2 (by decide)), u2_eq, if_pos ⟨rfl, rfl⟩]
      have q12 : S1 113 12 = (z / 1099511627776) + 1 := by rw [eS1, u2_eq, if_pos ⟨rfl, rfl⟩]
      have q3 : S1 113 3 = S 113 3 := by rw [eS1, u2_eq, if_neg (by omega), u2_eq, if_neg (by omega), u2_eq, if_neg (by omega), u2_eq, if_neg (by omega)]
      obtain ⟨V1, eV1⟩ : ∃ V1, V1 = (uv V 115 O) := ⟨_, rfl⟩
      rw [← eV1] at hR
      have g15 : V1 115 = O := by rw [eV1]; exact uv_s
      have f2 : ∀ i, i ≠ 115 → V1 i = V i := fun i hi => by rw [eV1]; exact uv_n hi
      have et : V1 (t + 1) = V (t + 1) := f2 _ (by omega)
      have e3 := f1 t 3 (by omega)
      have e0 := f1 t 0 (by omega)
      have hp1 : pwP S1 := by unfold pwP at hpw ⊢; rw [f1 79 0 (by omega), f1 79 1 (by omega)]; exact hpw
      obtain ⟨F, eF⟩ : ∃ F : Int, (z / 1099511627776) + 1 = F := ⟨_, rfl⟩
      rw [eF] at q12 ⊢
      have hOb : xbl (O ^ F.natAbs) ≤ 150000 := by
        have g1 := xbl_npow O F.natAbs
        have g2 : xbl O ≤ 6 := xbl_le (by omega)
        have g3 : F.natAbs * xbl O ≤ 20490 * 6 := Nat.mul_le_mul (by omega) g2
        omega
      have twF : -20490 ≤ (tw : Int) * F ∧ (tw : Int) * F ≤ 20490 ∧ -20490 ≤ (tw : Int) * (F + 1) ∧ (tw : Int) * (F + 1) ≤ 20490 := by
        have k := tw_g (l := lgt rx) (T := 1099511627776) (e := S t 3 - 1) (tw := (tw : Int)) (by omega) (by omega) (by omega) htwl
        rw [hz] at k
        rw [← eF, Int.mul_add, Int.mul_add, Int.mul_add, Int.mul_one]
        generalize (tw : Int) * (z / 1099511627776) = y at k ⊢
        rcases Int.lt_or_le (S t 3 - 1) 0 with c | c
        · have := k.2 c; omega
        · have := k.1 c; omega
      obtain ⟨s, hs⟩ : ∃ s : Int, S t 3 - S t 0 + (tw : Int) * (-F) = s := ⟨_, rfl⟩
      have bs : -200000 ≤ s ∧ s ≤ 200000 := by rw [Int.mul_neg] at hs; omega
      obtain ⟨w, hrun, S3, V3, hR, r1, r2, r6⟩ := x_reach (d := d) (t := t) (O := O) (tw := tw) (k := F) (s := s) hR ht ht2 hp1 q9 q11 g15 hO0 (xbl_le (by omega)) (by omega) hOb (by rw [et]; exact bM) (by rw [et]; exact hM) (by rw [et, e0]; exact hx) (by rw [e3]; omega) (by rw [e3, e0]; exact hs) bs
      rw [et] at hrun
      have hre : bb (decide (wRe (V (t + 1)) O F s)) = 0 ∨ bb (decide (wRe (V (t + 1)) O F s)) = 1 := bb_01 _
      have k12 : S3 113 12 = F := (r1 113 12 (by decide)).trans q12
      have htwo := fst_two (M := V (t + 1)) (B := rx) (p := (S t 0).toNat) (E := S t 3 - S t 0) (e := S t 3 - 1) (g := z / 1099511627776) (by omega) (by rw [← hz]; exact (fst_gue hr (no2 etw hO2 (by omega)) (by omega)).1) (by rw [← hz]; exact (fst_gue hr (no2 etw hO2 (by omega)) (by omega)).2) (by omega) (by omega) (by omega)
      have hwv : wRe (V (t + 1)) O F s ↔ vGe (V (t + 1)) (S t 3 - S t 0) rx F := by rw [etw, Nat.mul_comm]; exact wRe_v hs
      refine i_152_90 hobj (Nat.le_of_ble_eq_true rfl) hrun ?_
      refine i_152_93 (zb_f fun c1 => ?_) (zb_t fun c1 => ?_)
      · refine i_152_106 ?_
        have hge : ¬ vGe (V (t + 1)) (S t 3 - S t 0) rx F := fun c => of_decide_eq_false ‹decide (wRe (V (t + 1)) O F s) = false› (hwv.mpr c)
        refine ⟨rfl, _, _, tw, O, F, hR, ⟨?_, ((r1 113 9 (by decide)).trans q9), ((r1 113 10 (by decide)).trans q10), ((r1 113 11 (by decide)).trans q11), k12, (r6 115 (by decide) (by decide) (by decide) (by decide)).trans g15, etw, hO2, by omega, by omega⟩, ?_, ?_, ?_, ?_⟩
        · exact r2
        · exact ⟨by rw [show F - 1 = z / 1099511627776 by omega]; exact htwo.1, hge⟩
        · intro b j h1 h2; exact (r1 b j h1).trans (f1 b j h2)
        · exact (r1 113 3 (by decide)).trans q3
        · intro i i1 i2 i3 i4 i5; exact (r6 i i1 i2 i3 i5).trans (f2 i i4)
      · refine i_152_96 (x := 113) l0 ?_
        refine i_152_97 rfl ?_
        refine i_152_98 (v := Value.int (Int32.ofInt (S3 113 12))) (hR.k11 kq_113) rfl ?_
        rw [k12]
        refine i_152_101 ?_
        refine i_152_102 (c := Int32.ofInt (F + 1)) (o_add F 1) ?_
        refine i_152_103 (fs2 := f11 (u1 (S3 113) 12 (F + 1))) (hR.k11 kq_113) (Nat.le_of_ble_eq_true rfl) rfl (h7k kq_113 (by decide)) ?_
        refine xgen (P := cX w0 L Z (u2 S3 113 12 (F + 1)) V3) (hR.p11 kq_113) (fun w hR => ?_)
        refine i_152_106 ?_
        have hge := hwv.mp (of_decide_eq_true ‹decide (wRe (V (t + 1)) O F s) = true›)
        refine ⟨rfl, _, _, tw, O, F + 1, hR, ⟨?_, (by rw [u2_eq, if_neg (by omega)]; exact (r1 113 9 (by decide)).trans q9), (by rw [u2_eq, if_neg (by omega)]; exact (r1 113 10 (by decide)).trans q10), (by rw [u2_eq, if_neg (by omega)]; exact (r1 113 11 (by decide)).trans q11), by rw [u2_eq, if_pos ⟨rfl, rfl⟩], (r6 115 (by decide) (by decide) (by decide) (by decide)).trans g15, etw, hO2, by omega, by omega⟩, ?_, ?_, ?_, ?_⟩
        · unfold pwP at r2 ⊢; simp only [u2_eq]; exact r2
        · exact ⟨by rw [show F + 1 - 1 = F by omega]; exact hge, by rw [show F + 1 = z / 1099511627776 + 2 by omega]; exact htwo.2⟩
        · intro b j h1 h2; rw [u2_eq, if_neg (by omega)]; exact (r1 b j h1).trans (f1 b j h2)
        · rw [u2_eq, if_neg (by omega)]; exact (r1 113 3 (by decide)).trans q3
        · intro i i1 i2 i3 i4 i5; exact (r6 i i1 i2 i3 i5).trans (f2 i i4)
    · refine i_152_42 (x := 113) l0 ?_
      refine i_152_43 (x := t) l1 ?_
      refine i_152_44 (v := Value.int (Int32.ofInt ((u2 (u2 (u2 S 113 9 (t : Int)) 113 10 (rx : Int)) 113 11 (tw : Int)) t 3))) (hR.k2 ht) rfl ?_
      rw [show Int32.ofInt ((u2 (u2 (u2 S 113 9 (t : Int)) 113 10 (rx : Int)) 113 11 (tw : Int)) t 3) = Int32.ofInt (S t 3) by rw [u2_eq, if_neg (fun e => absurd e.2 (by decide)), u2_eq, if_neg (fun e => absurd e.2 (by decide)), u2_eq, if_neg (fun e => absurd e.2 (by decide))]]
      refine i_152_47 ?_
      refine i_152_48 (c := Int32.ofInt ((S t 3) - 1)) (o_sub (S t 3) 1) ?_
      refine i_152_49 (x := 113) l0 ?_
      refine i_152_50 (v := Value.int (Int32.ofInt ((u2 (u2 (u2 S 113 9 (t : Int)) 113 10 (rx : Int)) 113 11 (tw : Int)) 113 11))) (hR.k11 kq_113) rfl ?_
      rw [show Int32.ofInt ((u2 (u2 (u2 S 113 9 (t : Int)) 113 10 (rx : Int)) 113 11 (tw : Int)) 113 11) = Int32.ofInt (tw : Int) by rw [u2_eq, if_pos ⟨rfl, rfl⟩]]
      have hrun := s_fdiv (d := d + 5) (w := w) (a := (S t 3) - 1) (b := (tw : Int)) (by omega) (by omega)
      refine i_152_53 (Nat.le_of_ble_eq_true rfl) hrun ?_
      refine i_152_56 ?_
      refine i_152_57 (c := Int32.ofInt ((((S t 3) - 1) / (tw : Int)) + 1)) (o_add (((S t 3) - 1) / (tw : Int)) 1) ?_
      refine i_152_58 (fs2 := f11 (u1 ((u2 (u2 (u2 S 113 9 (t : Int)) 113 10 (rx : Int)) 113 11 (tw : Int)) 113) 12 ((((S t 3) - 1) / (tw : Int)) + 1))) (hR.k11 kq_113) (Nat.le_of_ble_eq_true rfl) rfl (h7k kq_113 (by decide)) ?_
      refine xgen (P := cX w0 L Z (u2 (u2 (u2 (u2 S 113 9 (t : Int)) 113 10 (rx : Int)) 113 11 (tw : Int)) 113 12 ((((S t 3) - 1) / (tw : Int)) + 1)) (uv V 115 O)) (hR.p11 kq_113) (fun w hR => ?_)
      refine i_152_61 ?_
      have hO1 : O = 1 := by omega
      have hfb := fst_bin2 (M := V (t + 1)) (tw := tw) (p := (S t 0).toNat) (E := S t 3 - S t 0) (e := S t 3 - 1) (htw1.resolve_left (by omega)) (by omega) (by omega) (by omega)
      have hF : ∃ F : Int, ((S t 3 - 1) / (tw : Int)) + 1 = F ∧ (-20490 ≤ F ∧ F ≤ 20490) ∧ (-20490 ≤ (tw : Int) * F ∧ (tw : Int) * F ≤ 20490) := by
        have a1 := Int.mul_ediv_self_le (x := S t 3 - 1) (k := (tw : Int)) (by omega)
        have a2 := Int.lt_mul_ediv_self_add (x := S t 3 - 1) (k := (tw : Int)) (by omega)
        refine ⟨_, rfl, ?_, ?_⟩
        · have a3 := fdiv_b (a := S t 3 - 1) (b := (tw : Int)) (by omega)
          omega
        · rw [Int.mul_add, Int.mul_one]; omega
      obtain ⟨F, eF, hF1, hF2⟩ := hF
      rw [eF] at hR hfb
      refine ⟨rfl, _, _, tw, O, F, hR, ⟨?_, by rw [u2_eq, if_neg (fun e => absurd e.2 (by decide)), u2_eq, if_neg (fun e => absurd e.2 (by decide)), u2_eq, if_neg (fun e => absurd e.2 (by decide)), u2_eq, if_pos ⟨rfl, rfl⟩], by rw [u2_eq, if_neg (fun e => absurd e.2 (by decide)), u2_eq, if_neg (fun e => absurd e.2 (by decide)), u2_eq, if_pos ⟨rfl, rfl⟩], by rw [u2_eq, if_neg (fun e => absurd e.2 (by decide)), u2_eq, if_pos ⟨rfl, rfl⟩], by rw [u2_eq, if_pos ⟨rfl, rfl⟩], uv_s, etw, hO2, hF1, hF2⟩, ?_, ?_, ?_, ?_⟩
      · unfold pwP at hpw ⊢; simp only [u2_eq]; exact hpw
      · rw [show rx = 2 ^ tw by rw [etw, hO1, Nat.mul_one]]; exact hfb
      · intro b j h1 h2; rw [u2_eq, if_neg (by omega), u2_eq, if_neg (by omega), u2_eq, if_neg (by omega), u2_eq, if_neg (by omega)]
      · rw [u2_eq, if_neg (by omega), u2_eq, if_neg (by omega), u2_eq, if_neg (by omega), u2_eq, if_neg (by omega)]
      · intro i i1 i2 i3 i4 i5; exact uv_n i4
  obtain ⟨o, w', h1, rfl, h2⟩ := (key (lv_args 0 [Value.ref 113, Value.ref t, Value.int (Int32.ofInt (rx : Int))]) rfl rfl rfl).run
  exact ⟨w', h1, h2⟩
end
