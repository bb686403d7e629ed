/-! decide of the class: the root cut off behind its place -/
/-- the root at p places, cut off -/
def rtC (X Y n p c : Nat) : Prop := c ^ n * Y ≤ X * 2 ^ (p * n) ∧ X * 2 ^ (p * n) < (c + 1) ^ n * Y
theorem dsc {X n p b : Nat} : X * (2 ^ (p + b)) ^ n = X * 2 ^ (p * n) * 2 ^ (b * n) := by
  rw [← Nat.pow_mul, Nat.add_mul, Nat.pow_add, Nat.mul_assoc]
theorem dsc2 {Y n b c : Nat} : (c * 2 ^ b) ^ n * Y = c ^ n * Y * 2 ^ (b * n) := by
  rw [Nat.mul_pow, ← Nat.pow_mul]
  generalize 2 ^ (b * n) = A
  generalize c ^ n = B
  grind
section
variable {X Y k p b g g8 c : Nat}
theorem dec_lo (ho : gOk X Y k (2 ^ (p + b)) g) (h8 : g8 ≤ g + 4) (hc : c * 2 ^ b + 8 ≤ g8) : c ^ (k + 1) * Y < X * 2 ^ (p * (k + 1)) := by
  have h1 : (c * 2 ^ b) ^ (k + 1) * Y < X * (2 ^ (p + b)) ^ (k + 1) := Nat.lt_of_le_of_lt (Nat.mul_le_mul_right _ (Nat.pow_le_pow_left (by omega) _)) ho.1
  rw [dsc, dsc2] at h1
  exact Nat.lt_of_mul_lt_mul_right h1
theorem dec_hi (ho : gOk X Y k (2 ^ (p + b)) g) (h8 : g ≤ g8 + 3) (hc : g8 + 8 ≤ c * 2 ^ b) : X * 2 ^ (p * (k + 1)) < c ^ (k + 1) * Y := by
  have h1 : X * (2 ^ (p + b)) ^ (k + 1) < (c * 2 ^ b) ^ (k + 1) * Y := Nat.lt_of_lt_of_le ho.2 (Nat.mul_le_mul_right _ (Nat.pow_le_pow_left (by omega) _))
  rw [dsc, dsc2] at h1
  exact Nat.lt_of_mul_lt_mul_right h1
theorem dec_any (ho : gOk X Y k (2 ^ (p + b)) g) (hb : 3 ≤ b) (e8 : g8 = (g * 1 + 4) - (g * 1 + 4) % 8) (hr : g8 % 2 ^ b ≠ 0) : rtC X Y (k + 1) p (g8 / 2 ^ b) ∧ (g8 / 2 ^ b) ^ (k + 1) * Y ≠ X * 2 ^ (p * (k + 1)) := by
  obtain ⟨b', rfl⟩ : ∃ b', b = 3 + b' := ⟨b - 3, by omega⟩
  have eP : 2 ^ (3 + b') = 8 * 2 ^ b' := by rw [Nat.pow_add]
  have h0 := Nat.div_add_mod g8 (2 ^ (3 + b'))
  have h1 := Nat.mod_lt g8 (Nat.two_pow_pos (3 + b'))
  have h2 : g8 % 2 ^ (3 + b') % 8 = 0 := by
    rw [eP, Nat.mod_mul_right_mod]
    omega
  have h3 : (8 * 2 ^ b') % 8 = 0 := Nat.mul_mod_right _ _
  have a1 := dec_lo (c := g8 / 2 ^ (3 + b')) ho (g8 := g8) (by omega) (by rw [Nat.mul_comm]; omega)
  have a2 := dec_hi (c := g8 / 2 ^ (3 + b') + 1) ho (g8 := g8) (by omega) (by rw [Nat.add_mul, Nat.mul_comm, Nat.one_mul]; omega)
  exact ⟨⟨Nat.le_of_lt a1, a2⟩, Nat.ne_of_lt a1⟩
theorem dec_no (ho : gOk X Y k (2 ^ (p + b)) g) (hb : 3 ≤ b) (e8 : g8 = (g * 1 + 4) - (g * 1 + 4) % 8) (hr : g8 % 2 ^ b = 0) (hg : 8 ≤ g) : g8 / 2 ^ b ≠ 0 ∧ (g8 / 2 ^ b - 1) ^ (k + 1) * Y < X * 2 ^ (p * (k + 1)) ∧ X * 2 ^ (p * (k + 1)) < (g8 / 2 ^ b + 1) ^ (k + 1) * Y := by
  have h0 := Nat.div_add_mod g8 (2 ^ b)
  have h1 : 8 ≤ 2 ^ b := by
    have := Nat.pow_le_pow_right (n := 2) (by omega) hb
    omega
  have hc : g8 / 2 ^ b ≠ 0 := by
    intro e
    rw [e, Nat.mul_zero] at h0
    omega
  obtain ⟨t, et⟩ : ∃ t, g8 / 2 ^ b = t + 1 := ⟨g8 / 2 ^ b - 1, (Nat.sub_one_add_one hc).symm⟩
  refine ⟨hc, dec_lo ho (g8 := g8) (by omega) ?_, dec_hi ho (g8 := g8) (by omega) ?_⟩
  · rw [et, Nat.add_sub_cancel]
    rw [et, Nat.mul_add, Nat.mul_one, Nat.mul_comm] at h0
    omega
  · rw [Nat.add_mul, Nat.one_mul, Nat.mul_comm]
    omega
end
def rtO (X Y n p c : Nat) : Int := if c ^ n * Y = X * 2 ^ (p * n) then 0 else 1
/-- what the real holds: the root, cut off behind p places or finer -/
def rtR (X Y n p : Nat) (E sc more : Int) (M : Nat) : Prop := ∃ kk c : Nat, sc + (kk : Int) = E - (p : Int) ∧ M / 2 ^ kk = c ∧ rtC X Y n p c ∧ mo2 more M kk = rtO X Y n p c ∧ (more = 0 ∨ more = 1)
section
variable {w0 w : xW} {L Z : Nat} {S S1 : Nat → Nat → Int} {V V1 : Nat → Nat} {d hr k P g p : Nat} {lv : xLv} {lift E : Int}
set_option maxHeartbeats 8000000 in
theorem x_decide (hR : cX w0 L Z S1 V1 w) (hf : fS S V S1 V1 hr lift E k P g) (ho : gOk (rX (V hr) lift) (rY lift) k (2 ^ (32 * P)) g) (x1 : rY lift ≤ rX (V hr) lift) (x2 : rX (V hr) lift < 2 ^ (k + 1) * rY lift) (khr : kd hr = 3) (nhr : ¬ scr hr) (n95 : hr ≠ 95) (hk : 1 ≤ k ∧ k ≤ 31) (hs0 : V hr ≠ 0) (bs : xbl (V hr) ≤ 150000) (bl : -200000 ≤ lift ∧ lift ≤ 100) (hp : 2 ≤ p ∧ p ≤ 4096) (hP : (P : Int) = (p : Int) / 32 + 2) (bE : -150000 ≤ E ∧ E ≤ 150000) : ∃ w', xRun (d + 7) 89 [Value.ref 101, Value.int (Int32.ofInt (p : Int)), Value.ref 94] w (.inl none) w' ∧ ∃ S' V', cX w0 L Z S' V' w' ∧ rtR (rX (V hr) lift) (rY lift) (k + 1) p E (S' 94 2) (S' 94 3) (V' 95) ∧ (∀ b j, b ≠ 79 → ¬ (b = 94 ∧ (j = 2 ∨ j = 3)) → S' b j = S1 b j) ∧ pwP S' ∧ (∀ i, i ≠ 80 → i ≠ 82 → i ≠ 84 → i ≠ 95 → i ≠ 104 → i ≠ 106 → V' i = V1 i) ∧ xbl (V' 95) ≤ 5100 := by
  have key : ∀ lv, xld lv 0 = some (Value.ref 101) → xld lv 1 = some (Value.int (Int32.ofInt (p : Int))) → xld lv 2 = some (Value.ref 94) → xEv (d + 7) 89 0 lv [] w (fun o w' => o = .inl none ∧ ∃ S' V', cX w0 L Z S' V' w' ∧ rtR (rX (V hr) lift) (rY lift) (k + 1) p E (S' 94 2) (S' 94 3) (V' 95) ∧ (∀ b j, b ≠ 79 → ¬ (b = 94 ∧ (j = 2 ∨ j = 3)) → S' b j = S1 b j) ∧ pwP S' ∧ (∀ i, i ≠ 80 → i ≠ 82 → i ≠ 84 → i ≠ 95 → i ≠ 104 → i ≠ 106 → V' i = V1 i) ∧ xbl (V' 95) ≤ 5100) := by
    intro lv l0 l1 l2
    obtain ⟨q0, q5, q6, q7, q8, q9, qp, qg, qv⟩ := hf
    have nq := nhr
    unfold scr at nq
    have bg2 := gOk_b (rY_pos _) x2 ho
    have bg : xbl g ≤ 5000 := by omega
    have bgv : xbl (V1 104) ≤ 5000 := by rw [qg]; exact bg
    have hg8 : 8 ≤ g := by
      have h1 := fd_g (rY_pos _) x1 ho.2
      have h2 : 2 ^ 3 ≤ 2 ^ (32 * P) := Nat.pow_le_pow_right (by omega) (by omega)
      omega
    refine i_89_0 ?_
    refine i_89_2 (x := 101) l0 ?_
    refine i_89_3 (v := Value.int (Int32.ofInt (S1 101 8))) (hR.k9 kq_101) rfl ?_
    rw [q8]
    refine i_89_6 (c := Int32.ofInt (32 * (P : Int))) (o_mul 32 (P : Int)) ?_
    refine i_89_7 (x := Int32.ofInt (p : Int)) l1 ?_
    refine i_89_8 (c := Int32.ofInt ((32 * (P : Int)) - (p : Int))) (o_sub (32 * (P : Int)) (p : Int)) ?_
    refine i_89_9 rfl ?_
    refine lgen1 (i := 3) (v := Value.int (Int32.ofInt ((32 * (P : Int)) - (p : Int)))) (fun lv lg ls => ?_)
    replace l0 := lg 0 _ rfl rfl l0
    replace l1 := lg 1 _ rfl rfl l1
    replace l2 := lg 2 _ rfl rfl l2
    have l3 := ls
    refine i_89_10 (x := 101) l0 ?_
    refine i_89_11 (v := Value.ref 104) (hR.k9 kq_101) rfl ?_
    refine i_89_14 ?_
    refine i_89_15 ?_
    obtain ⟨fs, hobj⟩ := hR.nat kq_104
    obtain ⟨w, hrun, hR⟩ := X_mad (d := d + 3) (h := 104) (u := V1 104) (f := 1) (g := 4) hR kq_104 (rfl) (by omega) (by omega) (by omega) (by omega)
    rw [show Int32.ofInt ((4 : Nat) : Int) = 4 from rfl] at hrun
    rw [show Int32.ofInt ((1 : Nat) : Int) = 1 from rfl] at hrun
    refine i_89_16 hobj (Nat.le_of_ble_eq_true rfl) hrun ?_
    refine i_89_19 (x := 101) l0 ?_
    refine i_89_20 (v := Value.ref 104) (hR.k9 kq_101) rfl ?_
    refine i_89_23 ?_
    obtain ⟨fs, hobj⟩ := hR.nat kq_104
    obtain ⟨w, hrun, hR⟩ := X_clear (d := d + 4) (h := 104) (u := (V1 104) * 1 + 4) (p := 3) hR kq_104 (uv_s) ⟨by decide, by decide⟩
    rw [show Int32.ofInt (3 : Int) = 3 from rfl] at hrun
    obtain ⟨g8, e8⟩ : ∃ g8, g8 = (g * 1 + 4) - (g * 1 + 4) % 8 := ⟨_, rfl⟩
    rw [show ((V1 104) * 1 + 4) - ((V1 104) * 1 + 4) % 2 ^ (3 : Int).toNat = g8 by rw [e8, qg]; rfl] at hR
    have b8 : xbl g8 ≤ 5100 := by
      have h1 : g8 ≤ g + 4 := by omega
      have h2 := xbl_mono h1
      have h3 := xbl_add (a := g) (b := 4) (n := 5000) bg (by decide)
      omega
    rw [uvv] at hR
    refine i_89_24 hobj (Nat.le_of_ble_eq_true rfl) hrun ?_
    refine i_89_27 (x := 94) l2 ?_
    refine i_89_28 (v := Value.ref 95) (hR.k4 kq_94) rfl ?_
    refine i_89_31 (x := 101) l0 ?_
    refine i_89_32 (v := Value.ref 104) (hR.k9 kq_101) rfl ?_
    obtain ⟨fs, hobj⟩ := hR.nat kq_95
    obtain ⟨w, hrun, hR⟩ := X_set (d := d + 3) (h := 95) (h2 := 104) (u := g8) hR kq_95 kq_104 (by decide) (uv_s) (by omega)
    refine i_89_35 hobj (Nat.le_of_ble_eq_true rfl) hrun ?_
    refine i_89_38 (x := 94) l2 ?_
    refine i_89_39 ?_
    refine i_89_41 (x := 101) l0 ?_
    refine i_89_42 (v := Value.int (Int32.ofInt (S1 101 8))) (hR.k9 kq_101) rfl ?_
    rw [q8]
    refine i_89_45 (c := Int32.ofInt ((-32) * (P : Int))) ((congrArg (· * Int32.ofInt (P : Int)) (show (-32 : Int32) = Int32.ofInt (-32) by decide)).trans (o_mul (-32) (P : Int))) ?_
    refine i_89_46 (fs2 := f4 94 (u1 (S1 94) 2 ((-32) * (P : Int)))) (hR.k4 kq_94) (Nat.le_of_ble_eq_true rfl) rfl (h7k kq_94 (by decide)) ?_
    refine xgen (P := cX w0 L Z (u2 S1 94 2 ((-32) * (P : Int))) (uv (uv V1 104 g8) 95 g8)) (hR.p4 kq_94) (fun w hR => ?_)
    refine i_89_49 (x := 94) l2 ?_
    refine i_89_50 ?_
    refine i_89_51 (fs2 := f4 94 (u1 ((u2 S1 94 2 ((-32) * (P : Int))) 94) 3 1)) (hR.k4 kq_94) rfl (Nat.le_of_ble_eq_true rfl) rfl (h7k kq_94 (by decide)) ?_
    refine xgen (P := cX w0 L Z (u2 (u2 S1 94 2 ((-32) * (P : Int))) 94 3 1) (uv (uv V1 104 g8) 95 g8)) (hR.p4 kq_94) (fun w hR => ?_)
    refine i_89_54 (x := 101) l0 ?_
    refine i_89_55 (v := Value.ref 104) (hR.k9 kq_101) rfl ?_
    refine i_89_58 (x := Int32.ofInt ((32 * (P : Int)) - (p : Int))) l3 ?_
    obtain ⟨fs, hobj⟩ := hR.nat kq_104
    have hrun := X_any (d := d + 4) (h := 104) (u := g8) (p := (32 * (P : Int)) - (p : Int)) hR kq_104 ((uv_n (by omega)).trans (uv_s)) ⟨by omega, by omega⟩
    refine i_89_59 hobj (Nat.le_of_ble_eq_true rfl) hrun ?_
    refine i_89_62 (zb_t fun hany => ?_) (zb_f fun hany => ?_)
    · refine i_89_129 (x := 94) l2 ?_
      refine i_89_130 rfl ?_
      refine i_89_131 (v := Value.int (Int32.ofInt ((u2 (u2 S1 94 2 ((-32) * (P : Int))) 94 3 1) 94 2))) (hR.k4 kq_94) rfl ?_
      rw [show Int32.ofInt ((u2 (u2 S1 94 2 ((-32) * (P : Int))) 94 3 1) 94 2) = Int32.ofInt ((-32) * (P : Int)) by rw [u2_eq, if_neg (fun e => absurd e.2 (by decide)), u2_eq, if_pos ⟨rfl, rfl⟩]]
      refine i_89_134 (x := 101) l0 ?_
      refine i_89_135 (v := Value.int (Int32.ofInt ((u2 (u2 S1 94 2 ((-32) * (P : Int))) 94 3 1) 101 9))) (hR.k9 kq_101) rfl ?_
      rw [show Int32.ofInt ((u2 (u2 S1 94 2 ((-32) * (P : Int))) 94 3 1) 101 9) = Int32.ofInt (S1 101 9) by rw [u2_eq, if_neg (fun e => absurd e.2 (by decide)), u2_eq, if_neg (fun e => absurd e.2 (by decide))]]
      rw [q9]
      refine i_89_138 (c := Int32.ofInt (((-32) * (P : Int)) + E)) (o_add ((-32) * (P : Int)) E) ?_
      refine i_89_139 (fs2 := f4 94 (u1 ((u2 (u2 S1 94 2 ((-32) * (P : Int))) 94 3 1) 94) 2 (((-32) * (P : Int)) + E))) (hR.k4 kq_94) (Nat.le_of_ble_eq_true rfl) rfl (h7k kq_94 (by decide)) ?_
      refine xgen (P := cX w0 L Z (u2 (u2 (u2 S1 94 2 ((-32) * (P : Int))) 94 3 1) 94 2 (((-32) * (P : Int)) + E)) (uv (uv V1 104 g8) 95 g8)) (hR.p4 kq_94) (fun w hR => ?_)
      refine i_89_142 ?_
      obtain ⟨bl, ebl⟩ : ∃ bl : Nat, (bl : Int) = 32 * (P : Int) - (p : Int) := ⟨32 * P - p, by omega⟩
      have hr0 : g8 % 2 ^ bl ≠ 0 := by have h1 := hany; rw [← ebl] at h1; exact nany_iff.mp h1
      obtain ⟨d1, d2⟩ := dec_any (p := p) (b := bl) (g8 := g8) (by rw [show p + bl = 32 * P by omega]; exact ho) (by omega) e8 hr0
      refine ⟨rfl, _, _, hR, ⟨bl, g8 / 2 ^ bl, ?_, ?_, d1, ?_, ?_⟩, fun b j b1 b2 => by rw [u2_eq, if_neg (by omega), u2_eq, if_neg (by omega), u2_eq, if_neg (by omega)], by unfold pwP; rw [u2_eq, if_neg (fun e => absurd e.2 (by decide)), u2_eq, if_neg (fun e => absurd e.2 (by decide)), u2_eq, if_neg (fun e => absurd e.2 (by decide)), u2_eq, if_neg (fun e => absurd e.2 (by decide)), u2_eq, if_neg (fun e => absurd e.2 (by decide)), u2_eq, if_neg (fun e => absurd e.2 (by decide))]; exact qp, fun i i1 i2 i3 i4 i5 i6 => ((uv_n (by omega)).trans ((uv_n (by omega)).trans (rfl))), ?_⟩
      · rw [u2_eq, if_pos ⟨rfl, rfl⟩]; omega
      · rw [show (uv (uv V1 104 g8) 95 g8) 95 = g8 from uv_s]
      · rw [u2_eq, if_neg (fun e => absurd e.2 (by decide)), u2_eq, if_pos ⟨rfl, rfl⟩]; unfold mo2 rtO; rw [if_neg (fun e => absurd e.1 (by decide)), if_neg d2]
      · rw [u2_eq, if_neg (fun e => absurd e.2 (by decide)), u2_eq, if_pos ⟨rfl, rfl⟩]; exact Or.inr rfl
      · rw [show (uv (uv V1 104 g8) 95 g8) 95 = g8 from uv_s]; omega
    · refine i_89_65 (x := 94) l2 ?_
      refine i_89_66 (v := Value.ref 95) (hR.k4 kq_94) rfl ?_
      refine i_89_69 (x := 101) l0 ?_
      refine i_89_70 (v := Value.ref 104) (hR.k9 kq_101) rfl ?_
      refine i_89_73 (x := Int32.ofInt ((32 * (P : Int)) - (p : Int))) l3 ?_
      refine i_89_74 (c := Int32.ofInt (-((32 * (P : Int)) - (p : Int)))) (o_neg ((32 * (P : Int)) - (p : Int))) ?_
      obtain ⟨fs, hobj⟩ := hR.nat kq_95
      obtain ⟨w, hrun, hR⟩ := X_shift (d := d + 3) (h := 95) (h2 := 104) (u := g8) (k := -((32 * (P : Int)) - (p : Int))) hR kq_95 kq_104 ((uv_n (by omega)).trans (uv_s)) (by omega) (by omega)
      obtain ⟨bl, ebl⟩ : ∃ bl : Nat, (bl : Int) = 32 * (P : Int) - (p : Int) := ⟨32 * P - p, by omega⟩
      obtain ⟨c8, ec8⟩ : ∃ c8, c8 = g8 / 2 ^ bl := ⟨_, rfl⟩
      have esh : shf g8 (-((32 * (P : Int)) - (p : Int))) = c8 := by
        rw [← ebl, ec8, shf_ng (by omega), Int.neg_neg]
        rfl
      rw [esh] at hR
      have hr0 : g8 % 2 ^ bl = 0 := by
        have h1 := hany
        rw [← ebl] at h1
        exact Classical.byContradiction fun e => by rw [nany_iff.mpr e] at h1; exact absurd h1 (by decide)
      obtain ⟨d1, d2, d3⟩ := dec_no (p := p) (b := bl) (g8 := g8) (by rw [show p + bl = 32 * P by omega]; exact ho) (by omega) e8 hr0 hg8
      rw [← ec8] at d1 d2 d3
      have bc8 : xbl c8 ≤ 4200 := by
        rw [ec8, xbl_div]
        have h1 : g8 ≤ g + 4 := by omega
        have h2 := xbl_mono h1
        have h3 := xbl_add (a := g) (b := 4) (n := 32 * P + 2) bg2 (by have : xbl 4 = 3 := (by decide); omega)
        omega
      rw [uvv] at hR
      refine i_89_75 hobj (Nat.le_of_ble_eq_true rfl) hrun ?_
      refine i_89_78 (x := 94) l2 ?_
      refine i_89_79 rfl ?_
      refine i_89_80 (v := Value.int (Int32.ofInt ((u2 (u2 S1 94 2 ((-32) * (P : Int))) 94 3 1) 94 2))) (hR.k4 kq_94) rfl ?_
      rw [show Int32.ofInt ((u2 (u2 S1 94 2 ((-32) * (P : Int))) 94 3 1) 94 2) = Int32.ofInt ((-32) * (P : Int)) by rw [u2_eq, if_neg (fun e => absurd e.2 (by decide)), u2_eq, if_pos ⟨rfl, rfl⟩]]
      refine i_89_83 (x := Int32.ofInt ((32 * (P : Int)) - (p : Int))) l3 ?_
      refine i_89_84 (c := Int32.ofInt (((-32) * (P : Int)) + ((32 * (P : Int)) - (p : Int)))) (o_add ((-32) * (P : Int)) ((32 * (P : Int)) - (p : Int))) ?_
      refine i_89_85 (fs2 := f4 94 (u1 ((u2 (u2 S1 94 2 ((-32) * (P : Int))) 94 3 1) 94) 2 (((-32) * (P : Int)) + ((32 * (P : Int)) - (p : Int))))) (hR.k4 kq_94) (Nat.le_of_ble_eq_true rfl) rfl (h7k kq_94 (by decide)) ?_
      refine xgen (P := cX w0 L Z (u2 (u2 (u2 S1 94 2 ((-32) * (P : Int))) 94 3 1) 94 2 (((-32) * (P : Int)) + ((32 * (P : Int)) - (p : Int)))) (uv (uv V1 104 g8) 95 c8)) (hR.p4 kq_94) (fun w hR => ?_)
      refine i_89_88 (x := 101) l0 ?_
      refine i_89_89 (x := 94) l2 ?_
      refine i_89_90 (v := Value.ref 95) (hR.k4 kq_94) rfl ?_
      refine i_89_93 (x := 94) l2 ?_
      refine i_89_94 (v := Value.int (Int32.ofInt ((u2 (u2 (u2 S1 94 2 ((-32) * (P : Int))) 94 3 1) 94 2 (((-32) * (P : Int)) + ((32 * (P : Int)) - (p : Int)))) 94 2))) (hR.k4 kq_94) rfl ?_
      rw [show Int32.ofInt ((u2 (u2 (u2 S1 94 2 ((-32) * (P : Int))) 94 3 1) 94 2 (((-32) * (P : Int)) + ((32 * (P : Int)) - (p : Int)))) 94 2) = Int32.ofInt (((-32) * (P : Int)) + ((32 * (P : Int)) - (p : Int))) by rw [u2_eq, if_pos ⟨rfl, rfl⟩]]
      refine i_89_97 (x := Int32.ofInt (p : Int)) l1 ?_
      rw [show ((-32) * (P : Int)) + ((32 * (P : Int)) - (p : Int)) = -(p : Int) by omega]
      have hobj := hR.k9 kq_101
      have hf2 : fS (u2 (u2 (u2 S1 94 2 ((-32) * (P : Int))) 94 3 1) 94 2 (((-32) * (P : Int)) + ((32 * (P : Int)) - (p : Int)))) (uv (uv V1 104 g8) 95 c8) (u2 (u2 (u2 S1 94 2 ((-32) * (P : Int))) 94 3 1) 94 2 (((-32) * (P : Int)) + ((32 * (P : Int)) - (p : Int)))) (uv (uv V1 104 g8) 95 c8) hr lift E k P g8 := ⟨fun _ _ _ _ => rfl, by rw [u2_eq, if_neg (fun e => absurd e.2 (by decide)), u2_eq, if_neg (fun e => absurd e.2 (by decide)), u2_eq, if_neg (fun e => absurd e.2 (by decide))]; exact q5, by rw [u2_eq, if_neg (fun e => absurd e.2 (by decide)), u2_eq, if_neg (fun e => absurd e.2 (by decide)), u2_eq, if_neg (fun e => absurd e.2 (by decide))]; exact q6, by rw [u2_eq, if_neg (fun e => absurd e.2 (by decide)), u2_eq, if_neg (fun e => absurd e.2 (by decide)), u2_eq, if_neg (fun e => absurd e.2 (by decide))]; exact q7, by rw [u2_eq, if_neg (fun e => absurd e.2 (by decide)), u2_eq, if_neg (fun e => absurd e.2 (by decide)), u2_eq, if_neg (fun e => absurd e.2 (by decide))]; exact q8, by rw [u2_eq, if_neg (fun e => absurd e.2 (by decide)), u2_eq, if_neg (fun e => absurd e.2 (by decide)), u2_eq, if_neg (fun e => absurd e.2 (by decide))]; exact q9, by unfold pwP; rw [u2_eq, if_neg (fun e => absurd e.2 (by decide)), u2_eq, if_neg (fun e => absurd e.2 (by decide)), u2_eq, if_neg (fun e => absurd e.2 (by decide)), u2_eq, if_neg (fun e => absurd e.2 (by decide)), u2_eq, if_neg (fun e => absurd e.2 (by decide)), u2_eq, if_neg (fun e => absurd e.2 (by decide))]; exact qp, (uv_n (by omega)).trans (uv_s), fun _ _ => rfl⟩
      have ehr : (uv (uv V1 104 g8) 95 c8) hr = V hr := ((uv_n (by omega)).trans ((uv_n (by omega)).trans (rfl))).trans (qv hr nhr)
      have e95 : (uv (uv V1 104 g8) 95 c8) 95 = c8 := uv_s
      obtain ⟨w, hrun, S2, V2, hR, h1, h2, h3⟩ := x_oPow (d := d) (hc := 95) (p := p) hR hf2 khr nhr kq_95 (by unfold scr; omega) hk (by rw [e95]; exact d1) (by rw [e95]; exact bc8) (by rw [ehr]; exact hs0) (by rw [ehr]; exact bs) (by omega) hp.2
      rw [e95, ehr] at hrun
      have f94_2 : S2 94 2 = ((-32) * (P : Int)) + ((32 * (P : Int)) - (p : Int)) := by rw [h1 94 2 (by decide), u2_eq, if_pos ⟨rfl, rfl⟩]
      have f94_3 : S2 94 3 = 1 := by rw [h1 94 3 (by decide), u2_eq, if_neg (fun e => absurd e.2 (by decide)), u2_eq, if_pos ⟨rfl, rfl⟩]
      have q9b : S2 101 9 = E := by rw [h1 101 9 (by decide), u2_eq, if_neg (fun e => absurd e.2 (by decide)), u2_eq, if_neg (fun e => absurd e.2 (by decide)), u2_eq, if_neg (fun e => absurd e.2 (by decide))]; exact q9
      have v95 : V2 95 = c8 := (h3 95 (by decide) (by decide) (by decide) (by decide)).trans e95
      have hcs := ncmp_3 (c8 ^ (k + 1) * rY lift) (rX (V hr) lift * 2 ^ (p * (k + 1)))
      obtain ⟨od, eod⟩ : ∃ od, od = cS c8 (k + 1) lift (V hr) p := ⟨_, rfl⟩
      rw [show ncmp (c8 ^ (k + 1) * rY lift) (rX (V hr) lift * 2 ^ (p * (k + 1))) = od from eod.symm] at hcs
      rw [← eod] at hrun
      refine i_89_98 hobj (Nat.le_of_ble_eq_true rfl) hrun ?_
      refine i_89_101 rfl ?_
      refine lgen1 (i := 4) (v := Value.int (Int32.ofInt od)) (fun lv lg ls => ?_)
      replace l3 := lg 3 _ rfl rfl l3
      replace l0 := lg 0 _ rfl rfl l0
      replace l1 := lg 1 _ rfl rfl l1
      replace l2 := lg 2 _ rfl rfl l2
      have l4 := ls
      refine i_89_103 (x := 94) l2 ?_
      refine i_89_104 (x := Int32.ofInt od) l4 ?_
      refine i_89_106 (z_eq (a := od) ⟨by omega, by omega⟩ fun c1 => ?_) (z_ne (a := od) ⟨by omega, by omega⟩ fun c1 => ?_)
      · refine i_89_113 ?_
        refine i_89_114 (fs2 := f4 94 (u1 (S2 94) 3 0)) (hR.k4 kq_94) rfl (Nat.le_of_ble_eq_true rfl) rfl (h7k kq_94 (by decide)) ?_
        refine xgen (P := cX w0 L Z (u2 S2 94 3 0) V2) (hR.p4 kq_94) (fun w hR => ?_)
        refine i_89_117 (x := Int32.ofInt od) l4 ?_
        refine i_89_119 (z_le (a := od) ⟨by omega, by omega⟩ fun c2 => ?_) (z_gt (a := od) ⟨by omega, by omega⟩ fun c2 => absurd c2 (by omega))
        refine i_89_129 (x := 94) l2 ?_
        refine i_89_130 rfl ?_
        refine i_89_131 (v := Value.int (Int32.ofInt ((u2 S2 94 3 0) 94 2))) (hR.k4 kq_94) rfl ?_
        rw [show Int32.ofInt ((u2 S2 94 3 0) 94 2) = Int32.ofInt (S2 94 2) by rw [u2_eq, if_neg (fun e => absurd e.2 (by decide))]]
        rw [f94_2]
        refine i_89_134 (x := 101) l0 ?_
        refine i_89_135 (v := Value.int (Int32.ofInt ((u2 S2 94 3 0) 101 9))) (hR.k9 kq_101) rfl ?_
        rw [show Int32.ofInt ((u2 S2 94 3 0) 101 9) = Int32.ofInt (S2 101 9) by rw [u2_eq, if_neg (fun e => absurd e.2 (by decide))]]
        rw [q9b]
        refine i_89_138 (c := Int32.ofInt ((-32 * (P : Int) + (32 * (P : Int) - (p : Int))) + E)) (o_add (-32 * (P : Int) + (32 * (P : Int) - (p : Int))) E) ?_
        refine i_89_139 (fs2 := f4 94 (u1 ((u2 S2 94 3 0) 94) 2 ((-32 * (P : Int) + (32 * (P : Int) - (p : Int))) + E))) (hR.k4 kq_94) (Nat.le_of_ble_eq_true rfl) rfl (h7k kq_94 (by decide)) ?_
        refine xgen (P := cX w0 L Z (u2 (u2 S2 94 3 0) 94 2 ((-32 * (P : Int) + (32 * (P : Int) - (p : Int))) + E)) V2) (hR.p4 kq_94) (fun w hR => ?_)
        refine i_89_142 ?_
        have hF : rtC (rX (V hr) lift) (rY lift) (k + 1) p c8 := ⟨by omega, d3⟩
        have hO : rtO (rX (V hr) lift) (rY lift) (k + 1) p (c8) = 0 := by unfold rtO; rw [if_pos (by omega)]
        refine ⟨rfl, _, _, hR, ⟨0, c8, ?_, ?_, hF, ?_, ?_⟩, fun b j b1 b2 => by rw [u2_eq, if_neg (by omega), u2_eq, if_neg (by omega), h1 b j b1, u2_eq, if_neg (by omega), u2_eq, if_neg (by omega), u2_eq, if_neg (by omega)], by unfold pwP; rw [u2_eq, if_neg (fun e => absurd e.2 (by decide)), u2_eq, if_neg (fun e => absurd e.2 (by decide)), u2_eq, if_neg (fun e => absurd e.2 (by decide)), u2_eq, if_neg (fun e => absurd e.2 (by decide))]; exact h2, fun i i1 i2 i3 i4 i5 i6 => ((h3 i i1 i2 i3 i6).trans ((uv_n (by omega)).trans ((uv_n (by omega)).trans (rfl)))), ?_⟩
        · rw [u2_eq, if_pos ⟨rfl, rfl⟩]; omega
        · rw [show V2 95 = c8 from v95, Nat.pow_zero, Nat.div_one]
        · rw [u2_eq, if_neg (fun e => absurd e.2 (by decide)), u2_eq, if_pos ⟨rfl, rfl⟩, hO]; unfold mo2; rw [if_pos ⟨rfl, by rw [Nat.pow_zero, Nat.mod_one]⟩]
        · rw [u2_eq, if_neg (fun e => absurd e.2 (by decide)), u2_eq, if_pos ⟨rfl, rfl⟩]; exact Or.inl rfl
        · rw [show V2 95 = c8 from v95]; omega
      · refine i_89_109 ?_
        refine i_89_110 ?_
        refine i_89_114 (fs2 := f4 94 (u1 (S2 94) 3 1)) (hR.k4 kq_94) rfl (Nat.le_of_ble_eq_true rfl) rfl (h7k kq_94 (by decide)) ?_
        refine xgen (P := cX w0 L Z (u2 S2 94 3 1) V2) (hR.p4 kq_94) (fun w hR => ?_)
        refine i_89_117 (x := Int32.ofInt od) l4 ?_
        refine i_89_119 (z_le (a := od) ⟨by omega, by omega⟩ fun c3 => ?_) (z_gt (a := od) ⟨by omega, by omega⟩ fun c3 => ?_)
        · refine i_89_129 (x := 94) l2 ?_
          refine i_89_130 rfl ?_
          refine i_89_131 (v := Value.int (Int32.ofInt ((u2 S2 94 3 1) 94 2))) (hR.k4 kq_94) rfl ?_
          rw [show Int32.ofInt ((u2 S2 94 3 1) 94 2) = Int32.ofInt (S2 94 2) by rw [u2_eq, if_neg (fun e => absurd e.2 (by decide))]]
          rw [f94_2]
          refine i_89_134 (x := 101) l0 ?_
          refine i_89_135 (v := Value.int (Int32.ofInt ((u2 S2 94 3 1) 101 9))) (hR.k9 kq_101) rfl ?_
          rw [show Int32.ofInt ((u2 S2 94 3 1) 101 9) = Int32.ofInt (S2 101 9) by rw [u2_eq, if_neg (fun e => absurd e.2 (by decide))]]
          rw [q9b]
          refine i_89_138 (c := Int32.ofInt ((-32 * (P : Int) + (32 * (P : Int) - (p : Int))) + E)) (o_add (-32 * (P : Int) + (32 * (P : Int) - (p : Int))) E) ?_
          refine i_89_139 (fs2 := f4 94 (u1 ((u2 S2 94 3 1) 94) 2 ((-32 * (P : Int) + (32 * (P : Int) - (p : Int))) + E))) (hR.k4 kq_94) (Nat.le_of_ble_eq_true rfl) rfl (h7k kq_94 (by decide)) ?_
          refine xgen (P := cX w0 L Z (u2 (u2 S2 94 3 1) 94 2 ((-32 * (P : Int) + (32 * (P : Int) - (p : Int))) + E)) V2) (hR.p4 kq_94) (fun w hR => ?_)
          refine i_89_142 ?_
          have hF : rtC (rX (V hr) lift) (rY lift) (k + 1) p c8 := ⟨by omega, d3⟩
          have hO : rtO (rX (V hr) lift) (rY lift) (k + 1) p (c8) = 1 := by unfold rtO; rw [if_neg (by omega)]
          refine ⟨rfl, _, _, hR, ⟨0, c8, ?_, ?_, hF, ?_, ?_⟩, fun b j b1 b2 => by rw [u2_eq, if_neg (by omega), u2_eq, if_neg (by omega), h1 b j b1, u2_eq, if_neg (by omega), u2_eq, if_neg (by omega), u2_eq, if_neg (by omega)], by unfold pwP; rw [u2_eq, if_neg (fun e => absurd e.2 (by decide)), u2_eq, if_neg (fun e => absurd e.2 (by decide)), u2_eq, if_neg (fun e => absurd e.2 (by decide)), u2_eq, if_neg (fun e => absurd e.2 (by decide))]; exact h2, fun i i1 i2 i3 i4 i5 i6 => ((h3 i i1 i2 i3 i6).trans ((uv_n (by omega)).trans ((uv_n (by omega)).trans (rfl)))), ?_⟩
          · rw [u2_eq, if_pos ⟨rfl, rfl⟩]; omega
          · rw [show V2 95 = c8 from v95, Nat.pow_zero, Nat.div_one]
          · rw [u2_eq, if_neg (fun e => absurd e.2 (by decide)), u2_eq, if_pos ⟨rfl, rfl⟩, hO]; unfold mo2; rw [if_neg (fun e => absurd e.1 (by decide))]
          · rw [u2_eq, if_neg (fun e => absurd e.2 (by decide)), u2_eq, if_pos ⟨rfl, rfl⟩]; exact Or.inr rfl
          · rw [show V2 95 = c8 from v95]; omega
        · refine i_89_122 (x := 94) l2 ?_
          refine i_89_123 (v := Value.ref 95) (hR.k4 kq_94) rfl ?_
          obtain ⟨fs, hobj⟩ := hR.nat kq_95
          obtain ⟨w, hrun, hR⟩ := X_dec (d := d + 5) (h := 95) (u := c8) hR kq_95 v95 (by omega)
          refine i_89_126 hobj (Nat.le_of_ble_eq_true rfl) hrun ?_
          refine i_89_129 (x := 94) l2 ?_
          refine i_89_130 rfl ?_
          refine i_89_131 (v := Value.int (Int32.ofInt ((u2 S2 94 3 1) 94 2))) (hR.k4 kq_94) rfl ?_
          rw [show Int32.ofInt ((u2 S2 94 3 1) 94 2) = Int32.ofInt (S2 94 2) by rw [u2_eq, if_neg (fun e => absurd e.2 (by decide))]]
          rw [f94_2]
          refine i_89_134 (x := 101) l0 ?_
          refine i_89_135 (v := Value.int (Int32.ofInt ((u2 S2 94 3 1) 101 9))) (hR.k9 kq_101) rfl ?_
          rw [show Int32.ofInt ((u2 S2 94 3 1) 101 9) = Int32.ofInt (S2 101 9) by rw [u2_eq, if_neg (fun e => absurd e.2 (by decide))]]
          rw [q9b]
          refine i_89_138 (c := Int32.ofInt ((-32 * (P : Int) + (32 * (P : Int) - (p : Int))) + E)) (o_add (-32 * (P : Int) + (32 * (P : Int) - (p : Int))) E) ?_
          refine i_89_139 (fs2 := f4 94 (u1 ((u2 S2 94 3 1) 94) 2 ((-32 * (P : Int) + (32 * (P : Int) - (p : Int))) + E))) (hR.k4 kq_94) (Nat.le_of_ble_eq_true rfl) rfl (h7k kq_94 (by decide)) ?_
          refine xgen (P := cX w0 L Z (u2 (u2 S2 94 3 1) 94 2 ((-32 * (P : Int) + (32 * (P : Int) - (p : Int))) + E)) (uv V2 95 (c8 - 1))) (hR.p4 kq_94) (fun w hR => ?_)
          refine i_89_142 ?_
          have hF : rtC (rX (V hr) lift) (rY lift) (k + 1) p (c8 - 1) := ⟨Nat.le_of_lt d2, by rw [show c8 - 1 + 1 = c8 by omega]; omega⟩
          have hO : rtO (rX (V hr) lift) (rY lift) (k + 1) p (c8 - 1) = 1 := by unfold rtO; rw [if_neg (Nat.ne_of_lt d2)]
          refine ⟨rfl, _, _, hR, ⟨0, c8 - 1, ?_, ?_, hF, ?_, ?_⟩, fun b j b1 b2 => by rw [u2_eq, if_neg (by omega), u2_eq, if_neg (by omega), h1 b j b1, u2_eq, if_neg (by omega), u2_eq, if_neg (by omega), u2_eq, if_neg (by omega)], by unfold pwP; rw [u2_eq, if_neg (fun e => absurd e.2 (by decide)), u2_eq, if_neg (fun e => absurd e.2 (by decide)), u2_eq, if_neg (fun e => absurd e.2 (by decide)), u2_eq, if_neg (fun e => absurd e.2 (by decide))]; exact h2, fun i i1 i2 i3 i4 i5 i6 => ((uv_n (by omega)).trans ((h3 i i1 i2 i3 i6).trans ((uv_n (by omega)).trans ((uv_n (by omega)).trans (rfl))))), ?_⟩
          · rw [u2_eq, if_pos ⟨rfl, rfl⟩]; omega
          · rw [show (uv V2 95 (c8 - 1)) 95 = c8 - 1 from uv_s, Nat.pow_zero, Nat.div_one]
          · rw [u2_eq, if_neg (fun e => absurd e.2 (by decide)), u2_eq, if_pos ⟨rfl, rfl⟩, hO]; unfold mo2; rw [if_neg (fun e => absurd e.1 (by decide))]
          · rw [u2_eq, if_neg (fun e => absurd e.2 (by decide)), u2_eq, if_pos ⟨rfl, rfl⟩]; exact Or.inr rfl
          · rw [show (uv V2 95 (c8 - 1)) 95 = c8 - 1 from uv_s]; have := xbl_mono (show c8 - 1 ≤ c8 by omega); omega
  obtain ⟨o, w', h1, rfl, h2⟩ := (key (lv_args 0 [Value.ref 101, Value.int (Int32.ofInt (p : Int)), Value.ref 94]) rfl rfl rfl).run
  exact ⟨w', h1, h2⟩
end
