/-! find of the class: the root to within one in the last place -/
theorem nwI_le {k : Nat} (hk : 1 ≤ k ∧ k ≤ 31) : ∀ i, nwI k i ≤ 2 * 1208925819614629174706176
  | 0 => by unfold nwI; exact Nat.le_refl _
  | i + 1 => by
    have ih := nwI_le hk i
    have ge := nwI_ge (k := k) i
    show nwN k (nwI k i) ≤ _
    generalize nwI k i = C at ih ge
    unfold nwN
    refine Nat.max_le.mpr ⟨by decide, ?_⟩
    have h1 : 1208925819614629174706176 ^ (k + 1) / C ^ k ≤ 1208925819614629174706176 := by
      rw [Nat.div_le_iff_le_mul_add_pred (Nat.pow_pos (by omega))]
      refine Nat.le_trans ?_ (Nat.le_add_right _ _)
      rw [Nat.pow_succ, Nat.mul_comm (C ^ k)]
      rw [Nat.mul_comm]
      exact Nat.mul_le_mul_left _ (Nat.pow_le_pow_left ge k)
    have h2 : k * C ≤ k * (2 * 1208925819614629174706176) := Nat.mul_le_mul_left _ ih
    have h3 : (k * C + (1208925819614629174706176 ^ (k + 1) / C ^ k + 1) + 65536) / (k + 1) < 2 * 1208925819614629174706176 := by
      rw [Nat.div_lt_iff_lt_mul (by omega)]
      generalize 1208925819614629174706176 ^ (k + 1) / C ^ k = D at h1 ⊢
      generalize k * C = F at h2 ⊢
      omega
    omega
theorem rXY {s n : Nat} {lift : Int} (hs : s ≠ 0) (h1 : 0 ≤ (xbl s : Int) - 1 + lift) (h2 : (xbl s : Int) + lift ≤ n) : rY lift ≤ rX s lift ∧ rX s lift < 2 ^ n * rY lift := by
  obtain ⟨b1, b2, b3⟩ := xbl_of hs
  unfold rX rY
  constructor
  · by_cases h : 0 ≤ lift
    · rw [show (-lift).toNat = 0 by omega, Nat.pow_zero]
      exact Nat.mul_pos (by omega) (Nat.two_pow_pos _)
    · rw [show lift.toNat = 0 by omega, Nat.pow_zero, Nat.mul_one]
      exact Nat.le_trans (Nat.pow_le_pow_right (by omega) (by omega)) b1
  · by_cases h : 0 ≤ lift
    · rw [show (-lift).toNat = 0 by omega, Nat.pow_zero, Nat.mul_one]
      refine Nat.lt_of_lt_of_le ((Nat.mul_lt_mul_right (Nat.two_pow_pos _)).mpr b2) ?_
      rw [← Nat.pow_add]
      exact Nat.pow_le_pow_right (by omega) (by omega)
    · rw [show lift.toNat = 0 by omega, Nat.pow_zero, Nat.mul_one, ← Nat.pow_add]
      exact Nat.lt_of_lt_of_le b2 (Nat.pow_le_pow_right (by omega) (by omega))
theorem nq_R {s k P N g : Nat} {lift : Int} (hk : 1 ≤ k ∧ k ≤ 31) (hg0 : 0 < g) (hPN : P ≤ N) :
    rX s lift * (2 ^ (32 * N)) ^ (k + 1) < (rQ s lift k P N g + 1) * (g * 2 ^ (32 * (N - P))) ^ k * rY lift ∧
    rQ s lift k P N g * (g * 2 ^ (32 * (N - P))) ^ k * 2 ^ (32 * (N + 1)) * rY lift ≤ rX s lift * (2 ^ (32 * N)) ^ (k + 1) * (2 ^ (32 * (N + 1)) + 256) := by
  have hJ := pR_J (most := (N : Int) + 2) (W := 2 ^ (32 * (N + 1))) (b := g) (n := k) (by omega) (by rw [show ((N : Int) + 2).toNat - 1 = N + 1 by omega]) hg0 hk.1 (by omega)
  exact nq_b (G := (pR ((N : Int) + 2) g k).1) (sc := (pR ((N : Int) + 2) g k).2.1) (cut := (pR ((N : Int) + 2) g k).2.2) (t := lift + 32 * (N : Int) + 32 * (P : Int) * (k : Int) - (pR ((N : Int) + 2) g k).2.1) rfl hJ rfl hPN
theorem fd_m1 {s k g i h : Nat} {lift : Int} (hk : 1 ≤ k ∧ k ≤ 31) (hg0 : 0 < g) (h1 : rY lift ≤ rX s lift) (h2 : rX s lift < 2 ^ (k + 1) * rY lift) (hh : 0 < h) (c1 : rX s lift * 18446744073709551616 ^ (k + 1) ≤ h ^ (k + 1) * rY lift) (c2 : (h - 1) ^ (k + 1) * rY lift < rX s lift * 18446744073709551616 ^ (k + 1))
    (lo : rX s lift * 18446744073709551616 ^ (k + 1) < (g + 1) ^ (k + 1) * rY lift) (tb : g * 1208925819614629174706176 ≤ nwI k i * h) (g' : Nat) (hg : g' = (k * (g * 2 ^ (32 * (2 - 2))) + rQ s lift k 2 2 g) / (k + 1)) : rX s lift * 18446744073709551616 ^ (k + 1) < (g' + 1) ^ (k + 1) * rY lift ∧ g' * 1208925819614629174706176 ≤ nwI k (i + 1) * h ∧ (g ≤ g' + 2 ∨ i = 99 → gOk (rX s lift) (rY lift) k 18446744073709551616 g') := by
  have hq := nq_R (s := s) (lift := lift) (P := 2) (N := 2) hk hg0 (Nat.le_refl _)
  have e1 : g * 2 ^ (32 * (2 - 2)) = g := by rw [show 32 * (2 - 2) = 0 from rfl, Nat.pow_zero, Nat.mul_one]
  rw [e1, show 2 ^ (32 * 2) = 18446744073709551616 from rfl, show 32 * (2 + 1) = 96 from rfl] at hq
  rw [e1] at hg
  exact nw_one hk (rY_pos _) h1 h2 hh c1 c2 lo tb hq.1 hq.2 hg
theorem fd_g {X Y k B g : Nat} (hY : 0 < Y) (h1 : Y ≤ X) (lo : X * B ^ (k + 1) < (g + 1) ^ (k + 1) * Y) : B ≤ g := by
  have a1 : B ^ (k + 1) * Y < (g + 1) ^ (k + 1) * Y := by
    refine Nat.lt_of_le_of_lt ?_ lo
    rw [Nat.mul_comm]
    exact Nat.mul_le_mul_right _ h1
  have := pow_lt_inv (Nat.lt_of_mul_lt_mul_right a1)
  omega
theorem fd_b {k g i h : Nat} (hk : 1 ≤ k ∧ k ≤ 31) (hh : h ≤ 2 * 18446744073709551616) (tb : g * 1208925819614629174706176 ≤ nwI k i * h) : xbl g ≤ 5000 := by
  have a1 := Nat.mul_le_mul (nwI_le hk i) hh
  have a2 : g * 1208925819614629174706176 ≤ 2 * 1208925819614629174706176 * (2 * 18446744073709551616) := Nat.le_trans tb a1
  have a3 : g < 2 ^ 67 := by omega
  have := xbl_le a3
  omega
theorem gOk_b {X Y k P g : Nat} (hY : 0 < Y) (h2 : X < 2 ^ (k + 1) * Y) (ho : gOk X Y k (2 ^ (32 * P)) g) : xbl g ≤ 32 * P + 2 := by
  have a1 : X * (2 ^ (32 * P)) ^ (k + 1) ≤ (2 * 2 ^ (32 * P)) ^ (k + 1) * Y := by
    rw [Nat.mul_pow]
    refine Nat.le_trans (Nat.mul_le_mul_right _ (Nat.le_of_lt h2)) (Nat.le_of_eq ?_)
    rw [Nat.mul_assoc, Nat.mul_comm Y, Nat.mul_assoc]
  have a2 := pow_lt_inv (Nat.lt_of_mul_lt_mul_right (Nat.lt_of_lt_of_le ho.1 a1))
  refine xbl_le ?_
  rw [show 32 * P + 2 = 32 * P + 1 + 1 from rfl, Nat.pow_succ, Nat.pow_succ]
  omega
theorem dbl_fuel {Wd P N f : Nat} (hP : 2 ≤ P) (hw : Wd ≤ (P - 1) * 2 ^ (f + 1) + 1) (hN : N = 2 * P - 1 ∨ N = Wd) : Wd ≤ (N - 1) * 2 ^ f + 1 := by
  have F0 := Nat.two_pow_pos f
  rw [Nat.pow_succ] at hw
  generalize 2 ^ f = F at hw F0 ⊢
  have e1 : (P - 1) * (F * 2) = (2 * (P - 1)) * F := by rw [Nat.mul_comm F, ← Nat.mul_assoc, Nat.mul_comm (P - 1)]
  rw [e1] at hw
  rcases hN with e | e
  · rw [e, show 2 * P - 1 - 1 = 2 * (P - 1) by omega]
    exact hw
  · have := Nat.mul_le_mul_left (N - 1) (show 1 ≤ F from F0)
    omega
theorem fS.v106 {S S1 : Nat → Nat → Int} {V V1 : Nat → Nat} {hr k P g u : Nat} {lift E : Int} (h : fS S V S1 V1 hr lift E k P g) : fS S V S1 (uv V1 106 u) hr lift E k P g := by
  obtain ⟨q0, q5, q6, q7, q8, q9, qp, qg, qv⟩ := h
  exact ⟨q0, q5, q6, q7, q8, q9, qp, by rw [uv_n (by decide)]; exact qg, fun i hi => by rw [uv_n (fun e => hi (by unfold scr; omega))]; exact qv i hi⟩
theorem fS.v102 {S S1 : Nat → Nat → Int} {V V1 : Nat → Nat} {hr k P g u : Nat} {lift E : Int} (h : fS S V S1 V1 hr lift E k P g) : fS S V S1 (uv V1 102 u) hr lift E k P g := by
  obtain ⟨q0, q5, q6, q7, q8, q9, qp, qg, qv⟩ := h
  exact ⟨q0, q5, q6, q7, q8, q9, qp, by rw [uv_n (by decide)]; exact qg, fun i hi => by rw [uv_n (fun e => hi (by unfold scr; omega))]; exact qv i hi⟩
section
variable {w0 w : xW} {L Z : Nat} {S S1 : Nat → Nat → Int} {V V1 : Nat → Nat} {d hr k P N g h : Nat} {lv : xLv} {Q : Option Value ⊕ Nat → xW → Prop} {lift E p : Int}
set_option maxHeartbeats 4000000 in
theorem fd_1 (khr : kd hr = 3) (nhr : ¬ scr hr) (hk : 1 ≤ k ∧ k ≤ 31) (bs : xbl (V hr) ≤ 200000) (bl : -200000 ≤ lift ∧ lift ≤ 100 ∧ (xbl (V hr) : Int) + lift ≤ 33) (x1 : rY lift ≤ rX (V hr) lift) (x2 : rX (V hr) lift < 2 ^ (k + 1) * rY lift) (hh : 0 < h) (hb2 : h ≤ 2 * 18446744073709551616) (c1 : rX (V hr) lift * 18446744073709551616 ^ (k + 1) ≤ h ^ (k + 1) * rY lift) (c2 : (h - 1) ^ (k + 1) * rY lift < rX (V hr) lift * 18446744073709551616 ^ (k + 1)) (hQ : ∀ {lv w S2 V2 g}, cX w0 L Z S2 V2 w → fS S V S2 V2 hr lift E k 2 g → gOk (rX (V hr) lift) (rY lift) k 18446744073709551616 g → xld lv 0 = some (Value.ref 101) → xld lv 4 = some (Value.int (Int32.ofInt p)) → xEv (d + 7) 81 133 lv [] w Q) : ∀ (f i : Nat) {lv : xLv} {w : xW} {S1 : Nat → Nat → Int} {V1 : Nat → Nat} {g : Nat}, i + f = 100 → cX w0 L Z S1 V1 w → fS S V S1 V1 hr lift E k 2 g → rX (V hr) lift * 18446744073709551616 ^ (k + 1) < (g + 1) ^ (k + 1) * rY lift → g * 1208925819614629174706176 ≤ nwI k i * h → (i = 100 → gOk (rX (V hr) lift) (rY lift) k 18446744073709551616 g) → xld lv 0 = some (Value.ref 101) → xld lv 4 = some (Value.int (Int32.ofInt p)) → xld lv 5 = some (Value.int 1) → xld lv 6 = some (Value.int (Int32.ofInt (i : Int))) → xEv (d + 7) 81 58 lv [] w Q := by
  intro f
  induction f with
  | zero =>
    intro i lv w S1 V1 g hi hR hf lo tb ho l0 l4 l5 l6
    refine i_81_58 l5 ?_
    refine i_81_60 (fun c => absurd c (by decide)) (fun _ => ?_)
    refine i_81_63 l6 ?_
    refine i_81_65 ?_
    refine i_81_67 (b_le (a := 100) (b := (i : Int)) ⟨by decide, by decide⟩ ⟨by omega, by omega⟩ fun _ => ?_) (b_lt (a := (i : Int)) (b := 100) ⟨by omega, by omega⟩ ⟨by decide, by decide⟩ fun c => absurd c (by omega))
    exact hQ hR hf (ho (by omega)) l0 l4
  | succ f ih =>
    intro i lv w S1 V1 g hi hR hf lo tb ho l0 l4 l5 l6
    have hg0 : 0 < g := by have := fd_g (rY_pos _) x1 lo; omega
    have bg : xbl g ≤ 5000 := fd_b hk hb2 tb
    have bg1 : xbl (V1 104) ≤ 5000 := by rw [hf.2.2.2.2.2.2.2.1]; exact bg
    refine i_81_58 (x := 1) l5 ?_
    refine i_81_60 (fun c => absurd c (by decide)) (fun _ => ?_)
    refine i_81_63 (x := Int32.ofInt (i : Int)) l6 ?_
    refine i_81_65 ?_
    refine i_81_67 (b_le (a := 100) (b := (i : Int)) ⟨by decide, by decide⟩ ⟨by omega, by omega⟩ fun c0 => absurd c0 (by omega)) (b_lt (a := (i : Int)) (b := 100) ⟨by omega, by omega⟩ ⟨by decide, by decide⟩ fun c0 => ?_)
    refine i_81_70 (x := 101) l0 ?_
    refine i_81_71 (v := Value.ref 106) (hR.k9 kq_101) rfl ?_
    refine i_81_74 (x := 101) l0 ?_
    refine i_81_75 (v := Value.ref 104) (hR.k9 kq_101) rfl ?_
    obtain ⟨fs, hobj⟩ := hR.nat kq_106
    obtain ⟨w, hrun, hR⟩ := X_set (d := d + 3) (h := 106) (h2 := 104) (u := V1 104) hR kq_106 kq_104 (by decide) (rfl) (by omega)
    refine i_81_78 hobj (Nat.le_of_ble_eq_true rfl) hrun ?_
    refine i_81_81 (x := 101) l0 ?_
    refine i_81_82 ?_
    have hobj := hR.k9 kq_101
    obtain ⟨w, hrun, S2, V2, hR, hf3, h106⟩ := x_refine (d := d) (N := 2) hR (hf.v106 (u := V1 104)) khr nhr hk (by omega) (by omega) bs bl bg hg0
    rw [show Int32.ofInt ((2 : Nat) : Int) = 2 from rfl] at hrun
    rw [uv_s, hf.2.2.2.2.2.2.2.1] at h106
    obtain ⟨g2, eg2⟩ : ∃ g2, g2 = (k * (g * 2 ^ (32 * (2 - 2))) + rQ (V hr) lift k 2 2 g) / (k + 1) := ⟨_, rfl⟩
    rw [← eg2] at hf3
    obtain ⟨m1, m2, m3⟩ := fd_m1 hk hg0 x1 x2 hh c1 c2 lo tb g2 eg2
    have bg2 : xbl (V2 104) ≤ 5000 := by rw [hf3.2.2.2.2.2.2.2.1]; exact fd_b hk hb2 m2
    refine i_81_83 hobj (Nat.le_of_ble_eq_true rfl) hrun ?_
    refine i_81_86 (x := 101) l0 ?_
    refine i_81_87 (v := Value.ref 102) (hR.k9 kq_101) rfl ?_
    refine i_81_90 (x := 101) l0 ?_
    refine i_81_91 (v := Value.ref 104) (hR.k9 kq_101) rfl ?_
    obtain ⟨fs, hobj⟩ := hR.nat kq_102
    obtain ⟨w, hrun, hR⟩ := X_set (d := d + 3) (h := 102) (h2 := 104) (u := V2 104) hR kq_102 kq_104 (by decide) (rfl) (by omega)
    refine i_81_94 hobj (Nat.le_of_ble_eq_true rfl) hrun ?_
    refine i_81_97 (x := 101) l0 ?_
    refine i_81_98 (v := Value.ref 102) (hR.k9 kq_101) rfl ?_
    refine i_81_101 ?_
    refine i_81_102 ?_
    obtain ⟨fs, hobj⟩ := hR.nat kq_102
    obtain ⟨w, hrun, hR⟩ := X_mad (d := d + 3) (h := 102) (u := V2 104) (f := 1) (g := 2) hR kq_102 (uv_s) (by omega) (by omega) (by omega) (by omega)
    rw [show Int32.ofInt ((2 : Nat) : Int) = 2 from rfl] at hrun
    rw [show Int32.ofInt ((1 : Nat) : Int) = 1 from rfl] at hrun
    rw [uvv] at hR
    refine i_81_103 hobj (Nat.le_of_ble_eq_true rfl) hrun ?_
    refine i_81_106 (x := 101) l0 ?_
    refine i_81_107 (v := Value.ref 102) (hR.k9 kq_101) rfl ?_
    refine i_81_110 (x := 101) l0 ?_
    refine i_81_111 (v := Value.ref 106) (hR.k9 kq_101) rfl ?_
    obtain ⟨fs, hobj⟩ := hR.nat kq_102
    have hrun := X_ord (d := d + 6) (h := 102) (h2 := 106) (u := (V2 104) * 1 + 2) (u2 := V2 106) hR kq_102 kq_106 (uv_s) ((uv_n (by omega)).trans (rfl))
    have hcmp := ncmp_3 ((V2 104) * 1 + 2) (V2 106)
    refine i_81_114 hobj (Nat.le_of_ble_eq_true rfl) hrun ?_
    refine i_81_117 (z_ge (a := ncmp ((V2 104) * 1 + 2) (V2 106)) ⟨by omega, by omega⟩ fun c1 => ?_) (z_lt (a := ncmp ((V2 104) * 1 + 2) (V2 106)) ⟨by omega, by omega⟩ fun c1 => ?_)
    · refine i_81_124 ?_
      refine i_81_125 rfl ?_
      refine lgen1 (i := 5) (v := Value.int 0) (fun lv lg ls => ?_)
      replace l0 := lg 0 _ rfl rfl l0
      replace l4 := lg 4 _ rfl rfl l4
      replace l6 := lg 6 _ rfl rfl l6
      have l5 := ls
      refine i_81_127 (x := (Int32.ofInt (i : Int))) (c := (Int32.ofInt ((i : Int) + 1))) l6 (o_add (i : Int) 1) rfl ?_
      refine lgen1 (i := 6) (v := Value.int (Int32.ofInt ((i : Int) + 1))) (fun lv lg ls => ?_)
      replace l5 := lg 5 _ rfl rfl l5
      replace l0 := lg 0 _ rfl rfl l0
      replace l4 := lg 4 _ rfl rfl l4
      have l6 := ls
      refine i_81_130 ?_
      rw [h106, hf3.2.2.2.2.2.2.2.1, Nat.mul_one] at c1
      have hcm := ncmp_3 (g2 + 2) g
      refine i_81_58 l5 ?_
      refine i_81_60 (fun _ => ?_) (fun c => absurd c (by decide))
      exact hQ hR hf3.v102 (m3 (Or.inl (by omega))) l0 l4
    · refine i_81_120 ?_
      refine i_81_121 ?_
      refine i_81_125 rfl ?_
      refine lgen1 (i := 5) (v := Value.int 1) (fun lv lg ls => ?_)
      replace l0 := lg 0 _ rfl rfl l0
      replace l4 := lg 4 _ rfl rfl l4
      replace l6 := lg 6 _ rfl rfl l6
      have l5 := ls
      refine i_81_127 (x := (Int32.ofInt (i : Int))) (c := (Int32.ofInt ((i : Int) + 1))) l6 (o_add (i : Int) 1) rfl ?_
      refine lgen1 (i := 6) (v := Value.int (Int32.ofInt ((i : Int) + 1))) (fun lv lg ls => ?_)
      replace l5 := lg 5 _ rfl rfl l5
      replace l0 := lg 0 _ rfl rfl l0
      replace l4 := lg 4 _ rfl rfl l4
      have l6 := ls
      refine i_81_130 ?_
      rw [h106, hf3.2.2.2.2.2.2.2.1, Nat.mul_one] at c1
      have hcm := ncmp_3 (g2 + 2) g
      exact ih (i + 1) (by omega) hR hf3.v102 m1 m2 (fun e => m3 (Or.inr (by omega))) l0 l4 l5 l6
set_option maxHeartbeats 4000000 in
theorem fd_2 {Wd : Nat} (khr : kd hr = 3) (nhr : ¬ scr hr) (hk : 1 ≤ k ∧ k ≤ 31) (bs : xbl (V hr) ≤ 200000) (bl : -200000 ≤ lift ∧ lift ≤ 100 ∧ (xbl (V hr) : Int) + lift ≤ 33) (x1 : rY lift ≤ rX (V hr) lift) (x2 : rX (V hr) lift < 2 ^ (k + 1) * rY lift) (hW : Wd ≤ 140) (hQ : ∀ {w S2 V2 g}, cX w0 L Z S2 V2 w → fS S V S2 V2 hr lift E k Wd g → gOk (rX (V hr) lift) (rY lift) k (2 ^ (32 * Wd)) g → Q (.inl none) w) : ∀ (f i : Nat) {lv : xLv} {w : xW} {S1 : Nat → Nat → Int} {V1 : Nat → Nat} {P g : Nat}, i + f ≤ 20 → 2 ≤ P → P ≤ Wd → Wd ≤ (P - 1) * 2 ^ f + 1 → cX w0 L Z S1 V1 w → fS S V S1 V1 hr lift E k P g → gOk (rX (V hr) lift) (rY lift) k (2 ^ (32 * P)) g → xld lv 0 = some (Value.ref 101) → xld lv 6 = some (Value.int (Int32.ofInt (Wd : Int))) → xld lv 7 = some (Value.int (Int32.ofInt (i : Int))) → xEv (d + 7) 81 145 lv [] w Q := by
  intro f
  induction f with
  | zero =>
    intro i lv w S1 V1 P g hi hP hPW hw hR hf ho l0 l6 l7
    rw [Nat.pow_zero, Nat.mul_one] at hw
    refine i_81_145 (x := 101) l0 ?_
    refine i_81_146 (v := Value.int (Int32.ofInt (S1 101 8))) (hR.k9 kq_101) rfl ?_
    rw [hf.2.2.2.2.1]
    refine i_81_149 l6 ?_
    refine i_81_151 (b_le (a := (Wd : Int)) (b := (P : Int)) ⟨by omega, by omega⟩ ⟨by omega, by omega⟩ fun _ => ?_) (b_lt (a := (P : Int)) (b := (Wd : Int)) ⟨by omega, by omega⟩ ⟨by omega, by omega⟩ fun c => absurd c (by omega))
    refine i_81_184 ?_
    exact hQ hR (show fS S V S1 V1 hr lift E k Wd g from (show P = Wd by omega) ▸ hf) ((show P = Wd by omega) ▸ ho)
  | succ f ih =>
    intro i lv w S1 V1 P g hi hP hPW hw hR hf ho l0 l6 l7
    have hg0 : 0 < g := by have := fd_g (rY_pos _) x1 ho.2; have := Nat.two_pow_pos (32 * P); omega
    have bg : xbl g ≤ 5000 := by have := gOk_b (rY_pos _) x2 ho; omega
    refine i_81_145 (x := 101) l0 ?_
    refine i_81_146 (v := Value.int (Int32.ofInt (S1 101 8))) (hR.k9 kq_101) rfl ?_
    rw [hf.2.2.2.2.1]
    refine i_81_149 (x := Int32.ofInt (Wd : Int)) l6 ?_
    refine i_81_151 (b_le (a := (Wd : Int)) (b := (P : Int)) ⟨by omega, by omega⟩ ⟨by omega, by omega⟩ fun c0 => ?_) (b_lt (a := (P : Int)) (b := (Wd : Int)) ⟨by omega, by omega⟩ ⟨by omega, by omega⟩ fun c0 => ?_)
    · refine i_81_184 ?_
      exact hQ hR (show fS S V S1 V1 hr lift E k Wd g from (show P = Wd by omega) ▸ hf) ((show P = Wd by omega) ▸ ho)
    · refine i_81_154 (x := Int32.ofInt (i : Int)) l7 ?_
      refine i_81_156 ?_
      refine i_81_158 (b_le (a := 20) (b := (i : Int)) ⟨by decide, by decide⟩ ⟨by omega, by omega⟩ fun c1 => absurd c1 (by omega)) (b_lt (a := (i : Int)) (b := 20) ⟨by omega, by omega⟩ ⟨by decide, by decide⟩ fun c1 => ?_)
      refine i_81_161 (x := 101) l0 ?_
      refine i_81_162 ?_
      refine i_81_163 (x := 101) l0 ?_
      refine i_81_164 (v := Value.int (Int32.ofInt (S1 101 8))) (hR.k9 kq_101) rfl ?_
      rw [hf.2.2.2.2.1]
      refine i_81_167 (c := Int32.ofInt (2 * (P : Int))) (o_mul 2 (P : Int)) ?_
      refine i_81_168 ?_
      refine i_81_169 (c := Int32.ofInt ((2 * (P : Int)) - 1)) (o_sub (2 * (P : Int)) 1) ?_
      refine i_81_170 (x := Int32.ofInt (Wd : Int)) l6 ?_
      have hrun := s_min (d := d + 5) (w := w) (a := (2 * (P : Int)) - 1) (b := (Wd : Int)) ⟨by omega, by omega⟩ ⟨by omega, by omega⟩
      refine i_81_172 (Nat.le_of_ble_eq_true rfl) hrun ?_
      obtain ⟨N, hN⟩ : ∃ N : Nat, min ((2 * (P : Int)) - 1) (Wd : Int) = (N : Int) := ⟨(min ((2 * (P : Int)) - 1) (Wd : Int)).toNat, by omega⟩
      rw [hN]
      have hobj := hR.k9 kq_101
      obtain ⟨w, hrun, S2, V2, hR, hf3, h106⟩ := x_refine (d := d) (N := N) hR hf khr nhr hk (by omega) (by omega) bs bl bg hg0
      have hq := nq_R (s := V hr) (lift := lift) (P := P) (N := N) hk hg0 (by omega)
      have ho2 := nw_dbl hk (rY_pos _) x1 x2 hP (show P ≤ N by omega) (by omega) ho hq.1 hq.2 rfl
      refine i_81_175 hobj (Nat.le_of_ble_eq_true rfl) hrun ?_
      refine i_81_178 (x := (Int32.ofInt (i : Int))) (c := (Int32.ofInt ((i : Int) + 1))) l7 (o_add (i : Int) 1) rfl ?_
      refine lgen1 (i := 7) (v := Value.int (Int32.ofInt ((i : Int) + 1))) (fun lv lg ls => ?_)
      replace l0 := lg 0 _ rfl rfl l0
      replace l6 := lg 6 _ rfl rfl l6
      have l7 := ls
      refine i_81_181 ?_
      exact ih (i + 1) (by omega) (by omega) (by omega) (dbl_fuel hP hw (by omega)) hR hf3 ho2 l0 l6 l7
set_option maxHeartbeats 4000000 in
theorem x_find {scale : Int} {Wd : Nat} (hR : cX w0 L Z S V w) (khr : kd hr = 3) (nhr : ¬ scr hr) (hpw : pwP S) (hk : 1 ≤ k ∧ k ≤ 31) (hs0 : V hr ≠ 0) (bs : xbl (V hr) ≤ 150000) (bsc : -150000 ≤ scale ∧ scale ≤ 150000) (hE : ((xbl (V hr) : Int) + scale - 1) / ((k : Int) + 1) = E) (hl : scale - ((k : Int) + 1) * E = lift) (hl1 : 0 ≤ (xbl (V hr) : Int) - 1 + lift) (hl2 : (xbl (V hr) : Int) + lift ≤ (k : Int) + 1) (hp : 0 ≤ p ∧ p ≤ 4096) (hW : (Wd : Int) = p / 32 + 2) : ∃ w', xRun (d + 7) 81 [Value.ref 101, Value.ref hr, Value.int (Int32.ofInt scale), Value.int (Int32.ofInt ((k : Int) + 1)), Value.int (Int32.ofInt p)] w (.inl none) w' ∧ ∃ S' V' g, cX w0 L Z S' V' w' ∧ fS S V S' V' hr lift E k Wd g ∧ gOk (rX (V hr) lift) (rY lift) k (2 ^ (32 * Wd)) g := by
  have key : ∀ lv, xld lv 0 = some (Value.ref 101) → xld lv 1 = some (Value.ref hr) → xld lv 2 = some (Value.int (Int32.ofInt scale)) → xld lv 3 = some (Value.int (Int32.ofInt ((k : Int) + 1))) → xld lv 4 = some (Value.int (Int32.ofInt p)) → xEv (d + 7) 81 0 lv [] w (fun o w' => o = .inl none ∧ ∃ S' V' g, cX w0 L Z S' V' w' ∧ fS S V S' V' hr lift E k Wd g ∧ gOk (rX (V hr) lift) (rY lift) k (2 ^ (32 * Wd)) g) := by
    intro lv l0 l1 l2 l3 l4
    obtain ⟨x1, x2⟩ := rXY (s := V hr) (n := k + 1) (lift := lift) hs0 (by omega) (by omega)
    have bl : -200000 ≤ lift ∧ lift ≤ 100 ∧ (xbl (V hr) : Int) + lift ≤ 33 := by omega
    obtain ⟨h, hh, c1, c2⟩ := ceil_ex (Z := rX (V hr) lift * 18446744073709551616 ^ (k + 1)) (Y := rY lift) (k := k) (Nat.mul_pos (Nat.lt_of_lt_of_le (rY_pos _) x1) (Nat.pow_pos (by decide))) (rY_pos _)
    obtain ⟨b1, b2⟩ := ceil_b (rY_pos _) x1 x2 hh c1 c2
    have hW0 : Int.tdiv p 32 + 2 = (Wd : Int) := by rw [Int.tdiv_eq_ediv_of_nonneg (by omega)]; omega
    refine i_81_0 (x := 101) l0 ?_
    refine i_81_1 (x := hr) l1 ?_
    obtain ⟨fs, hobj⟩ := hR.nat khr
    have hrun := X_bits (d := d + 5) (h := hr) (u := V hr) hR khr (rfl)
    refine i_81_2 hobj (Nat.le_of_ble_eq_true rfl) hrun ?_
    refine i_81_5 (x := Int32.ofInt scale) l2 ?_
    refine i_81_6 (c := Int32.ofInt ((xbl (V hr) : Int) + scale)) (o_add (xbl (V hr) : Int) scale) ?_
    refine i_81_7 ?_
    refine i_81_8 (c := Int32.ofInt (((xbl (V hr) : Int) + scale) - 1)) (o_sub ((xbl (V hr) : Int) + scale) 1) ?_
    refine i_81_9 (x := Int32.ofInt ((k : Int) + 1)) l3 ?_
    have hrun := s_fdiv (d := d + 5) (w := w) (a := ((xbl (V hr) : Int) + scale) - 1) (b := (k : Int) + 1) (by omega) (by omega)
    refine i_81_10 (Nat.le_of_ble_eq_true rfl) hrun ?_
    refine i_81_13 (fs2 := f9 (u1 (S 101) 9 ((((xbl (V hr) : Int) + scale) - 1) / ((k : Int) + 1)))) (hR.k9 kq_101) (Nat.le_of_ble_eq_true rfl) rfl (h7k kq_101 (by decide)) ?_
    refine xgen (P := cX w0 L Z (u2 S 101 9 ((((xbl (V hr) : Int) + scale) - 1) / ((k : Int) + 1))) V) (hR.p9 kq_101) (fun w hR => ?_)
    refine i_81_16 (x := 101) l0 ?_
    refine i_81_17 (x := hr) l1 ?_
    refine i_81_18 (fs2 := f9 (u1 ((u2 S 101 9 ((((xbl (V hr) : Int) + scale) - 1) / ((k : Int) + 1))) 101) 5 (hr : Int))) (hR.k9 kq_101) (Nat.le_of_ble_eq_true rfl) rfl (h7k kq_101 (by decide)) ?_
    refine xgen (P := cX w0 L Z (u2 (u2 S 101 9 ((((xbl (V hr) : Int) + scale) - 1) / ((k : Int) + 1))) 101 5 (hr : Int)) V) (hR.p9 kq_101) (fun w hR => ?_)
    refine i_81_21 (x := 101) l0 ?_
    refine i_81_22 (x := Int32.ofInt scale) l2 ?_
    refine i_81_23 (x := Int32.ofInt ((k : Int) + 1)) l3 ?_
    refine i_81_24 (x := 101) l0 ?_
    refine i_81_25 (v := Value.int (Int32.ofInt ((u2 (u2 S 101 9 ((((xbl (V hr) : Int) + scale) - 1) / ((k : Int) + 1))) 101 5 (hr : Int)) 101 9))) (hR.k9 kq_101) rfl ?_
    rw [show Int32.ofInt ((u2 (u2 S 101 9 ((((xbl (V hr) : Int) + scale) - 1) / ((k : Int) + 1))) 101 5 (hr : Int)) 101 9) = Int32.ofInt ((((xbl (V hr) : Int) + scale) - 1) / ((k : Int) + 1)) by rw [u2_eq, if_neg (fun e => absurd e.2 (by decide)), u2_eq, if_pos ⟨rfl, rfl⟩]]
    refine i_81_28 (c := Int32.ofInt (((k : Int) + 1) * ((((xbl (V hr) : Int) + scale) - 1) / ((k : Int) + 1)))) (o_mul ((k : Int) + 1) ((((xbl (V hr) : Int) + scale) - 1) / ((k : Int) + 1))) ?_
    refine i_81_29 (c := Int32.ofInt (scale - (((k : Int) + 1) * ((((xbl (V hr) : Int) + scale) - 1) / ((k : Int) + 1))))) (o_sub scale (((k : Int) + 1) * ((((xbl (V hr) : Int) + scale) - 1) / ((k : Int) + 1)))) ?_
    refine i_81_30 (fs2 := f9 (u1 ((u2 (u2 S 101 9 ((((xbl (V hr) : Int) + scale) - 1) / ((k : Int) + 1))) 101 5 (hr : Int)) 101) 6 (scale - (((k : Int) + 1) * ((((xbl (V hr) : Int) + scale) - 1) / ((k : Int) + 1)))))) (hR.k9 kq_101) (Nat.le_of_ble_eq_true rfl) rfl (h7k kq_101 (by decide)) ?_
    refine xgen (P := cX w0 L Z (u2 (u2 (u2 S 101 9 ((((xbl (V hr) : Int) + scale) - 1) / ((k : Int) + 1))) 101 5 (hr : Int)) 101 6 (scale - (((k : Int) + 1) * ((((xbl (V hr) : Int) + scale) - 1) / ((k : Int) + 1))))) V) (hR.p9 kq_101) (fun w hR => ?_)
    refine i_81_33 (x := 101) l0 ?_
    refine i_81_34 (x := Int32.ofInt ((k : Int) + 1)) l3 ?_
    refine i_81_35 (fs2 := f9 (u1 ((u2 (u2 (u2 S 101 9 ((((xbl (V hr) : Int) + scale) - 1) / ((k : Int) + 1))) 101 5 (hr : Int)) 101 6 (scale - (((k : Int) + 1) * ((((xbl (V hr) : Int) + scale) - 1) / ((k : Int) + 1))))) 101) 7 ((k : Int) + 1))) (hR.k9 kq_101) (Nat.le_of_ble_eq_true rfl) rfl (h7k kq_101 (by decide)) ?_
    refine xgen (P := cX w0 L Z (u2 (u2 (u2 (u2 S 101 9 ((((xbl (V hr) : Int) + scale) - 1) / ((k : Int) + 1))) 101 5 (hr : Int)) 101 6 (scale - (((k : Int) + 1) * ((((xbl (V hr) : Int) + scale) - 1) / ((k : Int) + 1))))) 101 7 ((k : Int) + 1)) V) (hR.p9 kq_101) (fun w hR => ?_)
    refine i_81_38 (x := 101) l0 ?_
    refine i_81_39 ?_
    refine i_81_40 (fs2 := f9 (u1 ((u2 (u2 (u2 (u2 S 101 9 ((((xbl (V hr) : Int) + scale) - 1) / ((k : Int) + 1))) 101 5 (hr : Int)) 101 6 (scale - (((k : Int) + 1) * ((((xbl (V hr) : Int) + scale) - 1) / ((k : Int) + 1))))) 101 7 ((k : Int) + 1)) 101) 8 2)) (hR.k9 kq_101) (Nat.le_of_ble_eq_true rfl) rfl (h7k kq_101 (by decide)) ?_
    refine xgen (P := cX w0 L Z (u2 (u2 (u2 (u2 (u2 S 101 9 ((((xbl (V hr) : Int) + scale) - 1) / ((k : Int) + 1))) 101 5 (hr : Int)) 101 6 (scale - (((k : Int) + 1) * ((((xbl (V hr) : Int) + scale) - 1) / ((k : Int) + 1))))) 101 7 ((k : Int) + 1)) 101 8 2) V) (hR.p9 kq_101) (fun w hR => ?_)
    refine i_81_43 (x := 101) l0 ?_
    refine i_81_44 (v := Value.ref 104) (hR.k9 kq_101) rfl ?_
    refine i_81_47 ?_
    obtain ⟨fs, hobj⟩ := hR.nat kq_104
    obtain ⟨w, hrun, hR⟩ := X_pow (d := d + 3) (h := 104) (p := 65) hR kq_104 (by decide)
    rw [show Int32.ofInt ((65 : Nat) : Int) = 65 from rfl] at hrun
    refine i_81_49 hobj (Nat.le_of_ble_eq_true rfl) hrun ?_
    refine i_81_52 ?_
    refine i_81_53 rfl ?_
    refine lgen1 (i := 5) (v := Value.int 1) (fun lv lg ls => ?_)
    replace l0 := lg 0 _ rfl rfl l0
    replace l1 := lg 1 _ rfl rfl l1
    replace l2 := lg 2 _ rfl rfl l2
    replace l3 := lg 3 _ rfl rfl l3
    replace l4 := lg 4 _ rfl rfl l4
    have l5 := ls
    refine i_81_55 ?_
    refine i_81_56 rfl ?_
    refine lgen1 (i := 6) (v := Value.int 0) (fun lv lg ls => ?_)
    replace l5 := lg 5 _ rfl rfl l5
    replace l0 := lg 0 _ rfl rfl l0
    replace l1 := lg 1 _ rfl rfl l1
    replace l2 := lg 2 _ rfl rfl l2
    replace l3 := lg 3 _ rfl rfl l3
    replace l4 := lg 4 _ rfl rfl l4
    have l6 := ls
    refine fd_1 (S := S) (V := V) (E := E) khr nhr hk (by omega) bl x1 x2 hh b2 c1 c2 (fun {lv w S2 V2 g} hR hf ho l0 l4 => ?_) 100 0 (g := 2 ^ 65) (by omega) hR ⟨fun b j b1 b2 => ?_, ?_, ?_, ?_, ?_, ?_, ?_, ?_, fun i hi => ?_⟩ ?_ ?_ (fun e => absurd e (by decide)) l0 l4 l5 l6
    · refine i_81_133 (x := Int32.ofInt p) l4 ?_
      refine i_81_135 ?_
      refine i_81_137 (c := Int32.ofInt (Int.tdiv p 32)) (o_nz (b := 32) ⟨by decide, by decide⟩) (o_tdiv (a := p) (b := 32) ⟨by omega, by omega⟩ ⟨by decide, by decide⟩) ?_
      refine i_81_138 ?_
      refine i_81_139 (c := Int32.ofInt ((Int.tdiv p 32) + 2)) (o_add (Int.tdiv p 32) 2) ?_
      refine i_81_140 rfl ?_
      refine lgen1 (i := 6) (v := Value.int (Int32.ofInt ((Int.tdiv p 32) + 2))) (fun lv lg ls => ?_)
      replace l0 := lg 0 _ rfl rfl l0
      replace l4 := lg 4 _ rfl rfl l4
      have l6 := ls
      refine i_81_142 ?_
      refine i_81_143 rfl ?_
      refine lgen1 (i := 7) (v := Value.int 0) (fun lv lg ls => ?_)
      replace l6 := lg 6 _ rfl rfl l6
      replace l0 := lg 0 _ rfl rfl l0
      replace l4 := lg 4 _ rfl rfl l4
      have l7 := ls
      rw [show Int.tdiv p 32 + 2 = (Wd : Int) from hW0] at l6
      exact fd_2 (Wd := Wd) khr nhr hk (by omega) bl x1 x2 (by omega) (fun hR hf ho => ⟨rfl, _, _, _, hR, hf, ho⟩) 8 0 (by omega) (by omega) (by omega) (by omega) hR hf ho l0 l6 l7
    · rw [u2_eq, if_neg (by omega), u2_eq, if_neg (by omega), u2_eq, if_neg (by omega), u2_eq, if_neg (by omega), u2_eq, if_neg (by omega)]
    · rw [u2_eq, if_neg (fun e => absurd e.2 (by decide)), u2_eq, if_neg (fun e => absurd e.2 (by decide)), u2_eq, if_neg (fun e => absurd e.2 (by decide)), u2_eq, if_pos ⟨rfl, rfl⟩]
    · rw [u2_eq, if_neg (fun e => absurd e.2 (by decide)), u2_eq, if_neg (fun e => absurd e.2 (by decide)), u2_eq, if_pos ⟨rfl, rfl⟩, hE]; exact hl
    · rw [u2_eq, if_neg (fun e => absurd e.2 (by decide)), u2_eq, if_pos ⟨rfl, rfl⟩]
    · rw [u2_eq, if_pos ⟨rfl, rfl⟩]; rfl
    · rw [u2_eq, if_neg (fun e => absurd e.2 (by decide)), u2_eq, if_neg (fun e => absurd e.2 (by decide)), u2_eq, if_neg (fun e => absurd e.2 (by decide)), u2_eq, if_neg (fun e => absurd e.2 (by decide)), u2_eq, if_pos ⟨rfl, rfl⟩]; exact hE
    · unfold pwP
      rw [u2_eq, if_neg (fun e => absurd e.2 (by decide)), u2_eq, if_neg (fun e => absurd e.2 (by decide)), u2_eq, if_neg (fun e => absurd e.2 (by decide)), u2_eq, if_neg (fun e => absurd e.2 (by decide)), u2_eq, if_neg (fun e => absurd e.2 (by decide)), u2_eq, if_neg (fun e => absurd e.2 (by decide)), u2_eq, if_neg (fun e => absurd e.2 (by decide)), u2_eq, if_neg (fun e => absurd e.2 (by decide)), u2_eq, if_neg (fun e => absurd e.2 (by decide)), u2_eq, if_neg (fun e => absurd e.2 (by decide))]
      exact hpw
    · exact uv_s
    · exact uv_n (fun e => hi (by unfold scr; omega))
    · refine Nat.lt_of_lt_of_le ?_ (Nat.mul_le_mul_right _ (Nat.pow_le_pow_left (show 2 * 18446744073709551616 ≤ 2 ^ 65 + 1 by decide) _))
      rw [Nat.mul_pow]
      have := (Nat.mul_lt_mul_right (Nat.pow_pos (n := k + 1) (show 0 < 18446744073709551616 by decide))).mpr x2
      refine Nat.lt_of_lt_of_le this (Nat.le_of_eq ?_)
      rw [Nat.mul_assoc, Nat.mul_comm (rY lift), ← Nat.mul_assoc]
    · show 2 ^ 65 * 1208925819614629174706176 ≤ 2 * 1208925819614629174706176 * h
      omega
  obtain ⟨o, w', h1, rfl, h2⟩ := (key (lv_args 0 [Value.ref 101, Value.ref hr, Value.int (Int32.ofInt scale), Value.int (Int32.ofInt ((k : Int) + 1)), Value.int (Int32.ofInt p)]) rfl rfl rfl rfl rfl).run
  exact ⟨w', h1, h2⟩
end
