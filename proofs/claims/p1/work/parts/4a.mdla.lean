def xmo (f : Int32) : xC := Sum.inr (12, [Value.ref 129, Value.ref 131, Value.ref 133, Value.ref 135, Value.ref 137, Value.ref 139, Value.ref 141, Value.ref 143, Value.ref 145, Value.ref 147, Value.ref 149, Value.ref 151, Value.ref 153, Value.ref 154, Value.ref 155, Value.ref 156, Value.ref 157, Value.int (-16384), Value.int 16384, Value.int f, Value.int 0, Value.int 0, Value.ref 158, Value.ref 159, Value.int 0, Value.int 0, Value.int 0, Value.int 0, Value.int 0, Value.int 0, Value.int 0, Value.int 0])
theorem xpowM1 {m : Int64} {B K P G : Int32} (hB : B.toInt = (xbl (xul m) : Int)) (h : xR1 m B K P G) : (B.toInt = 1 ∧ xPW m) ∨ (B.toInt ≠ 1 ∧ (xmk (xq m) G).toInt ≠ 0 ∧ ¬ xPW m) ∨ (B.toInt ≠ 1 ∧ (xmk (xq m) G).toInt = 0 ∧ xPW m) := by
  obtain ⟨a0, a1, a2, a3, a4, a5, a6, a7, a8, a9, a10, a11, a12, a13, a14, a15, a16, a17, a18⟩ := h
  have hN : xul m ≠ 0 := fun e => by rw [e] at hB; exact absurd hB (by show ¬ (B.toInt = (0 : Int)); omega)
  have hb := xbl_of hN
  have p0 := Nat.le_trans (Nat.pow_le_pow_right (n := 2) (by omega) (show 0 ≤ xbl (xul m) - 1 by omega)) hb.1
  have p1 := Nat.lt_of_lt_of_le hb.2.1 (Nat.pow_le_pow_right (n := 2) (by omega) (show xbl (xul m) ≤ 4 by omega))
  have m1 := xqs_n m
  have m2 := xqs_n (xqs m)
  have w0 := xq_n m
  have w1 := xq_n (xqs m)
  have w2 := xq_n (xqs (xqs m))
  have hg : G.toInt.toNat = xbl (xul m) - 1 - 0 := by omega
  have hmk := xmk_n (x := (xq m)) (g := G) (by omega) (by omega)
  rw [hg, show xun (xq m) = xul m / 2 ^ 0 by omega] at hmk
  have hM : xul m % 2 ^ 0 = 0 → ((xmk (xq m) G).toInt = 0 ↔ xPW m) := fun h0 => by
    unfold xPW; rw [xscale h0 (by omega), ← hmk]; exact xun_z.symm
  have dn : ∀ j, j ≤ xbl (xul m) - 1 → xul m % 2 ^ j ≠ 0 → ¬ xPW m := fun j hj h e => h (xdown hj e)
  by_cases hb1 : xbl (xul m) = 1
  · exact .inl ⟨by omega, by unfold xPW; rw [hb1]; exact Nat.mod_one _⟩
  · by_cases hp : xPW m
    · exact .inr (.inr (⟨by omega, (hM (Nat.mod_one _)).mpr hp, hp⟩))
    · exact .inr (.inl ⟨by omega, fun e => hp ((hM (Nat.mod_one _)).mp e), hp⟩)
theorem xpowM2 {m : Int64} {B K P G : Int32} (hB : B.toInt = (xbl (xul m) : Int)) (h : xR2 m B K P G) : ((xmk (xq m) G).toInt ≠ 0 ∧ ¬ xPW m) ∨ ((xmk (xq m) G).toInt = 0 ∧ xPW m) := by
  obtain ⟨a0, a1, a2, a3, a4, a5, a6, a7, a8, a9, a10, a11, a12, a13, a14, a15, a16, a17⟩ := h
  have hN : xul m ≠ 0 := fun e => by rw [e] at hB; exact absurd hB (by show ¬ (B.toInt = (0 : Int)); omega)
  have hb := xbl_of hN
  have p0 := Nat.le_trans (Nat.pow_le_pow_right (n := 2) (by omega) (show 4 ≤ xbl (xul m) - 1 by omega)) hb.1
  have p1 := Nat.lt_of_lt_of_le hb.2.1 (Nat.pow_le_pow_right (n := 2) (by omega) (show xbl (xul m) ≤ 30 by omega))
  have m1 := xqs_n m
  have m2 := xqs_n (xqs m)
  have w0 := xq_n m
  have w1 := xq_n (xqs m)
  have w2 := xq_n (xqs (xqs m))
  have hg : G.toInt.toNat = xbl (xul m) - 1 - 0 := by omega
  have hmk := xmk_n (x := (xq m)) (g := G) (by omega) (by omega)
  rw [hg, show xun (xq m) = xul m / 2 ^ 0 by omega] at hmk
  have hM : xul m % 2 ^ 0 = 0 → ((xmk (xq m) G).toInt = 0 ↔ xPW m) := fun h0 => by
    unfold xPW; rw [xscale h0 (by omega), ← hmk]; exact xun_z.symm
  have dn : ∀ j, j ≤ xbl (xul m) - 1 → xul m % 2 ^ j ≠ 0 → ¬ xPW m := fun j hj h e => h (xdown hj e)
  by_cases hp : xPW m
  · exact .inr (⟨(hM (Nat.mod_one _)).mpr hp, hp⟩)
  · exact .inl ⟨fun e => hp ((hM (Nat.mod_one _)).mp e), hp⟩
theorem xpowM3 {m : Int64} {B K P G : Int32} (hB : B.toInt = (xbl (xul m) : Int)) (h : xR3 m B K P G) : ((xq m).toInt ≠ 0 ∧ ¬ xPW m) ∨ ((xq m).toInt = 0 ∧ B.toInt = 31 ∧ xPW m) ∨ ((xq m).toInt = 0 ∧ B.toInt ≠ 31 ∧ (xmk (xq (xqs m)) G).toInt ≠ 0 ∧ ¬ xPW m) ∨ ((xq m).toInt = 0 ∧ B.toInt ≠ 31 ∧ (xmk (xq (xqs m)) G).toInt = 0 ∧ xPW m) := by
  obtain ⟨a0, a1, a2, a3, a4, a5, a6, a7, a8, a9, a10, a11, a12, a13, a14, a15, a16, a17, a18, a19⟩ := h
  have hN : xul m ≠ 0 := fun e => by rw [e] at hB; exact absurd hB (by show ¬ (B.toInt = (0 : Int)); omega)
  have hb := xbl_of hN
  have p0 := Nat.le_trans (Nat.pow_le_pow_right (n := 2) (by omega) (show 30 ≤ xbl (xul m) - 1 by omega)) hb.1
  have p1 := Nat.lt_of_lt_of_le hb.2.1 (Nat.pow_le_pow_right (n := 2) (by omega) (show xbl (xul m) ≤ 32 by omega))
  have m1 := xqs_n m
  have m2 := xqs_n (xqs m)
  have w0 := xq_n m
  have w1 := xq_n (xqs m)
  have w2 := xq_n (xqs (xqs m))
  have hg : G.toInt.toNat = xbl (xul m) - 1 - 30 := by omega
  have hmk := xmk_n (x := (xq (xqs m))) (g := G) (by omega) (by omega)
  rw [hg, show xun (xq (xqs m)) = xul m / 2 ^ 30 by omega] at hmk
  have hM : xul m % 2 ^ 30 = 0 → ((xmk (xq (xqs m)) G).toInt = 0 ↔ xPW m) := fun h0 => by
    unfold xPW; rw [xscale h0 (by omega), ← hmk]; exact xun_z.symm
  have dn : ∀ j, j ≤ xbl (xul m) - 1 → xul m % 2 ^ j ≠ 0 → ¬ xPW m := fun j hj h e => h (xdown hj e)
  by_cases h0 : xul m % 2 ^ 30 = 0
  · by_cases hb1 : xbl (xul m) = 31
    · exact .inr (.inl ⟨xun_z.mp (by omega), by omega, by unfold xPW; rw [hb1]; exact h0⟩)
    · by_cases hp : xPW m
      · exact .inr (.inr (.inr (⟨xun_z.mp (by omega), by omega, (hM h0).mpr hp, hp⟩)))
      · exact .inr (.inr (.inl ⟨xun_z.mp (by omega), by omega, fun e => hp ((hM h0).mp e), hp⟩))
  · exact .inl ⟨xnz (by omega), dn 30 (by omega) h0⟩
theorem xpowM4 {m : Int64} {B K P G : Int32} (hB : B.toInt = (xbl (xul m) : Int)) (h : xR4 m B K P G) : ((xq m).toInt ≠ 0 ∧ ¬ xPW m) ∨ ((xq m).toInt = 0 ∧ (xmk (xq (xqs m)) G).toInt ≠ 0 ∧ ¬ xPW m) ∨ ((xq m).toInt = 0 ∧ (xmk (xq (xqs m)) G).toInt = 0 ∧ xPW m) := by
  obtain ⟨a0, a1, a2, a3, a4, a5, a6, a7, a8, a9, a10, a11, a12, a13, a14, a15, a16, a17, a18⟩ := h
  have hN : xul m ≠ 0 := fun e => by rw [e] at hB; exact absurd hB (by show ¬ (B.toInt = (0 : Int)); omega)
  have hb := xbl_of hN
  have p0 := Nat.le_trans (Nat.pow_le_pow_right (n := 2) (by omega) (show 32 ≤ xbl (xul m) - 1 by omega)) hb.1
  have p1 := Nat.lt_of_lt_of_le hb.2.1 (Nat.pow_le_pow_right (n := 2) (by omega) (show xbl (xul m) ≤ 34 by omega))
  have m1 := xqs_n m
  have m2 := xqs_n (xqs m)
  have w0 := xq_n m
  have w1 := xq_n (xqs m)
  have w2 := xq_n (xqs (xqs m))
  have hg : G.toInt.toNat = xbl (xul m) - 1 - 30 := by omega
  have hmk := xmk_n (x := (xq (xqs m))) (g := G) (by omega) (by omega)
  rw [hg, show xun (xq (xqs m)) = xul m / 2 ^ 30 by omega] at hmk
  have hM : xul m % 2 ^ 30 = 0 → ((xmk (xq (xqs m)) G).toInt = 0 ↔ xPW m) := fun h0 => by
    unfold xPW; rw [xscale h0 (by omega), ← hmk]; exact xun_z.symm
  have dn : ∀ j, j ≤ xbl (xul m) - 1 → xul m % 2 ^ j ≠ 0 → ¬ xPW m := fun j hj h e => h (xdown hj e)
  by_cases h0 : xul m % 2 ^ 30 = 0
  · by_cases hp : xPW m
    · exact .inr (.inr (⟨xun_z.mp (by omega), (hM h0).mpr hp, hp⟩))
    · exact .inr (.inl ⟨xun_z.mp (by omega), fun e => hp ((hM h0).mp e), hp⟩)
  · exact .inl ⟨xnz (by omega), dn 30 (by omega) h0⟩
theorem xpowM5 {m : Int64} {B K P G : Int32} (hB : B.toInt = (xbl (xul m) : Int)) (h : xR5 m B K P G) : ((xq m).toInt ≠ 0 ∧ ¬ xPW m) ∨ ((xq m).toInt = 0 ∧ (xmk (xq (xqs m)) G).toInt ≠ 0 ∧ ¬ xPW m) ∨ ((xq m).toInt = 0 ∧ (xmk (xq (xqs m)) G).toInt = 0 ∧ xPW m) := by
  obtain ⟨a0, a1, a2, a3, a4, a5, a6, a7, a8, a9, a10, a11, a12, a13, a14, a15, a16, a17⟩ := h
  have hN : xul m ≠ 0 := fun e => by rw [e] at hB; exact absurd hB (by show ¬ (B.toInt = (0 : Int)); omega)
  have hb := xbl_of hN
  have p0 := Nat.le_trans (Nat.pow_le_pow_right (n := 2) (by omega) (show 34 ≤ xbl (xul m) - 1 by omega)) hb.1
  have p1 := Nat.lt_of_lt_of_le hb.2.1 (Nat.pow_le_pow_right (n := 2) (by omega) (show xbl (xul m) ≤ 60 by omega))
  have m1 := xqs_n m
  have m2 := xqs_n (xqs m)
  have w0 := xq_n m
  have w1 := xq_n (xqs m)
  have w2 := xq_n (xqs (xqs m))
  have hg : G.toInt.toNat = xbl (xul m) - 1 - 30 := by omega
  have hmk := xmk_n (x := (xq (xqs m))) (g := G) (by omega) (by omega)
  rw [hg, show xun (xq (xqs m)) = xul m / 2 ^ 30 by omega] at hmk
  have hM : xul m % 2 ^ 30 = 0 → ((xmk (xq (xqs m)) G).toInt = 0 ↔ xPW m) := fun h0 => by
    unfold xPW; rw [xscale h0 (by omega), ← hmk]; exact xun_z.symm
  have dn : ∀ j, j ≤ xbl (xul m) - 1 → xul m % 2 ^ j ≠ 0 → ¬ xPW m := fun j hj h e => h (xdown hj e)
  by_cases h0 : xul m % 2 ^ 30 = 0
  · by_cases hp : xPW m
    · exact .inr (.inr (⟨xun_z.mp (by omega), (hM h0).mpr hp, hp⟩))
    · exact .inr (.inl ⟨xun_z.mp (by omega), fun e => hp ((hM h0).mp e), hp⟩)
  · exact .inl ⟨xnz (by omega), dn 30 (by omega) h0⟩
theorem xpowM6 {m : Int64} {B K P G : Int32} (hB : B.toInt = (xbl (xul m) : Int)) (h : xR6 m B K P G) : ((xq m).toInt ≠ 0 ∧ ¬ xPW m) ∨ ((xq m).toInt = 0 ∧ (xq (xqs m)).toInt ≠ 0 ∧ ¬ xPW m) ∨ ((xq m).toInt = 0 ∧ (xq (xqs m)).toInt = 0 ∧ B.toInt = 61 ∧ xPW m) ∨ ((xq m).toInt = 0 ∧ (xq (xqs m)).toInt = 0 ∧ B.toInt ≠ 61 ∧ (xmk (xq (xqs (xqs m))) G).toInt ≠ 0 ∧ ¬ xPW m) ∨ ((xq m).toInt = 0 ∧ (xq (xqs m)).toInt = 0 ∧ B.toInt ≠ 61 ∧ (xmk (xq (xqs (xqs m))) G).toInt = 0 ∧ xPW m) := by
  obtain ⟨a0, a1, a2, a3, a4, a5, a6, a7, a8, a9, a10, a11, a12, a13, a14, a15, a16, a17, a18, a19⟩ := h
  have hN : xul m ≠ 0 := fun e => by rw [e] at hB; exact absurd hB (by show ¬ (B.toInt = (0 : Int)); omega)
  have hb := xbl_of hN
  have p0 := Nat.le_trans (Nat.pow_le_pow_right (n := 2) (by omega) (show 60 ≤ xbl (xul m) - 1 by omega)) hb.1
  have p1 := Nat.lt_of_lt_of_le hb.2.1 (Nat.pow_le_pow_right (n := 2) (by omega) (show xbl (xul m) ≤ 63 by omega))
  have m1 := xqs_n m
  have m2 := xqs_n (xqs m)
  have w0 := xq_n m
  have w1 := xq_n (xqs m)
  have w2 := xq_n (xqs (xqs m))
  have hg : G.toInt.toNat = xbl (xul m) - 1 - 60 := by omega
  have hmk := xmk_n (x := (xq (xqs (xqs m)))) (g := G) (by omega) (by omega)
  rw [hg, show xun (xq (xqs (xqs m))) = xul m / 2 ^ 60 by omega] at hmk
  have hM : xul m % 2 ^ 60 = 0 → ((xmk (xq (xqs (xqs m))) G).toInt = 0 ↔ xPW m) := fun h0 => by
    unfold xPW; rw [xscale h0 (by omega), ← hmk]; exact xun_z.symm
  have dn : ∀ j, j ≤ xbl (xul m) - 1 → xul m % 2 ^ j ≠ 0 → ¬ xPW m := fun j hj h e => h (xdown hj e)
  by_cases h0 : xul m % 2 ^ 30 = 0
  · by_cases h60 : xul m % 2 ^ 60 = 0
    · by_cases hb1 : xbl (xul m) = 61
      · exact .inr (.inr (.inl ⟨xun_z.mp (by omega), xun_z.mp (by omega), by omega, by unfold xPW; rw [hb1]; exact h60⟩))
      · by_cases hp : xPW m
        · exact .inr (.inr (.inr (.inr (⟨xun_z.mp (by omega), xun_z.mp (by omega), by omega, (hM h60).mpr hp, hp⟩))))
        · exact .inr (.inr (.inr (.inl ⟨xun_z.mp (by omega), xun_z.mp (by omega), by omega, fun e => hp ((hM h60).mp e), hp⟩)))
    · exact .inr (.inl ⟨xun_z.mp (by omega), xnz (by omega), dn 60 (by omega) h60⟩)
  · exact .inl ⟨xnz (by omega), dn 30 (by omega) h0⟩
theorem xpowM7 {m : Int64} {B K P G : Int32} (hB : B.toInt = (xbl (xul m) : Int)) (h : xR7 m B K P G) : ((xq m).toInt ≠ 0 ∧ ¬ xPW m) ∨ ((xq m).toInt = 0 ∧ (xq (xqs m)).toInt ≠ 0 ∧ ¬ xPW m) ∨ ((xq m).toInt = 0 ∧ (xq (xqs m)).toInt = 0 ∧ ((xq (xqs (xqs m))) &&& (7 : Int32)).toInt ≠ 0 ∧ ¬ xPW m) ∨ ((xq m).toInt = 0 ∧ (xq (xqs m)).toInt = 0 ∧ ((xq (xqs (xqs m))) &&& (7 : Int32)).toInt = 0 ∧ xPW m) := by
  obtain ⟨a0, a1, a2, a3, a4, a5, a6, a7, a8, a9, a10, a11, a12, a13, a14⟩ := h
  have hN : xul m ≠ 0 := fun e => by rw [e] at hB; exact absurd hB (by show ¬ (B.toInt = (0 : Int)); omega)
  have hb := xbl_of hN
  have p0 := Nat.le_trans (Nat.pow_le_pow_right (n := 2) (by omega) (show 63 ≤ xbl (xul m) - 1 by omega)) hb.1
  have p1 := Nat.lt_of_lt_of_le hb.2.1 (Nat.pow_le_pow_right (n := 2) (by omega) (show xbl (xul m) ≤ 64 by omega))
  have m1 := xqs_n m
  have m2 := xqs_n (xqs m)
  have w0 := xq_n m
  have w1 := xq_n (xqs m)
  have w2 := xq_n (xqs (xqs m))
  have hg : G.toInt.toNat = xbl (xul m) - 1 - 60 := by omega
  have hmk := xmk_n (x := (xq (xqs (xqs m)))) (g := G) (by omega) (by omega)
  rw [hg, show xun (xq (xqs (xqs m))) = xul m / 2 ^ 60 by omega] at hmk
  have hM : xul m % 2 ^ 60 = 0 → ((xmk (xq (xqs (xqs m))) G).toInt = 0 ↔ xPW m) := fun h0 => by
    unfold xPW; rw [xscale h0 (by omega), ← hmk]; exact xun_z.symm
  have dn : ∀ j, j ≤ xbl (xul m) - 1 → xul m % 2 ^ j ≠ 0 → ¬ xPW m := fun j hj h e => h (xdown hj e)
  have e7 : xmk (xq (xqs (xqs m))) G = (xq (xqs (xqs m))) &&& (7 : Int32) := by
    rw [show G = 3 from Int32.toInt_inj.mp (by show G.toInt = (3 : Int); omega)]; rfl
  rw [e7] at hM
  by_cases h0 : xul m % 2 ^ 30 = 0
  · by_cases h60 : xul m % 2 ^ 60 = 0
    · by_cases hp : xPW m
      · exact .inr (.inr (.inr (⟨xun_z.mp (by omega), xun_z.mp (by omega), (hM h60).mpr hp, hp⟩)))
      · exact .inr (.inr (.inl ⟨xun_z.mp (by omega), xun_z.mp (by omega), fun e => hp ((hM h60).mp e), hp⟩))
    · exact .inr (.inl ⟨xun_z.mp (by omega), xnz (by omega), dn 60 (by omega) h60⟩)
  · exact .inl ⟨xnz (by omega), dn 30 (by omega) h0⟩
theorem s_182_0 {d : Nat} {w : xW} {g0 : Nat → Value} {a0 : Int32} (hw0 : w[129]? = some (Sum.inr (13, [Value.ref 130, Value.int 1]))) (hw1 : w[135]? = some (Sum.inr (13, [Value.ref 136, Value.int 0]))) (hw2 : w[130]? = some (Sum.inl (0, 4700, g0))) (hw3 : w[136]? = some (Sum.inl (0, 4700, fun _ => Value.int 0))) (hg4 : g0 (0 : Int32).toInt.toNat = Value.int a0) : xRun (d + 1) 182 [Value.ref 135, Value.ref 129] w (.inl none) ((w.set 136 (Sum.inl (0, 4700, xcp g0 (fun _ => Value.int 0) (0 : Int32).toInt.toNat (0 : Int32).toInt.toNat (1 : Int32).toInt.toNat))).set 135 (Sum.inr (13, [Value.ref 136, Value.int 1]))) := by
  refine xRun.of ?_
  refine i_182_0 (x := 129) rfl ?_
  refine i_182_1 (v := Value.ref 130) hw0 rfl ?_
  refine i_182_4 ?_
  refine i_182_5 (x := 135) rfl ?_
  refine i_182_6 (v := Value.ref 136) hw1 rfl ?_
  refine i_182_9 ?_
  refine i_182_10 (x := 129) rfl ?_
  refine i_182_11 (v := Value.int 1) hw0 rfl ?_
  refine i_182_14 hw2 hw3 (by decide) (by decide) (by decide) (by decide) (by decide) (by decide) (xci1 hg4) (Nat.le_of_ble_eq_true rfl) ?_
  refine i_182_17 (x := 135) rfl ?_
  refine i_182_18 (x := 129) rfl ?_
  refine i_182_19 (v := Value.int 1) (xgn (by decide) hw0) rfl ?_
  refine i_182_22 (fs2 := [Value.ref 136, Value.int 1]) (xgn (by decide) hw1) (Nat.le_of_ble_eq_true rfl) rfl (by decide) ?_
  exact i_182_25 ⟨rfl, rfl⟩
theorem s_187_0 {d : Nat} {w : xW} {g0 : Nat → Value} {a0 : Int32} (hw0 : w[135]? = some (Sum.inr (13, [Value.ref 136, Value.int 1]))) (hw1 : w[136]? = some (Sum.inl (0, 4700, g0))) (hg2 : g0 (3 : Int32).toInt.toNat = Value.int 0) (hg3 : g0 (2 : Int32).toInt.toNat = Value.int a0) (e4 : a0.toInt ≠ 0) : xRun d 187 [Value.ref 135, Value.int 4] w (.inl none) (w.set 135 (Sum.inr (13, [Value.ref 136, Value.int 3]))) := by
  refine xRun.of ?_
  refine i_187_0 (x := 135) rfl ?_
  refine i_187_1 (x := 4) rfl ?_
  refine i_187_2 (fs2 := [Value.ref 136, Value.int 4]) hw0 (Nat.le_of_ble_eq_true rfl) rfl (by decide) ?_
  refine i_187_5 (x := 135) rfl ?_
  refine i_187_6 (v := Value.int 4) (xgs hw0) rfl ?_
  refine i_187_9 (fun h => absurd h (by decide)) (fun _ => ?_)
  refine i_187_12 (x := 135) rfl ?_
  refine i_187_13 (v := Value.ref 136) (xgs hw0) rfl ?_
  refine i_187_16 (x := 135) rfl ?_
  refine i_187_17 (v := Value.int 4) (xgs hw0) rfl ?_
  refine i_187_20 ?_
  refine i_187_21 (c := 3) (by decide) ?_
  refine i_187_22 (v := Value.int 0) (xgn (by decide) hw1) (by decide) (by decide) hg2 ?_
  refine i_187_23 (fun h => absurd h (by decide)) (fun _ => ?_)
  refine i_187_26 (x := 135) rfl ?_
  refine i_187_27 rfl ?_
  refine i_187_28 (v := Value.int 4) (xgs hw0) rfl ?_
  refine i_187_31 ?_
  refine i_187_32 (c := 3) (by decide) ?_
  refine i_187_33 (fs2 := [Value.ref 136, Value.int 3]) (xgs hw0) (Nat.le_of_ble_eq_true rfl) rfl (by decide) ?_
  refine xEv.world (List.set_set _) ?_
  refine i_187_36 ?_
  refine i_187_5 (x := 135) rfl ?_
  refine i_187_6 (v := Value.int 3) (xgs hw0) rfl ?_
  refine i_187_9 (fun h => absurd h (by decide)) (fun _ => ?_)
  refine i_187_12 (x := 135) rfl ?_
  refine i_187_13 (v := Value.ref 136) (xgs hw0) rfl ?_
  refine i_187_16 (x := 135) rfl ?_
  refine i_187_17 (v := Value.int 3) (xgs hw0) rfl ?_
  refine i_187_20 ?_
  refine i_187_21 (c := 2) (by decide) ?_
  refine i_187_22 (v := Value.int a0) (xgn (by decide) hw1) (by decide) (by decide) hg3 ?_
  refine i_187_23 (fun _ => ?_) (fun h => absurd e4 (fun g => g h))
  exact i_187_39 ⟨rfl, rfl⟩
theorem s_188_0 {d : Nat} {w : xW} {a0 : Int32} {a1 : Int32} {g0 : Nat → Value} {a2 : Int32} (hw0 : w[135]? = some (Sum.inr (13, [Value.ref 136, Value.int 1]))) (e1 : a0.toInt ≠ 0) (hg2 : (a0 / (30 : Int32)) = 2) (hg3 : (a0 - a0 / (30 : Int32) * (30 : Int32)) = a1) (hw4 : w[136]? = some (Sum.inl (0, 4700, g0))) (hg5 : g0 (0 : Int32).toInt.toNat = Value.int a2) (hg6 : ((0 : Int32) ||| (xH a2 a1)) = 0) (e7 : (xL a2 a1).toInt ≠ 0) : xRun (d + 1) 188 [Value.ref 135, Value.int a0] w (.inl none) ((w.set 136 (Sum.inl (0, 4700, xup (xup (xup (xup (xup g0 (3 : Int32).toInt.toNat (Value.int 0)) (3 : Int32).toInt.toNat (Value.int 0)) (2 : Int32).toInt.toNat (Value.int (xL a2 a1))) (0 : Int32).toInt.toNat (Value.int 0)) (1 : Int32).toInt.toNat (Value.int 0)))).set 135 (Sum.inr (13, [Value.ref 136, Value.int 3]))) := by
  refine xRun.of ?_
  refine i_188_0 (x := 135) rfl ?_
  refine i_188_1 (v := Value.int 1) hw0 rfl ?_
  refine i_188_4 (fun h => absurd h (by decide)) (fun _ => ?_)
  refine i_188_7 (x := a0) rfl ?_
  refine i_188_8 (fun _ => ?_) (fun h => absurd e1 (fun g => g h))
  refine i_188_12 (x := a0) rfl ?_
  refine i_188_13 ?_
  refine i_188_15 (x := a0) (z := 30) (c := 2) (by decide) hg2 ?_
  refine i_188_16 (lv2 := [(2, Value.int 2), (0, Value.ref 135), (1, Value.int a0)]) rfl ?_
  refine i_188_17 (x := a0) rfl ?_
  refine i_188_18 ?_
  refine i_188_20 (x := a0) (z := 30) (c := a1) (by decide) hg3 ?_
  refine i_188_21 (lv2 := [(3, Value.int a1), (2, Value.int 2), (0, Value.ref 135), (1, Value.int a0)]) rfl ?_
  refine i_188_22 (x := 135) rfl ?_
  refine i_188_23 (v := Value.ref 136) hw0 rfl ?_
  refine i_188_26 (x := 135) rfl ?_
  refine i_188_27 (v := Value.int 1) hw0 rfl ?_
  refine i_188_30 (x := 2) rfl ?_
  refine i_188_31 (c := 3) (by decide) ?_
  refine i_188_32 ?_
  refine i_188_33 (v := Value.int 0) hw4 (by decide) (by decide) (by decide) rfl ?_
  refine i_188_34 (x := 135) rfl ?_
  refine i_188_35 (v := Value.int 1) (xgn (by decide) hw0) rfl ?_
  refine i_188_38 ?_
  refine i_188_39 (c := 0) (by decide) ?_
  refine i_188_40 (lv2 := [(4, Value.int 0), (3, Value.int a1), (2, Value.int 2), (0, Value.ref 135), (1, Value.int a0)]) rfl ?_
  refine i_188_42 (x := 0) rfl ?_
  refine i_188_44 (fun h => absurd h (by decide)) (fun _ => ?_)
  refine i_188_47 (x := 135) rfl ?_
  refine i_188_48 (v := Value.ref 136) (xgn (by decide) hw0) rfl ?_
  refine i_188_51 (x := 0) rfl ?_
  refine i_188_53 (v := Value.int a2) (xgs hw4) (by decide) (by decide) (xup_n (by decide) hg5) ?_
  refine i_188_54 (c := a2.toInt64) rfl ?_
  refine i_188_55 (x := a1) rfl ?_
  refine i_188_56 (c := (xsh a2 a1)) rfl ?_
  refine i_188_57 (lv2 := [(5, Value.long (xsh a2 a1)), (4, Value.int 0), (3, Value.int a1), (2, Value.int 2), (0, Value.ref 135), (1, Value.int a0)]) rfl ?_
  refine i_188_59 (x := 135) rfl ?_
  refine i_188_60 (v := Value.ref 136) (xgn (by decide) hw0) rfl ?_
  refine i_188_63 (x := 0) rfl ?_
  refine i_188_65 (x := 2) rfl ?_
  refine i_188_66 (c := 2) (by decide) ?_
  refine i_188_67 ?_
  refine i_188_68 (c := 3) (by decide) ?_
  refine i_188_69 (x := 0) rfl ?_
  refine i_188_71 (x := 135) rfl ?_
  refine i_188_72 (v := Value.int 1) (xgn (by decide) hw0) rfl ?_
  refine i_188_75 ?_
  refine i_188_76 (c := 0) (by decide) ?_
  refine i_188_77 (fun h => absurd h (by decide)) (fun _ => ?_)
  refine i_188_80 ?_
  refine i_188_81 ?_
  refine i_188_95 (x := (xsh a2 a1)) rfl ?_
  refine i_188_97 ?_
  refine i_188_99 (c := ((xsh a2 a1) >>> ((30 : Int32).toInt64 &&& 63))) rfl ?_
  refine i_188_100 (c := (xH a2 a1)) rfl ?_
  refine i_188_101 (c := 0) hg6 ?_
  refine i_188_102 (v := Value.int 0) (xgs hw4) (by decide) (by decide) (by decide) rfl ?_
  refine xEv.world (List.set_set _) ?_
  refine i_188_103 (x := 135) rfl ?_
  refine i_188_104 (v := Value.ref 136) (xgn (by decide) hw0) rfl ?_
  refine i_188_107 (x := 0) rfl ?_
  refine i_188_109 (x := 2) rfl ?_
  refine i_188_110 (c := 2) (by decide) ?_
  refine i_188_111 (x := (xsh a2 a1)) rfl ?_
  refine i_188_113 (c := (xlo (xsh a2 a1))) rfl ?_
  refine i_188_114 ?_
  refine i_188_116 (c := (xL a2 a1)) rfl ?_
  refine i_188_117 (v := Value.int (xL a2 a1)) (xgs hw4) (by decide) (by decide) (by decide) rfl ?_
  refine xEv.world (List.set_set _) ?_
  refine i_188_118 (x := 0) (c := (-1)) (lv2 := [(4, Value.int (-1)), (5, Value.long (xsh a2 a1)), (3, Value.int a1), (2, Value.int 2), (0, Value.ref 135), (1, Value.int a0)]) rfl (by decide) rfl ?_
  refine i_188_121 ?_
  refine i_188_42 (x := (-1)) rfl ?_
  refine i_188_44 (fun _ => ?_) (fun h => absurd h (by decide))
  refine i_188_124 ?_
  refine i_188_125 (lv2 := [(4, Value.int 0), (5, Value.long (xsh a2 a1)), (3, Value.int a1), (2, Value.int 2), (0, Value.ref 135), (1, Value.int a0)]) rfl ?_
  refine i_188_127 (x := 0) rfl ?_
  refine i_188_129 (x := 2) rfl ?_
  refine i_188_130 (fun h => absurd h (by decide)) (fun _ => ?_)
  refine i_188_133 (x := 135) rfl ?_
  refine i_188_134 (v := Value.ref 136) (xgn (by decide) hw0) rfl ?_
  refine i_188_137 (x := 0) rfl ?_
  refine i_188_139 ?_
  refine i_188_140 (v := Value.int 0) (xgs hw4) (by decide) (by decide) (by decide) rfl ?_
  refine xEv.world (List.set_set _) ?_
  refine i_188_141 (x := 0) (c := 1) (lv2 := [(4, Value.int 1), (5, Value.long (xsh a2 a1)), (3, Value.int a1), (2, Value.int 2), (0, Value.ref 135), (1, Value.int a0)]) rfl (by decide) rfl ?_
  refine i_188_144 ?_
  refine i_188_127 (x := 1) rfl ?_
  refine i_188_129 (x := 2) rfl ?_
  refine i_188_130 (fun h => absurd h (by decide)) (fun _ => ?_)
  refine i_188_133 (x := 135) rfl ?_
  refine i_188_134 (v := Value.ref 136) (xgn (by decide) hw0) rfl ?_
  refine i_188_137 (x := 1) rfl ?_
  refine i_188_139 ?_
  refine i_188_140 (v := Value.int 0) (xgs hw4) (by decide) (by decide) (by decide) rfl ?_
  refine xEv.world (List.set_set _) ?_
  refine i_188_141 (x := 1) (c := 2) (lv2 := [(4, Value.int 2), (5, Value.long (xsh a2 a1)), (3, Value.int a1), (2, Value.int 2), (0, Value.ref 135), (1, Value.int a0)]) rfl (by decide) rfl ?_
  refine i_188_144 ?_
  refine i_188_127 (x := 2) rfl ?_
  refine i_188_129 (x := 2) rfl ?_
  refine i_188_130 (fun _ => ?_) (fun h => absurd h (by decide))
  refine i_188_147 (x := 135) rfl ?_
  refine i_188_148 (x := 135) rfl ?_
  refine i_188_149 (v := Value.int 1) (xgn (by decide) hw0) rfl ?_
  refine i_188_152 (x := 2) rfl ?_
  refine i_188_153 (c := 3) (by decide) ?_
  refine i_188_154 ?_
  refine i_188_155 (c := 4) (by decide) ?_
  refine i_188_156 (xgn (by decide) hw0) (Nat.le_of_ble_eq_true rfl) (s_187_0 (xgn (by decide) hw0) (xgs hw4) (xup_n (by decide) (xup_n (by decide) (xup_n (by decide) xup_s))) (xup_n (by decide) (xup_n (by decide) xup_s)) e7) ?_
  exact i_188_159 ⟨rfl, rfl⟩
theorem s_187_1 {d : Nat} {w : xW} {g0 : Nat → Value} {a0 : Int32} (hw0 : w[135]? = some (Sum.inr (13, [Value.ref 136, Value.int 1]))) (hw1 : w[136]? = some (Sum.inl (0, 4700, g0))) (hg2 : g0 (2 : Int32).toInt.toNat = Value.int a0) (e3 : a0.toInt ≠ 0) : xRun d 187 [Value.ref 135, Value.int 3] w (.inl none) (w.set 135 (Sum.inr (13, [Value.ref 136, Value.int 3]))) := by
  refine xRun.of ?_
  refine i_187_0 (x := 135) rfl ?_
  refine i_187_1 (x := 3) rfl ?_
  refine i_187_2 (fs2 := [Value.ref 136, Value.int 3]) hw0 (Nat.le_of_ble_eq_true rfl) rfl (by decide) ?_
  refine i_187_5 (x := 135) rfl ?_
  refine i_187_6 (v := Value.int 3) (xgs hw0) rfl ?_
  refine i_187_9 (fun h => absurd h (by decide)) (fun _ => ?_)
  refine i_187_12 (x := 135) rfl ?_
  refine i_187_13 (v := Value.ref 136) (xgs hw0) rfl ?_
  refine i_187_16 (x := 135) rfl ?_
  refine i_187_17 (v := Value.int 3) (xgs hw0) rfl ?_
  refine i_187_20 ?_
  refine i_187_21 (c := 2) (by decide) ?_
  refine i_187_22 (v := Value.int a0) (xgn (by decide) hw1) (by decide) (by decide) hg2 ?_
  refine i_187_23 (fun _ => ?_) (fun h => absurd e3 (fun g => g h))
  exact i_187_39 ⟨rfl, rfl⟩
theorem s_188_1 {d : Nat} {w : xW} {a0 : Int32} {a1 : Int32} {g0 : Nat → Value} {a2 : Int32} (hw0 : w[135]? = some (Sum.inr (13, [Value.ref 136, Value.int 1]))) (e1 : a0.toInt ≠ 0) (hg2 : (a0 / (30 : Int32)) = 1) (hg3 : (a0 - a0 / (30 : Int32) * (30 : Int32)) = a1) (hw4 : w[136]? = some (Sum.inl (0, 4700, g0))) (hg5 : g0 (0 : Int32).toInt.toNat = Value.int a2) (e6 : ((0 : Int32) ||| (xH a2 a1)).toInt ≠ 0) : xRun (d + 1) 188 [Value.ref 135, Value.int a0] w (.inl none) ((w.set 136 (Sum.inl (0, 4700, xup (xup (xup (xup g0 (2 : Int32).toInt.toNat (Value.int 0)) (2 : Int32).toInt.toNat (Value.int ((0 : Int32) ||| (xH a2 a1)))) (1 : Int32).toInt.toNat (Value.int (xL a2 a1))) (0 : Int32).toInt.toNat (Value.int 0)))).set 135 (Sum.inr (13, [Value.ref 136, Value.int 3]))) := by
  refine xRun.of ?_
  refine i_188_0 (x := 135) rfl ?_
  refine i_188_1 (v := Value.int 1) hw0 rfl ?_
  refine i_188_4 (fun h => absurd h (by decide)) (fun _ => ?_)
  refine i_188_7 (x := a0) rfl ?_
  refine i_188_8 (fun _ => ?_) (fun h => absurd e1 (fun g => g h))
  refine i_188_12 (x := a0) rfl ?_
  refine i_188_13 ?_
  refine i_188_15 (x := a0) (z := 30) (c := 1) (by decide) hg2 ?_
  refine i_188_16 (lv2 := [(2, Value.int 1), (0, Value.ref 135), (1, Value.int a0)]) rfl ?_
  refine i_188_17 (x := a0) rfl ?_
  refine i_188_18 ?_
  refine i_188_20 (x := a0) (z := 30) (c := a1) (by decide) hg3 ?_
  refine i_188_21 (lv2 := [(3, Value.int a1), (2, Value.int 1), (0, Value.ref 135), (1, Value.int a0)]) rfl ?_
  refine i_188_22 (x := 135) rfl ?_
  refine i_188_23 (v := Value.ref 136) hw0 rfl ?_
  refine i_188_26 (x := 135) rfl ?_
  refine i_188_27 (v := Value.int 1) hw0 rfl ?_
  refine i_188_30 (x := 1) rfl ?_
  refine i_188_31 (c := 2) (by decide) ?_
  refine i_188_32 ?_
  refine i_188_33 (v := Value.int 0) hw4 (by decide) (by decide) (by decide) rfl ?_
  refine i_188_34 (x := 135) rfl ?_
  refine i_188_35 (v := Value.int 1) (xgn (by decide) hw0) rfl ?_
  refine i_188_38 ?_
  refine i_188_39 (c := 0) (by decide) ?_
  refine i_188_40 (lv2 := [(4, Value.int 0), (3, Value.int a1), (2, Value.int 1), (0, Value.ref 135), (1, Value.int a0)]) rfl ?_
  refine i_188_42 (x := 0) rfl ?_
  refine i_188_44 (fun h => absurd h (by decide)) (fun _ => ?_)
  refine i_188_47 (x := 135) rfl ?_
  refine i_188_48 (v := Value.ref 136) (xgn (by decide) hw0) rfl ?_
  refine i_188_51 (x := 0) rfl ?_
  refine i_188_53 (v := Value.int a2) (xgs hw4) (by decide) (by decide) (xup_n (by decide) hg5) ?_
  refine i_188_54 (c := a2.toInt64) rfl ?_
  refine i_188_55 (x := a1) rfl ?_
  refine i_188_56 (c := (xsh a2 a1)) rfl ?_
  refine i_188_57 (lv2 := [(5, Value.long (xsh a2 a1)), (4, Value.int 0), (3, Value.int a1), (2, Value.int 1), (0, Value.ref 135), (1, Value.int a0)]) rfl ?_
  refine i_188_59 (x := 135) rfl ?_
  refine i_188_60 (v := Value.ref 136) (xgn (by decide) hw0) rfl ?_
  refine i_188_63 (x := 0) rfl ?_
  refine i_188_65 (x := 1) rfl ?_
  refine i_188_66 (c := 1) (by decide) ?_
  refine i_188_67 ?_
  refine i_188_68 (c := 2) (by decide) ?_
  refine i_188_69 (x := 0) rfl ?_
  refine i_188_71 (x := 135) rfl ?_
  refine i_188_72 (v := Value.int 1) (xgn (by decide) hw0) rfl ?_
  refine i_188_75 ?_
  refine i_188_76 (c := 0) (by decide) ?_
  refine i_188_77 (fun h => absurd h (by decide)) (fun _ => ?_)
  refine i_188_80 ?_
  refine i_188_81 ?_
  refine i_188_95 (x := (xsh a2 a1)) rfl ?_
  refine i_188_97 ?_
  refine i_188_99 (c := ((xsh a2 a1) >>> ((30 : Int32).toInt64 &&& 63))) rfl ?_
  refine i_188_100 (c := (xH a2 a1)) rfl ?_
  refine i_188_101 (c := ((0 : Int32) ||| (xH a2 a1))) rfl ?_
  refine i_188_102 (v := Value.int ((0 : Int32) ||| (xH a2 a1))) (xgs hw4) (by decide) (by decide) (by decide) rfl ?_
  refine xEv.world (List.set_set _) ?_
  refine i_188_103 (x := 135) rfl ?_
  refine i_188_104 (v := Value.ref 136) (xgn (by decide) hw0) rfl ?_
  refine i_188_107 (x := 0) rfl ?_
  refine i_188_109 (x := 1) rfl ?_
  refine i_188_110 (c := 1) (by decide) ?_
  refine i_188_111 (x := (xsh a2 a1)) rfl ?_
  refine i_188_113 (c := (xlo (xsh a2 a1))) rfl ?_
  refine i_188_114 ?_
  refine i_188_116 (c := (xL a2 a1)) rfl ?_
  refine i_188_117 (v := Value.int (xL a2 a1)) (xgs hw4) (by decide) (by decide) (by decide) rfl ?_
  refine xEv.world (List.set_set _) ?_
  refine i_188_118 (x := 0) (c := (-1)) (lv2 := [(4, Value.int (-1)), (5, Value.long (xsh a2 a1)), (3, Value.int a1), (2, Value.int 1), (0, Value.ref 135), (1, Value.int a0)]) rfl (by decide) rfl ?_
  refine i_188_121 ?_
  refine i_188_42 (x := (-1)) rfl ?_
  refine i_188_44 (fun _ => ?_) (fun h => absurd h (by decide))
  refine i_188_124 ?_
  refine i_188_125 (lv2 := [(4, Value.int 0), (5, Value.long (xsh a2 a1)), (3, Value.int a1), (2, Value.int 1), (0, Value.ref 135), (1, Value.int a0)]) rfl ?_
  refine i_188_127 (x := 0) rfl ?_
  refine i_188_129 (x := 1) rfl ?_
  refine i_188_130 (fun h => absurd h (by decide)) (fun _ => ?_)
  refine i_188_133 (x := 135) rfl ?_
  refine i_188_134 (v := Value.ref 136) (xgn (by decide) hw0) rfl ?_
  refine i_188_137 (x := 0) rfl ?_
  refine i_188_139 ?_
  refine i_188_140 (v := Value.int 0) (xgs hw4) (by decide) (by decide) (by decide) rfl ?_
  refine xEv.world (List.set_set _) ?_
  refine i_188_141 (x := 0) (c := 1) (lv2 := [(4, Value.int 1), (5, Value.long (xsh a2 a1)), (3, Value.int a1), (2, Value.int 1), (0, Value.ref 135), (1, Value.int a0)]) rfl (by decide) rfl ?_
  refine i_188_144 ?_
  refine i_188_127 (x := 1) rfl ?_
  refine i_188_129 (x := 1) rfl ?_
  refine i_188_130 (fun _ => ?_) (fun h => absurd h (by decide))
  refine i_188_147 (x := 135) rfl ?_
  refine i_188_148 (x := 135) rfl ?_
  refine i_188_149 (v := Value.int 1) (xgn (by decide) hw0) rfl ?_
  refine i_188_152 (x := 1) rfl ?_
  refine i_188_153 (c := 2) (by decide) ?_
  refine i_188_154 ?_
  refine i_188_155 (c := 3) (by decide) ?_
  refine i_188_156 (xgn (by decide) hw0) (Nat.le_of_ble_eq_true rfl) (s_187_1 (xgn (by decide) hw0) (xgs hw4) (xup_n (by decide) (xup_n (by decide) xup_s)) e6) ?_
  exact i_188_159 ⟨rfl, rfl⟩
theorem s_182_1 {d : Nat} {w : xW} {g0 : Nat → Value} {a0 : Int32} {a1 : Int32} (hw0 : w[129]? = some (Sum.inr (13, [Value.ref 130, Value.int 2]))) (hw1 : w[135]? = some (Sum.inr (13, [Value.ref 136, Value.int 0]))) (hw2 : w[130]? = some (Sum.inl (0, 4700, g0))) (hw3 : w[136]? = some (Sum.inl (0, 4700, fun _ => Value.int 0))) (hg4 : g0 (0 : Int32).toInt.toNat = Value.int a0) (hg5 : g0 (1 : Int32).toInt.toNat = Value.int a1) : xRun (d + 1) 182 [Value.ref 135, Value.ref 129] w (.inl none) ((w.set 136 (Sum.inl (0, 4700, xcp g0 (fun _ => Value.int 0) (0 : Int32).toInt.toNat (0 : Int32).toInt.toNat (2 : Int32).toInt.toNat))).set 135 (Sum.inr (13, [Value.ref 136, Value.int 2]))) := by
  refine xRun.of ?_
  refine i_182_0 (x := 129) rfl ?_
  refine i_182_1 (v := Value.ref 130) hw0 rfl ?_
  refine i_182_4 ?_
  refine i_182_5 (x := 135) rfl ?_
  refine i_182_6 (v := Value.ref 136) hw1 rfl ?_
  refine i_182_9 ?_
  refine i_182_10 (x := 129) rfl ?_
  refine i_182_11 (v := Value.int 2) hw0 rfl ?_
  refine i_182_14 hw2 hw3 (by decide) (by decide) (by decide) (by decide) (by decide) (by decide) (xci2 hg4 hg5) (Nat.le_of_ble_eq_true rfl) ?_
  refine i_182_17 (x := 135) rfl ?_
  refine i_182_18 (x := 129) rfl ?_
  refine i_182_19 (v := Value.int 2) (xgn (by decide) hw0) rfl ?_
  refine i_182_22 (fs2 := [Value.ref 136, Value.int 2]) (xgn (by decide) hw1) (Nat.le_of_ble_eq_true rfl) rfl (by decide) ?_
  exact i_182_25 ⟨rfl, rfl⟩
theorem s_187_2 {d : Nat} {w : xW} {g0 : Nat → Value} {a0 : Int32} (hw0 : w[135]? = some (Sum.inr (13, [Value.ref 136, Value.int 2]))) (hw1 : w[136]? = some (Sum.inl (0, 4700, g0))) (hg2 : g0 (3 : Int32).toInt.toNat = Value.int 0) (hg3 : g0 (2 : Int32).toInt.toNat = Value.int a0) (e4 : a0.toInt ≠ 0) : xRun d 187 [Value.ref 135, Value.int 4] w (.inl none) (w.set 135 (Sum.inr (13, [Value.ref 136, Value.int 3]))) := by
  refine xRun.of ?_
  refine i_187_0 (x := 135) rfl ?_
  refine i_187_1 (x := 4) rfl ?_
  refine i_187_2 (fs2 := [Value.ref 136, Value.int 4]) hw0 (Nat.le_of_ble_eq_true rfl) rfl (by decide) ?_
  refine i_187_5 (x := 135) rfl ?_
  refine i_187_6 (v := Value.int 4) (xgs hw0) rfl ?_
  refine i_187_9 (fun h => absurd h (by decide)) (fun _ => ?_)
  refine i_187_12 (x := 135) rfl ?_
  refine i_187_13 (v := Value.ref 136) (xgs hw0) rfl ?_
  refine i_187_16 (x := 135) rfl ?_
  refine i_187_17 (v := Value.int 4) (xgs hw0) rfl ?_
  refine i_187_20 ?_
  refine i_187_21 (c := 3) (by decide) ?_
  refine i_187_22 (v := Value.int 0) (xgn (by decide) hw1) (by decide) (by decide) hg2 ?_
  refine i_187_23 (fun h => absurd h (by decide)) (fun _ => ?_)
  refine i_187_26 (x := 135) rfl ?_
  refine i_187_27 rfl ?_
  refine i_187_28 (v := Value.int 4) (xgs hw0) rfl ?_
  refine i_187_31 ?_
  refine i_187_32 (c := 3) (by decide) ?_
  refine i_187_33 (fs2 := [Value.ref 136, Value.int 3]) (xgs hw0) (Nat.le_of_ble_eq_true rfl) rfl (by decide) ?_
  refine xEv.world (List.set_set _) ?_
  refine i_187_36 ?_
  refine i_187_5 (x := 135) rfl ?_
  refine i_187_6 (v := Value.int 3) (xgs hw0) rfl ?_
  refine i_187_9 (fun h => absurd h (by decide)) (fun _ => ?_)
  refine i_187_12 (x := 135) rfl ?_
  refine i_187_13 (v := Value.ref 136) (xgs hw0) rfl ?_
  refine i_187_16 (x := 135) rfl ?_
  refine i_187_17 (v := Value.int 3) (xgs hw0) rfl ?_
  refine i_187_20 ?_
  refine i_187_21 (c := 2) (by decide) ?_
  refine i_187_22 (v := Value.int a0) (xgn (by decide) hw1) (by decide) (by decide) hg3 ?_
  refine i_187_23 (fun _ => ?_) (fun h => absurd e4 (fun g => g h))
  exact i_187_39 ⟨rfl, rfl⟩
theorem s_188_2 {d : Nat} {w : xW} {a0 : Int32} {a1 : Int32} {g0 : Nat → Value} {a2 : Int32} {a3 : Int32} (hw0 : w[135]? = some (Sum.inr (13, [Value.ref 136, Value.int 2]))) (e1 : a0.toInt ≠ 0) (hg2 : (a0 / (30 : Int32)) = 1) (hg3 : (a0 - a0 / (30 : Int32) * (30 : Int32)) = a1) (hw4 : w[136]? = some (Sum.inl (0, 4700, g0))) (hg5 : g0 (1 : Int32).toInt.toNat = Value.int a2) (hg6 : ((0 : Int32) ||| (xH a2 a1)) = 0) (hg7 : g0 (0 : Int32).toInt.toNat = Value.int a3) (e8 : ((xL a2 a1) ||| (xH a3 a1)).toInt ≠ 0) : xRun (d + 1) 188 [Value.ref 135, Value.int a0] w (.inl none) ((w.set 136 (Sum.inl (0, 4700, xup (xup (xup (xup (xup (xup g0 (3 : Int32).toInt.toNat (Value.int 0)) (3 : Int32).toInt.toNat (Value.int 0)) (2 : Int32).toInt.toNat (Value.int (xL a2 a1))) (2 : Int32).toInt.toNat (Value.int ((xL a2 a1) ||| (xH a3 a1)))) (1 : Int32).toInt.toNat (Value.int (xL a3 a1))) (0 : Int32).toInt.toNat (Value.int 0)))).set 135 (Sum.inr (13, [Value.ref 136, Value.int 3]))) := by
  refine xRun.of ?_
  refine i_188_0 (x := 135) rfl ?_
  refine i_188_1 (v := Value.int 2) hw0 rfl ?_
  refine i_188_4 (fun h => absurd h (by decide)) (fun _ => ?_)
  refine i_188_7 (x := a0) rfl ?_
  refine i_188_8 (fun _ => ?_) (fun h => absurd e1 (fun g => g h))
  refine i_188_12 (x := a0) rfl ?_
  refine i_188_13 ?_
  refine i_188_15 (x := a0) (z := 30) (c := 1) (by decide) hg2 ?_
  refine i_188_16 (lv2 := [(2, Value.int 1), (0, Value.ref 135), (1, Value.int a0)]) rfl ?_
  refine i_188_17 (x := a0) rfl ?_
  refine i_188_18 ?_
  refine i_188_20 (x := a0) (z := 30) (c := a1) (by decide) hg3 ?_
  refine i_188_21 (lv2 := [(3, Value.int a1), (2, Value.int 1), (0, Value.ref 135), (1, Value.int a0)]) rfl ?_
  refine i_188_22 (x := 135) rfl ?_
  refine i_188_23 (v := Value.ref 136) hw0 rfl ?_
  refine i_188_26 (x := 135) rfl ?_
  refine i_188_27 (v := Value.int 2) hw0 rfl ?_
  refine i_188_30 (x := 1) rfl ?_
  refine i_188_31 (c := 3) (by decide) ?_
  refine i_188_32 ?_
  refine i_188_33 (v := Value.int 0) hw4 (by decide) (by decide) (by decide) rfl ?_
  refine i_188_34 (x := 135) rfl ?_
  refine i_188_35 (v := Value.int 2) (xgn (by decide) hw0) rfl ?_
  refine i_188_38 ?_
  refine i_188_39 (c := 1) (by decide) ?_
  refine i_188_40 (lv2 := [(4, Value.int 1), (3, Value.int a1), (2, Value.int 1), (0, Value.ref 135), (1, Value.int a0)]) rfl ?_
  refine i_188_42 (x := 1) rfl ?_
  refine i_188_44 (fun h => absurd h (by decide)) (fun _ => ?_)
  refine i_188_47 (x := 135) rfl ?_
  refine i_188_48 (v := Value.ref 136) (xgn (by decide) hw0) rfl ?_
  refine i_188_51 (x := 1) rfl ?_
  refine i_188_53 (v := Value.int a2) (xgs hw4) (by decide) (by decide) (xup_n (by decide) hg5) ?_
  refine i_188_54 (c := a2.toInt64) rfl ?_
  refine i_188_55 (x := a1) rfl ?_
  refine i_188_56 (c := (xsh a2 a1)) rfl ?_
  refine i_188_57 (lv2 := [(5, Value.long (xsh a2 a1)), (4, Value.int 1), (3, Value.int a1), (2, Value.int 1), (0, Value.ref 135), (1, Value.int a0)]) rfl ?_
  refine i_188_59 (x := 135) rfl ?_
  refine i_188_60 (v := Value.ref 136) (xgn (by decide) hw0) rfl ?_
  refine i_188_63 (x := 1) rfl ?_
  refine i_188_65 (x := 1) rfl ?_
  refine i_188_66 (c := 2) (by decide) ?_
  refine i_188_67 ?_
  refine i_188_68 (c := 3) (by decide) ?_
  refine i_188_69 (x := 1) rfl ?_
  refine i_188_71 (x := 135) rfl ?_
  refine i_188_72 (v := Value.int 2) (xgn (by decide) hw0) rfl ?_
  refine i_188_75 ?_
  refine i_188_76 (c := 1) (by decide) ?_
  refine i_188_77 (fun h => absurd h (by decide)) (fun _ => ?_)
  refine i_188_80 ?_
  refine i_188_81 ?_
  refine i_188_95 (x := (xsh a2 a1)) rfl ?_
  refine i_188_97 ?_
  refine i_188_99 (c := ((xsh a2 a1) >>> ((30 : Int32).toInt64 &&& 63))) rfl ?_
  refine i_188_100 (c := (xH a2 a1)) rfl ?_
  refine i_188_101 (c := 0) hg6 ?_
  refine i_188_102 (v := Value.int 0) (xgs hw4) (by decide) (by decide) (by decide) rfl ?_
  refine xEv.world (List.set_set _) ?_
  refine i_188_103 (x := 135) rfl ?_
  refine i_188_104 (v := Value.ref 136) (xgn (by decide) hw0) rfl ?_
  refine i_188_107 (x := 1) rfl ?_
  refine i_188_109 (x := 1) rfl ?_
  refine i_188_110 (c := 2) (by decide) ?_
  refine i_188_111 (x := (xsh a2 a1)) rfl ?_
  refine i_188_113 (c := (xlo (xsh a2 a1))) rfl ?_
  refine i_188_114 ?_
  refine i_188_116 (c := (xL a2 a1)) rfl ?_
  refine i_188_117 (v := Value.int (xL a2 a1)) (xgs hw4) (by decide) (by decide) (by decide) rfl ?_
  refine xEv.world (List.set_set _) ?_
  refine i_188_118 (x := 1) (c := 0) (lv2 := [(4, Value.int 0), (5, Value.long (xsh a2 a1)), (3, Value.int a1), (2, Value.int 1), (0, Value.ref 135), (1, Value.int a0)]) rfl (by decide) rfl ?_
  refine i_188_121 ?_
  refine i_188_42 (x := 0) rfl ?_
  refine i_188_44 (fun h => absurd h (by decide)) (fun _ => ?_)
  refine i_188_47 (x := 135) rfl ?_
  refine i_188_48 (v := Value.ref 136) (xgn (by decide) hw0) rfl ?_
  refine i_188_51 (x := 0) rfl ?_
  refine i_188_53 (v := Value.int a3) (xgs hw4) (by decide) (by decide) (xup_n (by decide) (xup_n (by decide) (xup_n (by decide) hg7))) ?_
  refine i_188_54 (c := a3.toInt64) rfl ?_
  refine i_188_55 (x := a1) rfl ?_
  refine i_188_56 (c := (xsh a3 a1)) rfl ?_
  refine i_188_57 (lv2 := [(5, Value.long (xsh a3 a1)), (4, Value.int 0), (3, Value.int a1), (2, Value.int 1), (0, Value.ref 135), (1, Value.int a0)]) rfl ?_
  refine i_188_59 (x := 135) rfl ?_
  refine i_188_60 (v := Value.ref 136) (xgn (by decide) hw0) rfl ?_
  refine i_188_63 (x := 0) rfl ?_
  refine i_188_65 (x := 1) rfl ?_
  refine i_188_66 (c := 1) (by decide) ?_
  refine i_188_67 ?_
  refine i_188_68 (c := 2) (by decide) ?_
  refine i_188_69 (x := 0) rfl ?_
  refine i_188_71 (x := 135) rfl ?_
  refine i_188_72 (v := Value.int 2) (xgn (by decide) hw0) rfl ?_
  refine i_188_75 ?_
  refine i_188_76 (c := 1) (by decide) ?_
  refine i_188_77 (fun _ => ?_) (fun h => absurd h (by decide))
  refine i_188_84 (x := 135) rfl ?_
  refine i_188_85 (v := Value.ref 136) (xgn (by decide) hw0) rfl ?_
  refine i_188_88 (x := 0) rfl ?_
  refine i_188_90 (x := 1) rfl ?_
  refine i_188_91 (c := 1) (by decide) ?_
  refine i_188_92 ?_
  refine i_188_93 (c := 2) (by decide) ?_
  refine i_188_94 (v := Value.int (xL a2 a1)) (xgs hw4) (by decide) (by decide) xup_s ?_
  refine i_188_95 (x := (xsh a3 a1)) rfl ?_
  refine i_188_97 ?_
  refine i_188_99 (c := ((xsh a3 a1) >>> ((30 : Int32).toInt64 &&& 63))) rfl ?_
  refine i_188_100 (c := (xH a3 a1)) rfl ?_
  refine i_188_101 (c := ((xL a2 a1) ||| (xH a3 a1))) rfl ?_
  refine i_188_102 (v := Value.int ((xL a2 a1) ||| (xH a3 a1))) (xgs hw4) (by decide) (by decide) (by decide) rfl ?_
  refine xEv.world (List.set_set _) ?_
  refine i_188_103 (x := 135) rfl ?_
  refine i_188_104 (v := Value.ref 136) (xgn (by decide) hw0) rfl ?_
  refine i_188_107 (x := 0) rfl ?_
  refine i_188_109 (x := 1) rfl ?_
  refine i_188_110 (c := 1) (by decide) ?_
  refine i_188_111 (x := (xsh a3 a1)) rfl ?_
  refine i_188_113 (c := (xlo (xsh a3 a1))) rfl ?_
  refine i_188_114 ?_
  refine i_188_116 (c := (xL a3 a1)) rfl ?_
  refine i_188_117 (v := Value.int (xL a3 a1)) (xgs hw4) (by decide) (by decide) (by decide) rfl ?_
  refine xEv.world (List.set_set _) ?_
  refine i_188_118 (x := 0) (c := (-1)) (lv2 := [(4, Value.int (-1)), (5, Value.long (xsh a3 a1)), (3, Value.int a1), (2, Value.int 1), (0, Value.ref 135), (1, Value.int a0)]) rfl (by decide) rfl ?_
  refine i_188_121 ?_
  refine i_188_42 (x := (-1)) rfl ?_
  refine i_188_44 (fun _ => ?_) (fun h => absurd h (by decide))
  refine i_188_124 ?_
  refine i_188_125 (lv2 := [(4, Value.int 0), (5, Value.long (xsh a3 a1)), (3, Value.int a1), (2, Value.int 1), (0, Value.ref 135), (1, Value.int a0)]) rfl ?_
  refine i_188_127 (x := 0) rfl ?_
  refine i_188_129 (x := 1) rfl ?_
  refine i_188_130 (fun h => absurd h (by decide)) (fun _ => ?_)
  refine i_188_133 (x := 135) rfl ?_
  refine i_188_134 (v := Value.ref 136) (xgn (by decide) hw0) rfl ?_
  refine i_188_137 (x := 0) rfl ?_
  refine i_188_139 ?_
  refine i_188_140 (v := Value.int 0) (xgs hw4) (by decide) (by decide) (by decide) rfl ?_
  refine xEv.world (List.set_set _) ?_
  refine i_188_141 (x := 0) (c := 1) (lv2 := [(4, Value.int 1), (5, Value.long (xsh a3 a1)), (3, Value.int a1), (2, Value.int 1), (0, Value.ref 135), (1, Value.int a0)]) rfl (by decide) rfl ?_
  refine i_188_144 ?_
  refine i_188_127 (x := 1) rfl ?_
  refine i_188_129 (x := 1) rfl ?_
  refine i_188_130 (fun _ => ?_) (fun h => absurd h (by decide))
  refine i_188_147 (x := 135) rfl ?_
  refine i_188_148 (x := 135) rfl ?_
  refine i_188_149 (v := Value.int 2) (xgn (by decide) hw0) rfl ?_
  refine i_188_152 (x := 1) rfl ?_
  refine i_188_153 (c := 3) (by decide) ?_
  refine i_188_154 ?_
  refine i_188_155 (c := 4) (by decide) ?_
  refine i_188_156 (xgn (by decide) hw0) (Nat.le_of_ble_eq_true rfl) (s_187_2 (xgn (by decide) hw0) (xgs hw4) (xup_n (by decide) (xup_n (by decide) (xup_n (by decide) (xup_n (by decide) xup_s)))) (xup_n (by decide) (xup_n (by decide) xup_s)) e8) ?_
  exact i_188_159 ⟨rfl, rfl⟩
theorem s_187_3 {d : Nat} {w : xW} {g0 : Nat → Value} {a0 : Int32} (hw0 : w[135]? = some (Sum.inr (13, [Value.ref 136, Value.int 2]))) (hw1 : w[136]? = some (Sum.inl (0, 4700, g0))) (hg2 : g0 (2 : Int32).toInt.toNat = Value.int a0) (e3 : a0.toInt ≠ 0) : xRun d 187 [Value.ref 135, Value.int 3] w (.inl none) (w.set 135 (Sum.inr (13, [Value.ref 136, Value.int 3]))) := by
  refine xRun.of ?_
  refine i_187_0 (x := 135) rfl ?_
  refine i_187_1 (x := 3) rfl ?_
  refine i_187_2 (fs2 := [Value.ref 136, Value.int 3]) hw0 (Nat.le_of_ble_eq_true rfl) rfl (by decide) ?_
  refine i_187_5 (x := 135) rfl ?_
  refine i_187_6 (v := Value.int 3) (xgs hw0) rfl ?_
  refine i_187_9 (fun h => absurd h (by decide)) (fun _ => ?_)
  refine i_187_12 (x := 135) rfl ?_
  refine i_187_13 (v := Value.ref 136) (xgs hw0) rfl ?_
  refine i_187_16 (x := 135) rfl ?_
  refine i_187_17 (v := Value.int 3) (xgs hw0) rfl ?_
  refine i_187_20 ?_
  refine i_187_21 (c := 2) (by decide) ?_
  refine i_187_22 (v := Value.int a0) (xgn (by decide) hw1) (by decide) (by decide) hg2 ?_
  refine i_187_23 (fun _ => ?_) (fun h => absurd e3 (fun g => g h))
  exact i_187_39 ⟨rfl, rfl⟩
theorem s_188_3 {d : Nat} {w : xW} {a0 : Int32} {a1 : Int32} {g0 : Nat → Value} {a2 : Int32} {a3 : Int32} (hw0 : w[135]? = some (Sum.inr (13, [Value.ref 136, Value.int 2]))) (e1 : a0.toInt ≠ 0) (hg2 : (a0 / (30 : Int32)) = 0) (hg3 : (a0 - a0 / (30 : Int32) * (30 : Int32)) = a1) (hw4 : w[136]? = some (Sum.inl (0, 4700, g0))) (hg5 : g0 (1 : Int32).toInt.toNat = Value.int a2) (hg6 : g0 (0 : Int32).toInt.toNat = Value.int a3) (e7 : ((0 : Int32) ||| (xH a2 a1)).toInt ≠ 0) : xRun (d + 1) 188 [Value.ref 135, Value.int a0] w (.inl none) ((w.set 136 (Sum.inl (0, 4700, xup (xup (xup (xup (xup g0 (2 : Int32).toInt.toNat (Value.int 0)) (2 : Int32).toInt.toNat (Value.int ((0 : Int32) ||| (xH a2 a1)))) (1 : Int32).toInt.toNat (Value.int (xL a2 a1))) (1 : Int32).toInt.toNat (Value.int ((xL a2 a1) ||| (xH a3 a1)))) (0 : Int32).toInt.toNat (Value.int (xL a3 a1))))).set 135 (Sum.inr (13, [Value.ref 136, Value.int 3]))) := by
  refine xRun.of ?_
  refine i_188_0 (x := 135) rfl ?_
  refine i_188_1 (v := Value.int 2) hw0 rfl ?_
  refine i_188_4 (fun h => absurd h (by decide)) (fun _ => ?_)
  refine i_188_7 (x := a0) rfl ?_
  refine i_188_8 (fun _ => ?_) (fun h => absurd e1 (fun g => g h))
  refine i_188_12 (x := a0) rfl ?_
  refine i_188_13 ?_
  refine i_188_15 (x := a0) (z := 30) (c := 0) (by decide) hg2 ?_
  refine i_188_16 (lv2 := [(2, Value.int 0), (0, Value.ref 135), (1, Value.int a0)]) rfl ?_
  refine i_188_17 (x := a0) rfl ?_
  refine i_188_18 ?_
  refine i_188_20 (x := a0) (z := 30) (c := a1) (by decide) hg3 ?_
  refine i_188_21 (lv2 := [(3, Value.int a1), (2, Value.int 0), (0, Value.ref 135), (1, Value.int a0)]) rfl ?_
  refine i_188_22 (x := 135) rfl ?_
  refine i_188_23 (v := Value.ref 136) hw0 rfl ?_
  refine i_188_26 (x := 135) rfl ?_
  refine i_188_27 (v := Value.int 2) hw0 rfl ?_
  refine i_188_30 (x := 0) rfl ?_
  refine i_188_31 (c := 2) (by decide) ?_
  refine i_188_32 ?_
  refine i_188_33 (v := Value.int 0) hw4 (by decide) (by decide) (by decide) rfl ?_
  refine i_188_34 (x := 135) rfl ?_
  refine i_188_35 (v := Value.int 2) (xgn (by decide) hw0) rfl ?_
  refine i_188_38 ?_
  refine i_188_39 (c := 1) (by decide) ?_
  refine i_188_40 (lv2 := [(4, Value.int 1), (3, Value.int a1), (2, Value.int 0), (0, Value.ref 135), (1, Value.int a0)]) rfl ?_
  refine i_188_42 (x := 1) rfl ?_
  refine i_188_44 (fun h => absurd h (by decide)) (fun _ => ?_)
  refine i_188_47 (x := 135) rfl ?_
  refine i_188_48 (v := Value.ref 136) (xgn (by decide) hw0) rfl ?_
  refine i_188_51 (x := 1) rfl ?_
  refine i_188_53 (v := Value.int a2) (xgs hw4) (by decide) (by decide) (xup_n (by decide) hg5) ?_
  refine i_188_54 (c := a2.toInt64) rfl ?_
  refine i_188_55 (x := a1) rfl ?_
  refine i_188_56 (c := (xsh a2 a1)) rfl ?_
  refine i_188_57 (lv2 := [(5, Value.long (xsh a2 a1)), (4, Value.int 1), (3, Value.int a1), (2, Value.int 0), (0, Value.ref 135), (1, Value.int a0)]) rfl ?_
  refine i_188_59 (x := 135) rfl ?_
  refine i_188_60 (v := Value.ref 136) (xgn (by decide) hw0) rfl ?_
  refine i_188_63 (x := 1) rfl ?_
  refine i_188_65 (x := 0) rfl ?_
  refine i_188_66 (c := 1) (by decide) ?_
  refine i_188_67 ?_
  refine i_188_68 (c := 2) (by decide) ?_
  refine i_188_69 (x := 1) rfl ?_
  refine i_188_71 (x := 135) rfl ?_
  refine i_188_72 (v := Value.int 2) (xgn (by decide) hw0) rfl ?_
  refine i_188_75 ?_
  refine i_188_76 (c := 1) (by decide) ?_
  refine i_188_77 (fun h => absurd h (by decide)) (fun _ => ?_)
  refine i_188_80 ?_
  refine i_188_81 ?_
  refine i_188_95 (x := (xsh a2 a1)) rfl ?_
  refine i_188_97 ?_
  refine i_188_99 (c := ((xsh a2 a1) >>> ((30 : Int32).toInt64 &&& 63))) rfl ?_
  refine i_188_100 (c := (xH a2 a1)) rfl ?_
  refine i_188_101 (c := ((0 : Int32) ||| (xH a2 a1))) rfl ?_
  refine i_188_102 (v := Value.int ((0 : Int32) ||| (xH a2 a1))) (xgs hw4) (by decide) (by decide) (by decide) rfl ?_
  refine xEv.world (List.set_set _) ?_
  refine i_188_103 (x := 135) rfl ?_
  refine i_188_104 (v := Value.ref 136) (xgn (by decide) hw0) rfl ?_
  refine i_188_107 (x := 1) rfl ?_
  refine i_188_109 (x := 0) rfl ?_
  refine i_188_110 (c := 1) (by decide) ?_
  refine i_188_111 (x := (xsh a2 a1)) rfl ?_
  refine i_188_113 (c := (xlo (xsh a2 a1))) rfl ?_
  refine i_188_114 ?_
  refine i_188_116 (c := (xL a2 a1)) rfl ?_
  refine i_188_117 (v := Value.int (xL a2 a1)) (xgs hw4) (by decide) (by decide) (by decide) rfl ?_
  refine xEv.world (List.set_set _) ?_
  refine i_188_118 (x := 1) (c := 0) (lv2 := [(4, Value.int 0), (5, Value.long (xsh a2 a1)), (3, Value.int a1), (2, Value.int 0), (0, Value.ref 135), (1, Value.int a0)]) rfl (by decide) rfl ?_
  refine i_188_121 ?_
  refine i_188_42 (x := 0) rfl ?_
  refine i_188_44 (fun h => absurd h (by decide)) (fun _ => ?_)
  refine i_188_47 (x := 135) rfl ?_
  refine i_188_48 (v := Value.ref 136) (xgn (by decide) hw0) rfl ?_
  refine i_188_51 (x := 0) rfl ?_
  refine i_188_53 (v := Value.int a3) (xgs hw4) (by decide) (by decide) (xup_n (by decide) (xup_n (by decide) (xup_n (by decide) hg6))) ?_
  refine i_188_54 (c := a3.toInt64) rfl ?_
  refine i_188_55 (x := a1) rfl ?_
  refine i_188_56 (c := (xsh a3 a1)) rfl ?_
  refine i_188_57 (lv2 := [(5, Value.long (xsh a3 a1)), (4, Value.int 0), (3, Value.int a1), (2, Value.int 0), (0, Value.ref 135), (1, Value.int a0)]) rfl ?_
  refine i_188_59 (x := 135) rfl ?_
  refine i_188_60 (v := Value.ref 136) (xgn (by decide) hw0) rfl ?_
  refine i_188_63 (x := 0) rfl ?_
  refine i_188_65 (x := 0) rfl ?_
  refine i_188_66 (c := 0) (by decide) ?_
  refine i_188_67 ?_
  refine i_188_68 (c := 1) (by decide) ?_
  refine i_188_69 (x := 0) rfl ?_
  refine i_188_71 (x := 135) rfl ?_
  refine i_188_72 (v := Value.int 2) (xgn (by decide) hw0) rfl ?_
  refine i_188_75 ?_
  refine i_188_76 (c := 1) (by decide) ?_
  refine i_188_77 (fun _ => ?_) (fun h => absurd h (by decide))
  refine i_188_84 (x := 135) rfl ?_
  refine i_188_85 (v := Value.ref 136) (xgn (by decide) hw0) rfl ?_
  refine i_188_88 (x := 0) rfl ?_
  refine i_188_90 (x := 0) rfl ?_
  refine i_188_91 (c := 0) (by decide) ?_
  refine i_188_92 ?_
  refine i_188_93 (c := 1) (by decide) ?_
  refine i_188_94 (v := Value.int (xL a2 a1)) (xgs hw4) (by decide) (by decide) xup_s ?_
  refine i_188_95 (x := (xsh a3 a1)) rfl ?_
  refine i_188_97 ?_
  refine i_188_99 (c := ((xsh a3 a1) >>> ((30 : Int32).toInt64 &&& 63))) rfl ?_
  refine i_188_100 (c := (xH a3 a1)) rfl ?_
  refine i_188_101 (c := ((xL a2 a1) ||| (xH a3 a1))) rfl ?_
  refine i_188_102 (v := Value.int ((xL a2 a1) ||| (xH a3 a1))) (xgs hw4) (by decide) (by decide) (by decide) rfl ?_
  refine xEv.world (List.set_set _) ?_
  refine i_188_103 (x := 135) rfl ?_
  refine i_188_104 (v := Value.ref 136) (xgn (by decide) hw0) rfl ?_
  refine i_188_107 (x := 0) rfl ?_
  refine i_188_109 (x := 0) rfl ?_
  refine i_188_110 (c := 0) (by decide) ?_
  refine i_188_111 (x := (xsh a3 a1)) rfl ?_
  refine i_188_113 (c := (xlo (xsh a3 a1))) rfl ?_
  refine i_188_114 ?_
  refine i_188_116 (c := (xL a3 a1)) rfl ?_
  refine i_188_117 (v := Value.int (xL a3 a1)) (xgs hw4) (by decide) (by decide) (by decide) rfl ?_
  refine xEv.world (List.set_set _) ?_
  refine i_188_118 (x := 0) (c := (-1)) (lv2 := [(4, Value.int (-1)), (5, Value.long (xsh a3 a1)), (3, Value.int a1), (2, Value.int 0), (0, Value.ref 135), (1, Value.int a0)]) rfl (by decide) rfl ?_
  refine i_188_121 ?_
  refine i_188_42 (x := (-1)) rfl ?_
  refine i_188_44 (fun _ => ?_) (fun h => absurd h (by decide))
  refine i_188_124 ?_
  refine i_188_125 (lv2 := [(4, Value.int 0), (5, Value.long (xsh a3 a1)), (3, Value.int a1), (2, Value.int 0), (0, Value.ref 135), (1, Value.int a0)]) rfl ?_
  refine i_188_127 (x := 0) rfl ?_
  refine i_188_129 (x := 0) rfl ?_
  refine i_188_130 (fun _ => ?_) (fun h => absurd h (by decide))
  refine i_188_147 (x := 135) rfl ?_
  refine i_188_148 (x := 135) rfl ?_
  refine i_188_149 (v := Value.int 2) (xgn (by decide) hw0) rfl ?_
  refine i_188_152 (x := 0) rfl ?_
  refine i_188_153 (c := 2) (by decide) ?_
  refine i_188_154 ?_
  refine i_188_155 (c := 3) (by decide) ?_
  refine i_188_156 (xgn (by decide) hw0) (Nat.le_of_ble_eq_true rfl) (s_187_3 (xgn (by decide) hw0) (xgs hw4) (xup_n (by decide) (xup_n (by decide) (xup_n (by decide) xup_s))) e7) ?_
  exact i_188_159 ⟨rfl, rfl⟩
theorem s_182_2 {d : Nat} {w : xW} {g0 : Nat → Value} {a0 : Int32} {a1 : Int32} {a2 : Int32} (hw0 : w[129]? = some (Sum.inr (13, [Value.ref 130, Value.int 3]))) (hw1 : w[135]? = some (Sum.inr (13, [Value.ref 136, Value.int 0]))) (hw2 : w[130]? = some (Sum.inl (0, 4700, g0))) (hw3 : w[136]? = some (Sum.inl (0, 4700, fun _ => Value.int 0))) (hg4 : g0 (0 : Int32).toInt.toNat = Value.int a0) (hg5 : g0 (1 : Int32).toInt.toNat = Value.int a1) (hg6 : g0 (2 : Int32).toInt.toNat = Value.int a2) : xRun (d + 1) 182 [Value.ref 135, Value.ref 129] w (.inl none) ((w.set 136 (Sum.inl (0, 4700, xcp g0 (fun _ => Value.int 0) (0 : Int32).toInt.toNat (0 : Int32).toInt.toNat (3 : Int32).toInt.toNat))).set 135 (Sum.inr (13, [Value.ref 136, Value.int 3]))) := by
  refine xRun.of ?_
  refine i_182_0 (x := 129) rfl ?_
  refine i_182_1 (v := Value.ref 130) hw0 rfl ?_
  refine i_182_4 ?_
  refine i_182_5 (x := 135) rfl ?_
  refine i_182_6 (v := Value.ref 136) hw1 rfl ?_
  refine i_182_9 ?_
  refine i_182_10 (x := 129) rfl ?_
  refine i_182_11 (v := Value.int 3) hw0 rfl ?_
  refine i_182_14 hw2 hw3 (by decide) (by decide) (by decide) (by decide) (by decide) (by decide) (xci3 hg4 hg5 hg6) (Nat.le_of_ble_eq_true rfl) ?_
  refine i_182_17 (x := 135) rfl ?_
  refine i_182_18 (x := 129) rfl ?_
  refine i_182_19 (v := Value.int 3) (xgn (by decide) hw0) rfl ?_
  refine i_182_22 (fs2 := [Value.ref 136, Value.int 3]) (xgn (by decide) hw1) (Nat.le_of_ble_eq_true rfl) rfl (by decide) ?_
  exact i_182_25 ⟨rfl, rfl⟩
theorem s_187_4 {d : Nat} {w : xW} {g0 : Nat → Value} {a0 : Int32} (hw0 : w[135]? = some (Sum.inr (13, [Value.ref 136, Value.int 3]))) (hw1 : w[136]? = some (Sum.inl (0, 4700, g0))) (hg2 : g0 (3 : Int32).toInt.toNat = Value.int 0) (hg3 : g0 (2 : Int32).toInt.toNat = Value.int a0) (e4 : a0.toInt ≠ 0) : xRun d 187 [Value.ref 135, Value.int 4] w (.inl none) (w.set 135 (Sum.inr (13, [Value.ref 136, Value.int 3]))) := by
  refine xRun.of ?_
  refine i_187_0 (x := 135) rfl ?_
  refine i_187_1 (x := 4) rfl ?_
  refine i_187_2 (fs2 := [Value.ref 136, Value.int 4]) hw0 (Nat.le_of_ble_eq_true rfl) rfl (by decide) ?_
  refine i_187_5 (x := 135) rfl ?_
  refine i_187_6 (v := Value.int 4) (xgs hw0) rfl ?_
  refine i_187_9 (fun h => absurd h (by decide)) (fun _ => ?_)
  refine i_187_12 (x := 135) rfl ?_
  refine i_187_13 (v := Value.ref 136) (xgs hw0) rfl ?_
  refine i_187_16 (x := 135) rfl ?_
  refine i_187_17 (v := Value.int 4) (xgs hw0) rfl ?_
  refine i_187_20 ?_
  refine i_187_21 (c := 3) (by decide) ?_
  refine i_187_22 (v := Value.int 0) (xgn (by decide) hw1) (by decide) (by decide) hg2 ?_
  refine i_187_23 (fun h => absurd h (by decide)) (fun _ => ?_)
  refine i_187_26 (x := 135) rfl ?_
  refine i_187_27 rfl ?_
  refine i_187_28 (v := Value.int 4) (xgs hw0) rfl ?_
  refine i_187_31 ?_
  refine i_187_32 (c := 3) (by decide) ?_
  refine i_187_33 (fs2 := [Value.ref 136, Value.int 3]) (xgs hw0) (Nat.le_of_ble_eq_true rfl) rfl (by decide) ?_
  refine xEv.world (List.set_set _) ?_
  refine i_187_36 ?_
  refine i_187_5 (x := 135) rfl ?_
  refine i_187_6 (v := Value.int 3) (xgs hw0) rfl ?_
  refine i_187_9 (fun h => absurd h (by decide)) (fun _ => ?_)
  refine i_187_12 (x := 135) rfl ?_
  refine i_187_13 (v := Value.ref 136) (xgs hw0) rfl ?_
  refine i_187_16 (x := 135) rfl ?_
  refine i_187_17 (v := Value.int 3) (xgs hw0) rfl ?_
  refine i_187_20 ?_
  refine i_187_21 (c := 2) (by decide) ?_
  refine i_187_22 (v := Value.int a0) (xgn (by decide) hw1) (by decide) (by decide) hg3 ?_
  refine i_187_23 (fun _ => ?_) (fun h => absurd e4 (fun g => g h))
  exact i_187_39 ⟨rfl, rfl⟩
theorem s_188_4 {d : Nat} {w : xW} {a0 : Int32} {a1 : Int32} {g0 : Nat → Value} {a2 : Int32} {a3 : Int32} {a4 : Int32} (hw0 : w[135]? = some (Sum.inr (13, [Value.ref 136, Value.int 3]))) (e1 : a0.toInt ≠ 0) (hg2 : (a0 / (30 : Int32)) = 0) (hg3 : (a0 - a0 / (30 : Int32) * (30 : Int32)) = a1) (hw4 : w[136]? = some (Sum.inl (0, 4700, g0))) (hg5 : g0 (2 : Int32).toInt.toNat = Value.int a2) (hg6 : ((0 : Int32) ||| (xH a2 a1)) = 0) (hg7 : g0 (1 : Int32).toInt.toNat = Value.int a3) (hg8 : g0 (0 : Int32).toInt.toNat = Value.int a4) (e9 : ((xL a2 a1) ||| (xH a3 a1)).toInt ≠ 0) : xRun (d + 1) 188 [Value.ref 135, Value.int a0] w (.inl none) ((w.set 136 (Sum.inl (0, 4700, xup (xup (xup (xup (xup (xup (xup g0 (3 : Int32).toInt.toNat (Value.int 0)) (3 : Int32).toInt.toNat (Value.int 0)) (2 : Int32).toInt.toNat (Value.int (xL a2 a1))) (2 : Int32).toInt.toNat (Value.int ((xL a2 a1) ||| (xH a3 a1)))) (1 : Int32).toInt.toNat (Value.int (xL a3 a1))) (1 : Int32).toInt.toNat (Value.int ((xL a3 a1) ||| (xH a4 a1)))) (0 : Int32).toInt.toNat (Value.int (xL a4 a1))))).set 135 (Sum.inr (13, [Value.ref 136, Value.int 3]))) := by
  refine xRun.of ?_
  refine i_188_0 (x := 135) rfl ?_
  refine i_188_1 (v := Value.int 3) hw0 rfl ?_
  refine i_188_4 (fun h => absurd h (by decide)) (fun _ => ?_)
  refine i_188_7 (x := a0) rfl ?_
  refine i_188_8 (fun _ => ?_) (fun h => absurd e1 (fun g => g h))
  refine i_188_12 (x := a0) rfl ?_
  refine i_188_13 ?_
  refine i_188_15 (x := a0) (z := 30) (c := 0) (by decide) hg2 ?_
  refine i_188_16 (lv2 := [(2, Value.int 0), (0, Value.ref 135), (1, Value.int a0)]) rfl ?_
  refine i_188_17 (x := a0) rfl ?_
  refine i_188_18 ?_
  refine i_188_20 (x := a0) (z := 30) (c := a1) (by decide) hg3 ?_
  refine i_188_21 (lv2 := [(3, Value.int a1), (2, Value.int 0), (0, Value.ref 135), (1, Value.int a0)]) rfl ?_
  refine i_188_22 (x := 135) rfl ?_
  refine i_188_23 (v := Value.ref 136) hw0 rfl ?_
  refine i_188_26 (x := 135) rfl ?_
  refine i_188_27 (v := Value.int 3) hw0 rfl ?_
  refine i_188_30 (x := 0) rfl ?_
  refine i_188_31 (c := 3) (by decide) ?_
  refine i_188_32 ?_
  refine i_188_33 (v := Value.int 0) hw4 (by decide) (by decide) (by decide) rfl ?_
  refine i_188_34 (x := 135) rfl ?_
  refine i_188_35 (v := Value.int 3) (xgn (by decide) hw0) rfl ?_
  refine i_188_38 ?_
  refine i_188_39 (c := 2) (by decide) ?_
  refine i_188_40 (lv2 := [(4, Value.int 2), (3, Value.int a1), (2, Value.int 0), (0, Value.ref 135), (1, Value.int a0)]) rfl ?_
  refine i_188_42 (x := 2) rfl ?_
  refine i_188_44 (fun h => absurd h (by decide)) (fun _ => ?_)
  refine i_188_47 (x := 135) rfl ?_
  refine i_188_48 (v := Value.ref 136) (xgn (by decide) hw0) rfl ?_
  refine i_188_51 (x := 2) rfl ?_
  refine i_188_53 (v := Value.int a2) (xgs hw4) (by decide) (by decide) (xup_n (by decide) hg5) ?_
  refine i_188_54 (c := a2.toInt64) rfl ?_
  refine i_188_55 (x := a1) rfl ?_
  refine i_188_56 (c := (xsh a2 a1)) rfl ?_
  refine i_188_57 (lv2 := [(5, Value.long (xsh a2 a1)), (4, Value.int 2), (3, Value.int a1), (2, Value.int 0), (0, Value.ref 135), (1, Value.int a0)]) rfl ?_
  refine i_188_59 (x := 135) rfl ?_
  refine i_188_60 (v := Value.ref 136) (xgn (by decide) hw0) rfl ?_
  refine i_188_63 (x := 2) rfl ?_
  refine i_188_65 (x := 0) rfl ?_
  refine i_188_66 (c := 2) (by decide) ?_
  refine i_188_67 ?_
  refine i_188_68 (c := 3) (by decide) ?_
  refine i_188_69 (x := 2) rfl ?_
  refine i_188_71 (x := 135) rfl ?_
  refine i_188_72 (v := Value.int 3) (xgn (by decide) hw0) rfl ?_
  refine i_188_75 ?_
  refine i_188_76 (c := 2) (by decide) ?_
  refine i_188_77 (fun h => absurd h (by decide)) (fun _ => ?_)
  refine i_188_80 ?_
  refine i_188_81 ?_
  refine i_188_95 (x := (xsh a2 a1)) rfl ?_
  refine i_188_97 ?_
  refine i_188_99 (c := ((xsh a2 a1) >>> ((30 : Int32).toInt64 &&& 63))) rfl ?_
  refine i_188_100 (c := (xH a2 a1)) rfl ?_
  refine i_188_101 (c := 0) hg6 ?_
  refine i_188_102 (v := Value.int 0) (xgs hw4) (by decide) (by decide) (by decide) rfl ?_
  refine xEv.world (List.set_set _) ?_
  refine i_188_103 (x := 135) rfl ?_
  refine i_188_104 (v := Value.ref 136) (xgn (by decide) hw0) rfl ?_
  refine i_188_107 (x := 2) rfl ?_
  refine i_188_109 (x := 0) rfl ?_
  refine i_188_110 (c := 2) (by decide) ?_
  refine i_188_111 (x := (xsh a2 a1)) rfl ?_
  refine i_188_113 (c := (xlo (xsh a2 a1))) rfl ?_
  refine i_188_114 ?_
  refine i_188_116 (c := (xL a2 a1)) rfl ?_
  refine i_188_117 (v := Value.int (xL a2 a1)) (xgs hw4) (by decide) (by decide) (by decide) rfl ?_
  refine xEv.world (List.set_set _) ?_
  refine i_188_118 (x := 2) (c := 1) (lv2 := [(4, Value.int 1), (5, Value.long (xsh a2 a1)), (3, Value.int a1), (2, Value.int 0), (0, Value.ref 135), (1, Value.int a0)]) rfl (by decide) rfl ?_
  refine i_188_121 ?_
  refine i_188_42 (x := 1) rfl ?_
  refine i_188_44 (fun h => absurd h (by decide)) (fun _ => ?_)
  refine i_188_47 (x := 135) rfl ?_
  refine i_188_48 (v := Value.ref 136) (xgn (by decide) hw0) rfl ?_
  refine i_188_51 (x := 1) rfl ?_
  refine i_188_53 (v := Value.int a3) (xgs hw4) (by decide) (by decide) (xup_n (by decide) (xup_n (by decide) (xup_n (by decide) hg7))) ?_
  refine i_188_54 (c := a3.toInt64) rfl ?_
  refine i_188_55 (x := a1) rfl ?_
  refine i_188_56 (c := (xsh a3 a1)) rfl ?_
  refine i_188_57 (lv2 := [(5, Value.long (xsh a3 a1)), (4, Value.int 1), (3, Value.int a1), (2, Value.int 0), (0, Value.ref 135), (1, Value.int a0)]) rfl ?_
  refine i_188_59 (x := 135) rfl ?_
  refine i_188_60 (v := Value.ref 136) (xgn (by decide) hw0) rfl ?_
  refine i_188_63 (x := 1) rfl ?_
  refine i_188_65 (x := 0) rfl ?_
  refine i_188_66 (c := 1) (by decide) ?_
  refine i_188_67 ?_
  refine i_188_68 (c := 2) (by decide) ?_
  refine i_188_69 (x := 1) rfl ?_
  refine i_188_71 (x := 135) rfl ?_
  refine i_188_72 (v := Value.int 3) (xgn (by decide) hw0) rfl ?_
  refine i_188_75 ?_
  refine i_188_76 (c := 2) (by decide) ?_
  refine i_188_77 (fun _ => ?_) (fun h => absurd h (by decide))
  refine i_188_84 (x := 135) rfl ?_
  refine i_188_85 (v := Value.ref 136) (xgn (by decide) hw0) rfl ?_
  refine i_188_88 (x := 1) rfl ?_
  refine i_188_90 (x := 0) rfl ?_
  refine i_188_91 (c := 1) (by decide) ?_
  refine i_188_92 ?_
  refine i_188_93 (c := 2) (by decide) ?_
  refine i_188_94 (v := Value.int (xL a2 a1)) (xgs hw4) (by decide) (by decide) xup_s ?_
  refine i_188_95 (x := (xsh a3 a1)) rfl ?_
  refine i_188_97 ?_
  refine i_188_99 (c := ((xsh a3 a1) >>> ((30 : Int32).toInt64 &&& 63))) rfl ?_
  refine i_188_100 (c := (xH a3 a1)) rfl ?_
  refine i_188_101 (c := ((xL a2 a1) ||| (xH a3 a1))) rfl ?_
  refine i_188_102 (v := Value.int ((xL a2 a1) ||| (xH a3 a1))) (xgs hw4) (by decide) (by decide) (by decide) rfl ?_
  refine xEv.world (List.set_set _) ?_
  refine i_188_103 (x := 135) rfl ?_
  refine i_188_104 (v := Value.ref 136) (xgn (by decide) hw0) rfl ?_
  refine i_188_107 (x := 1) rfl ?_
  refine i_188_109 (x := 0) rfl ?_
  refine i_188_110 (c := 1) (by decide) ?_
  refine i_188_111 (x := (xsh a3 a1)) rfl ?_
  refine i_188_113 (c := (xlo (xsh a3 a1))) rfl ?_
  refine i_188_114 ?_
  refine i_188_116 (c := (xL a3 a1)) rfl ?_
  refine i_188_117 (v := Value.int (xL a3 a1)) (xgs hw4) (by decide) (by decide) (by decide) rfl ?_
  refine xEv.world (List.set_set _) ?_
  refine i_188_118 (x := 1) (c := 0) (lv2 := [(4, Value.int 0), (5, Value.long (xsh a3 a1)), (3, Value.int a1), (2, Value.int 0), (0, Value.ref 135), (1, Value.int a0)]) rfl (by decide) rfl ?_
  refine i_188_121 ?_
  refine i_188_42 (x := 0) rfl ?_
  refine i_188_44 (fun h => absurd h (by decide)) (fun _ => ?_)
  refine i_188_47 (x := 135) rfl ?_
  refine i_188_48 (v := Value.ref 136) (xgn (by decide) hw0) rfl ?_
  refine i_188_51 (x := 0) rfl ?_
  refine i_188_53 (v := Value.int a4) (xgs hw4) (by decide) (by decide) (xup_n (by decide) (xup_n (by decide) (xup_n (by decide) (xup_n (by decide) (xup_n (by decide) hg8))))) ?_
  refine i_188_54 (c := a4.toInt64) rfl ?_
  refine i_188_55 (x := a1) rfl ?_
  refine i_188_56 (c := (xsh a4 a1)) rfl ?_
  refine i_188_57 (lv2 := [(5, Value.long (xsh a4 a1)), (4, Value.int 0), (3, Value.int a1), (2, Value.int 0), (0, Value.ref 135), (1, Value.int a0)]) rfl ?_
  refine i_188_59 (x := 135) rfl ?_
  refine i_188_60 (v := Value.ref 136) (xgn (by decide) hw0) rfl ?_
  refine i_188_63 (x := 0) rfl ?_
  refine i_188_65 (x := 0) rfl ?_
  refine i_188_66 (c := 0) (by decide) ?_
  refine i_188_67 ?_
  refine i_188_68 (c := 1) (by decide) ?_
  refine i_188_69 (x := 0) rfl ?_
  refine i_188_71 (x := 135) rfl ?_
  refine i_188_72 (v := Value.int 3) (xgn (by decide) hw0) rfl ?_
  refine i_188_75 ?_
  refine i_188_76 (c := 2) (by decide) ?_
  refine i_188_77 (fun _ => ?_) (fun h => absurd h (by decide))
  refine i_188_84 (x := 135) rfl ?_
  refine i_188_85 (v := Value.ref 136) (xgn (by decide) hw0) rfl ?_
  refine i_188_88 (x := 0) rfl ?_
  refine i_188_90 (x := 0) rfl ?_
  refine i_188_91 (c := 0) (by decide) ?_
  refine i_188_92 ?_
  refine i_188_93 (c := 1) (by decide) ?_
  refine i_188_94 (v := Value.int (xL a3 a1)) (xgs hw4) (by decide) (by decide) xup_s ?_
  refine i_188_95 (x := (xsh a4 a1)) rfl ?_
  refine i_188_97 ?_
  refine i_188_99 (c := ((xsh a4 a1) >>> ((30 : Int32).toInt64 &&& 63))) rfl ?_
  refine i_188_100 (c := (xH a4 a1)) rfl ?_
  refine i_188_101 (c := ((xL a3 a1) ||| (xH a4 a1))) rfl ?_
  refine i_188_102 (v := Value.int ((xL a3 a1) ||| (xH a4 a1))) (xgs hw4) (by decide) (by decide) (by decide) rfl ?_
  refine xEv.world (List.set_set _) ?_
  refine i_188_103 (x := 135) rfl ?_
  refine i_188_104 (v := Value.ref 136) (xgn (by decide) hw0) rfl ?_
  refine i_188_107 (x := 0) rfl ?_
  refine i_188_109 (x := 0) rfl ?_
  refine i_188_110 (c := 0) (by decide) ?_
  refine i_188_111 (x := (xsh a4 a1)) rfl ?_
  refine i_188_113 (c := (xlo (xsh a4 a1))) rfl ?_
  refine i_188_114 ?_
  refine i_188_116 (c := (xL a4 a1)) rfl ?_
  refine i_188_117 (v := Value.int (xL a4 a1)) (xgs hw4) (by decide) (by decide) (by decide) rfl ?_
  refine xEv.world (List.set_set _) ?_
  refine i_188_118 (x := 0) (c := (-1)) (lv2 := [(4, Value.int (-1)), (5, Value.long (xsh a4 a1)), (3, Value.int a1), (2, Value.int 0), (0, Value.ref 135), (1, Value.int a0)]) rfl (by decide) rfl ?_
  refine i_188_121 ?_
  refine i_188_42 (x := (-1)) rfl ?_
  refine i_188_44 (fun _ => ?_) (fun h => absurd h (by decide))
  refine i_188_124 ?_
  refine i_188_125 (lv2 := [(4, Value.int 0), (5, Value.long (xsh a4 a1)), (3, Value.int a1), (2, Value.int 0), (0, Value.ref 135), (1, Value.int a0)]) rfl ?_
  refine i_188_127 (x := 0) rfl ?_
  refine i_188_129 (x := 0) rfl ?_
  refine i_188_130 (fun _ => ?_) (fun h => absurd h (by decide))
  refine i_188_147 (x := 135) rfl ?_
  refine i_188_148 (x := 135) rfl ?_
  refine i_188_149 (v := Value.int 3) (xgn (by decide) hw0) rfl ?_
  refine i_188_152 (x := 0) rfl ?_
  refine i_188_153 (c := 3) (by decide) ?_
  refine i_188_154 ?_
  refine i_188_155 (c := 4) (by decide) ?_
  refine i_188_156 (xgn (by decide) hw0) (Nat.le_of_ble_eq_true rfl) (s_187_4 (xgn (by decide) hw0) (xgs hw4) (xup_n (by decide) (xup_n (by decide) (xup_n (by decide) (xup_n (by decide) (xup_n (by decide) xup_s))))) (xup_n (by decide) (xup_n (by decide) (xup_n (by decide) xup_s))) e9) ?_
  exact i_188_159 ⟨rfl, rfl⟩
theorem s_188_5 {d : Nat} {w : xW} (hw0 : w[135]? = some (Sum.inr (13, [Value.ref 136, Value.int 3]))) : xRun d 188 [Value.ref 135, Value.int 0] w (.inl none) w := by
  refine xRun.of ?_
  refine i_188_0 (x := 135) rfl ?_
  refine i_188_1 (v := Value.int 3) hw0 rfl ?_
  refine i_188_4 (fun h => absurd h (by decide)) (fun _ => ?_)
  refine i_188_7 (x := 0) rfl ?_
  refine i_188_8 (fun h => absurd h (by decide)) (fun _ => ?_)
  exact i_188_11 ⟨rfl, rfl⟩
theorem an1_0 {d : Nat} {xs : Nat → Int32} {m : Int64} {sc md : Int32} {w : xW} {g : Nat → Value} {B K P G : Int32} (hv : w[129]? = some (Sum.inr (13, [Value.ref 130, Value.int 1]))) (hvw : w[130]? = some (Sum.inl (0, 4700, g))) (hg0 : g (0 : Int32).toInt.toNat = Value.int (xq m)) (c0 : 0 ≤ (xs 1).toInt) (c1 : (xs 1).toInt < 16) (c2 : (-40000) ≤ sc.toInt) (c3 : sc.toInt ≤ 40000) (c4 : 0 ≤ md.toInt) (c5 : md.toInt ≤ 4) (c6 : K.toInt = 64 - B.toInt) (c7 : 1 ≤ B.toInt) (c8 : B.toInt ≤ 4) (c9 : (xhi m).toInt = 0) (c10 : (xlo m).toInt ≠ 0) (c11 : (xnlz (xlo m)).toInt = 32 - B.toInt) (c12 : (xbf 1 (xlo m) (0 : Int32) ((32 : Int32) - K)).toInt ≠ 0) (c13 : (lg_cmp m (0 : Int64)).toInt ≠ 0) (c14 : (lg_cmp (xqs m) (0 : Int64)).toInt = 0) (c15 : (xbn (xq m)).toInt = B.toInt) (c16 : (xq m).toInt ≠ 0) (c17 : 0 ≤ (xq m).toInt) (c18 : K.toInt ≠ 0) (c19 : K / (30 : Int32) = 2) (c20 : K - K / (30 : Int32) * (30 : Int32) = P) (c21 : ((0 : Int32) ||| (xH (xq m) P)).toInt = 0) (c22 : (xL (xq m) P).toInt ≠ 0) (c23 : 0 ≤ (xL (xq m) P).toInt) (c24 : (xbn (xL (xq m) P)).toInt = 4) (c25 : G.toInt = B.toInt - 1) (c26 : B.toInt = 1) : xRun d 183 [Value.ref 129, Value.int (B - (1 : Int32))] w (.inl (some (Value.int 0))) w := by
  have f0 : (B - (1 : Int32)).toInt = B.toInt - 1 := xsub_g rfl rfl (by omega) (by omega)
  refine xRun.of ?_
  refine i_183_0 ?_
  refine i_183_1 (lv2 := [(2, Value.int 0), (0, Value.ref 129), (1, Value.int (B - (1 : Int32)))]) rfl ?_
  refine i_183_2 (x := 0) rfl ?_
  refine i_183_3 (x := 129) rfl ?_
  refine i_183_4 (v := Value.int 1) hv rfl ?_
  refine i_183_7 (fun h => absurd h (by decide)) (fun _ => ?_)
  refine i_183_10 ?_
  refine i_183_12 (x := 0) rfl ?_
  refine i_183_13 (c := 0) (by decide) ?_
  refine i_183_14 (x := (B - (1 : Int32))) rfl ?_
  refine i_183_15 (fun _ => ?_) (fun h => absurd (show (B - (1 : Int32)).toInt ≤ 0 by omega) (Int.not_le.mpr h))
  refine i_183_66 ?_
  exact i_183_67 rfl ⟨rfl, rfl⟩
theorem an1_1 {d : Nat} {xs : Nat → Int32} {m : Int64} {sc md : Int32} {w : xW} {g : Nat → Value} {B K P G : Int32} (hv : w[129]? = some (Sum.inr (13, [Value.ref 130, Value.int 1]))) (hvw : w[130]? = some (Sum.inl (0, 4700, g))) (hg0 : g (0 : Int32).toInt.toNat = Value.int (xq m)) (c0 : 0 ≤ (xs 1).toInt) (c1 : (xs 1).toInt < 16) (c2 : (-40000) ≤ sc.toInt) (c3 : sc.toInt ≤ 40000) (c4 : 0 ≤ md.toInt) (c5 : md.toInt ≤ 4) (c6 : K.toInt = 64 - B.toInt) (c7 : 1 ≤ B.toInt) (c8 : B.toInt ≤ 4) (c9 : (xhi m).toInt = 0) (c10 : (xlo m).toInt ≠ 0) (c11 : (xnlz (xlo m)).toInt = 32 - B.toInt) (c12 : (xbf 1 (xlo m) (0 : Int32) ((32 : Int32) - K)).toInt ≠ 0) (c13 : (lg_cmp m (0 : Int64)).toInt ≠ 0) (c14 : (lg_cmp (xqs m) (0 : Int64)).toInt = 0) (c15 : (xbn (xq m)).toInt = B.toInt) (c16 : (xq m).toInt ≠ 0) (c17 : 0 ≤ (xq m).toInt) (c18 : K.toInt ≠ 0) (c19 : K / (30 : Int32) = 2) (c20 : K - K / (30 : Int32) * (30 : Int32) = P) (c21 : ((0 : Int32) ||| (xH (xq m) P)).toInt = 0) (c22 : (xL (xq m) P).toInt ≠ 0) (c23 : 0 ≤ (xL (xq m) P).toInt) (c24 : (xbn (xL (xq m) P)).toInt = 4) (c25 : G.toInt = B.toInt - 1) (c26 : B.toInt ≠ 1) (c27 : (xmk (xq m) G).toInt ≠ 0) : xRun d 183 [Value.ref 129, Value.int (B - (1 : Int32))] w (.inl (some (Value.int 1))) w := by
  have f0 : (B - (1 : Int32)).toInt = B.toInt - 1 := xsub_g rfl rfl (by omega) (by omega)
  have f1 : ((B - (1 : Int32)) - (0 : Int32)).toInt = (B - (1 : Int32)).toInt - 0 := xsub_g rfl rfl (by omega) (by omega)
  refine xRun.of ?_
  refine i_183_0 ?_
  refine i_183_1 (lv2 := [(2, Value.int 0), (0, Value.ref 129), (1, Value.int (B - (1 : Int32)))]) rfl ?_
  refine i_183_2 (x := 0) rfl ?_
  refine i_183_3 (x := 129) rfl ?_
  refine i_183_4 (v := Value.int 1) hv rfl ?_
  refine i_183_7 (fun h => absurd h (by decide)) (fun _ => ?_)
  refine i_183_10 ?_
  refine i_183_12 (x := 0) rfl ?_
  refine i_183_13 (c := 0) (by decide) ?_
  refine i_183_14 (x := (B - (1 : Int32))) rfl ?_
  refine i_183_15 (fun h => absurd (show 0 < (B - (1 : Int32)).toInt by omega) (Int.not_lt.mpr h)) (fun _ => ?_)
  refine i_183_18 (x := (B - (1 : Int32))) rfl ?_
  refine i_183_19 ?_
  refine i_183_21 (x := 0) rfl ?_
  refine i_183_22 (c := 0) (by decide) ?_
  refine i_183_23 (c := G) (show ((B - (1 : Int32)) - (0 : Int32)) = G from (xge_i (by omega))) ?_
  refine i_183_24 (lv2 := [(3, Value.int G), (2, Value.int 0), (0, Value.ref 129), (1, Value.int (B - (1 : Int32)))]) rfl ?_
  refine i_183_25 (x := G) rfl ?_
  refine i_183_26 ?_
  refine i_183_28 (fun _ => ?_) (fun h => absurd (show G.toInt < 30 by omega) (Int.not_lt.mpr h))
  refine i_183_43 (x := 129) rfl ?_
  refine i_183_44 (v := Value.ref 130) hv rfl ?_
  refine i_183_47 (x := 0) rfl ?_
  refine i_183_48 (v := Value.int (xq m)) hvw (by decide) (by decide) hg0 ?_
  refine i_183_49 ?_
  refine i_183_50 (x := G) rfl ?_
  refine i_183_51 (c := ((1 : Int32) <<< (G &&& 31))) rfl ?_
  refine i_183_52 ?_
  refine i_183_53 (c := (((1 : Int32) <<< (G &&& 31)) - (1 : Int32))) rfl ?_
  refine i_183_54 (c := (xmk (xq m) G)) rfl ?_
  refine i_183_55 (fun h => absurd (show (xmk (xq m) G).toInt ≠ 0 by omega) (fun g => g h)) (fun _ => ?_)
  refine i_183_58 ?_
  exact i_183_59 rfl ⟨rfl, rfl⟩
theorem an1_2 {d : Nat} {xs : Nat → Int32} {m : Int64} {sc md : Int32} {w : xW} {g : Nat → Value} {B K P G : Int32} (hv : w[129]? = some (Sum.inr (13, [Value.ref 130, Value.int 1]))) (hvw : w[130]? = some (Sum.inl (0, 4700, g))) (hg0 : g (0 : Int32).toInt.toNat = Value.int (xq m)) (c0 : 0 ≤ (xs 1).toInt) (c1 : (xs 1).toInt < 16) (c2 : (-40000) ≤ sc.toInt) (c3 : sc.toInt ≤ 40000) (c4 : 0 ≤ md.toInt) (c5 : md.toInt ≤ 4) (c6 : K.toInt = 64 - B.toInt) (c7 : 1 ≤ B.toInt) (c8 : B.toInt ≤ 4) (c9 : (xhi m).toInt = 0) (c10 : (xlo m).toInt ≠ 0) (c11 : (xnlz (xlo m)).toInt = 32 - B.toInt) (c12 : (xbf 1 (xlo m) (0 : Int32) ((32 : Int32) - K)).toInt ≠ 0) (c13 : (lg_cmp m (0 : Int64)).toInt ≠ 0) (c14 : (lg_cmp (xqs m) (0 : Int64)).toInt = 0) (c15 : (xbn (xq m)).toInt = B.toInt) (c16 : (xq m).toInt ≠ 0) (c17 : 0 ≤ (xq m).toInt) (c18 : K.toInt ≠ 0) (c19 : K / (30 : Int32) = 2) (c20 : K - K / (30 : Int32) * (30 : Int32) = P) (c21 : ((0 : Int32) ||| (xH (xq m) P)).toInt = 0) (c22 : (xL (xq m) P).toInt ≠ 0) (c23 : 0 ≤ (xL (xq m) P).toInt) (c24 : (xbn (xL (xq m) P)).toInt = 4) (c25 : G.toInt = B.toInt - 1) (c26 : B.toInt ≠ 1) (c27 : (xmk (xq m) G).toInt = 0) : xRun d 183 [Value.ref 129, Value.int (B - (1 : Int32))] w (.inl (some (Value.int 0))) w := by
  have f0 : (B - (1 : Int32)).toInt = B.toInt - 1 := xsub_g rfl rfl (by omega) (by omega)
  have f1 : ((B - (1 : Int32)) - (0 : Int32)).toInt = (B - (1 : Int32)).toInt - 0 := xsub_g rfl rfl (by omega) (by omega)
  refine xRun.of ?_
  refine i_183_0 ?_
  refine i_183_1 (lv2 := [(2, Value.int 0), (0, Value.ref 129), (1, Value.int (B - (1 : Int32)))]) rfl ?_
  refine i_183_2 (x := 0) rfl ?_
  refine i_183_3 (x := 129) rfl ?_
  refine i_183_4 (v := Value.int 1) hv rfl ?_
  refine i_183_7 (fun h => absurd h (by decide)) (fun _ => ?_)
  refine i_183_10 ?_
  refine i_183_12 (x := 0) rfl ?_
  refine i_183_13 (c := 0) (by decide) ?_
  refine i_183_14 (x := (B - (1 : Int32))) rfl ?_
  refine i_183_15 (fun h => absurd (show 0 < (B - (1 : Int32)).toInt by omega) (Int.not_lt.mpr h)) (fun _ => ?_)
  refine i_183_18 (x := (B - (1 : Int32))) rfl ?_
  refine i_183_19 ?_
  refine i_183_21 (x := 0) rfl ?_
  refine i_183_22 (c := 0) (by decide) ?_
  refine i_183_23 (c := G) (show ((B - (1 : Int32)) - (0 : Int32)) = G from (xge_i (by omega))) ?_
  refine i_183_24 (lv2 := [(3, Value.int G), (2, Value.int 0), (0, Value.ref 129), (1, Value.int (B - (1 : Int32)))]) rfl ?_
  refine i_183_25 (x := G) rfl ?_
  refine i_183_26 ?_
  refine i_183_28 (fun _ => ?_) (fun h => absurd (show G.toInt < 30 by omega) (Int.not_lt.mpr h))
  refine i_183_43 (x := 129) rfl ?_
  refine i_183_44 (v := Value.ref 130) hv rfl ?_
  refine i_183_47 (x := 0) rfl ?_
  refine i_183_48 (v := Value.int (xq m)) hvw (by decide) (by decide) hg0 ?_
  refine i_183_49 ?_
  refine i_183_50 (x := G) rfl ?_
  refine i_183_51 (c := ((1 : Int32) <<< (G &&& 31))) rfl ?_
  refine i_183_52 ?_
  refine i_183_53 (c := (((1 : Int32) <<< (G &&& 31)) - (1 : Int32))) rfl ?_
  refine i_183_54 (c := (xmk (xq m) G)) rfl ?_
  refine i_183_55 (fun _ => ?_) (fun h => absurd (show (xmk (xq m) G).toInt = 0 by omega) h)
  refine i_183_60 (x := 0) (c := 1) (lv2 := [(2, Value.int 1), (3, Value.int G), (0, Value.ref 129), (1, Value.int (B - (1 : Int32)))]) rfl (by decide) rfl ?_
  refine i_183_63 ?_
  refine i_183_2 (x := 1) rfl ?_
  refine i_183_3 (x := 129) rfl ?_
  refine i_183_4 (v := Value.int 1) hv rfl ?_
  refine i_183_7 (fun _ => ?_) (fun h => absurd h (by decide))
  refine i_183_66 ?_
  exact i_183_67 rfl ⟨rfl, rfl⟩
theorem any0_1 {d : Nat} {xs : Nat → Int32} {m : Int64} {sc md : Int32} {w : xW} {g : Nat → Value} {B K P G : Int32} (hB : B.toInt = (xbl (xul m) : Int)) (hv : w[129]? = some (Sum.inr (13, [Value.ref 130, Value.int 1]))) (hvw : w[130]? = some (Sum.inl (0, 4700, g))) (hg0 : g (0 : Int32).toInt.toNat = Value.int (xq m)) (c0 : 0 ≤ (xs 1).toInt) (c1 : (xs 1).toInt < 16) (c2 : (-40000) ≤ sc.toInt) (c3 : sc.toInt ≤ 40000) (c4 : 0 ≤ md.toInt) (c5 : md.toInt ≤ 4) (c6 : K.toInt = 64 - B.toInt) (c7 : 1 ≤ B.toInt) (c8 : B.toInt ≤ 4) (c9 : (xhi m).toInt = 0) (c10 : (xlo m).toInt ≠ 0) (c11 : (xnlz (xlo m)).toInt = 32 - B.toInt) (c12 : (xbf 1 (xlo m) (0 : Int32) ((32 : Int32) - K)).toInt ≠ 0) (c13 : (lg_cmp m (0 : Int64)).toInt ≠ 0) (c14 : (lg_cmp (xqs m) (0 : Int64)).toInt = 0) (c15 : (xbn (xq m)).toInt = B.toInt) (c16 : (xq m).toInt ≠ 0) (c17 : 0 ≤ (xq m).toInt) (c18 : K.toInt ≠ 0) (c19 : K / (30 : Int32) = 2) (c20 : K - K / (30 : Int32) * (30 : Int32) = P) (c21 : ((0 : Int32) ||| (xH (xq m) P)).toInt = 0) (c22 : (xL (xq m) P).toInt ≠ 0) (c23 : 0 ≤ (xL (xq m) P).toInt) (c24 : (xbn (xL (xq m) P)).toInt = 4) (c25 : G.toInt = B.toInt - 1) (hp : xPW m) : xRun d 183 [Value.ref 129, Value.int (B - (1 : Int32))] w (.inl (some (Value.int 0))) w := by
  rcases xpowM1 (m := m) (K := K) (P := P) (G := G) hB (by unfold xR1; exact ⟨c7, c8, c9, c10, c11, c12, c13, c14, c15, c16, c17, c18, c19, c20, c21, c22, c23, c24, c25⟩) with ⟨c26, c27⟩ | ⟨c26, c27, c28⟩ | ⟨c26, c27, c28⟩
  · exact an1_0 (xs := xs) (sc := sc) (md := md) hv hvw hg0 c0 c1 c2 c3 c4 c5 c6 c7 c8 c9 c10 c11 c12 c13 c14 c15 c16 c17 c18 c19 c20 c21 c22 c23 c24 c25 c26
  · exact absurd hp c28
  · exact an1_2 (xs := xs) (sc := sc) (md := md) hv hvw hg0 c0 c1 c2 c3 c4 c5 c6 c7 c8 c9 c10 c11 c12 c13 c14 c15 c16 c17 c18 c19 c20 c21 c22 c23 c24 c25 c26 c27
theorem any1_1 {d : Nat} {xs : Nat → Int32} {m : Int64} {sc md : Int32} {w : xW} {g : Nat → Value} {B K P G : Int32} (hB : B.toInt = (xbl (xul m) : Int)) (hv : w[129]? = some (Sum.inr (13, [Value.ref 130, Value.int 1]))) (hvw : w[130]? = some (Sum.inl (0, 4700, g))) (hg0 : g (0 : Int32).toInt.toNat = Value.int (xq m)) (c0 : 0 ≤ (xs 1).toInt) (c1 : (xs 1).toInt < 16) (c2 : (-40000) ≤ sc.toInt) (c3 : sc.toInt ≤ 40000) (c4 : 0 ≤ md.toInt) (c5 : md.toInt ≤ 4) (c6 : K.toInt = 64 - B.toInt) (c7 : 1 ≤ B.toInt) (c8 : B.toInt ≤ 4) (c9 : (xhi m).toInt = 0) (c10 : (xlo m).toInt ≠ 0) (c11 : (xnlz (xlo m)).toInt = 32 - B.toInt) (c12 : (xbf 1 (xlo m) (0 : Int32) ((32 : Int32) - K)).toInt ≠ 0) (c13 : (lg_cmp m (0 : Int64)).toInt ≠ 0) (c14 : (lg_cmp (xqs m) (0 : Int64)).toInt = 0) (c15 : (xbn (xq m)).toInt = B.toInt) (c16 : (xq m).toInt ≠ 0) (c17 : 0 ≤ (xq m).toInt) (c18 : K.toInt ≠ 0) (c19 : K / (30 : Int32) = 2) (c20 : K - K / (30 : Int32) * (30 : Int32) = P) (c21 : ((0 : Int32) ||| (xH (xq m) P)).toInt = 0) (c22 : (xL (xq m) P).toInt ≠ 0) (c23 : 0 ≤ (xL (xq m) P).toInt) (c24 : (xbn (xL (xq m) P)).toInt = 4) (c25 : G.toInt = B.toInt - 1) (hp : ¬ xPW m) : xRun d 183 [Value.ref 129, Value.int (B - (1 : Int32))] w (.inl (some (Value.int 1))) w := by
  rcases xpowM1 (m := m) (K := K) (P := P) (G := G) hB (by unfold xR1; exact ⟨c7, c8, c9, c10, c11, c12, c13, c14, c15, c16, c17, c18, c19, c20, c21, c22, c23, c24, c25⟩) with ⟨c26, c27⟩ | ⟨c26, c27, c28⟩ | ⟨c26, c27, c28⟩
  · exact absurd c27 hp
  · exact an1_1 (xs := xs) (sc := sc) (md := md) hv hvw hg0 c0 c1 c2 c3 c4 c5 c6 c7 c8 c9 c10 c11 c12 c13 c14 c15 c16 c17 c18 c19 c20 c21 c22 c23 c24 c25 c26 c27
  · exact absurd c28 hp
theorem an2_0 {d : Nat} {xs : Nat → Int32} {m : Int64} {sc md : Int32} {w : xW} {g : Nat → Value} {B K P G : Int32} (hv : w[129]? = some (Sum.inr (13, [Value.ref 130, Value.int 1]))) (hvw : w[130]? = some (Sum.inl (0, 4700, g))) (hg0 : g (0 : Int32).toInt.toNat = Value.int (xq m)) (c0 : 0 ≤ (xs 1).toInt) (c1 : (xs 1).toInt < 16) (c2 : (-40000) ≤ sc.toInt) (c3 : sc.toInt ≤ 40000) (c4 : 0 ≤ md.toInt) (c5 : md.toInt ≤ 4) (c6 : K.toInt = 64 - B.toInt) (c7 : 5 ≤ B.toInt) (c8 : B.toInt ≤ 30) (c9 : (xhi m).toInt = 0) (c10 : (xlo m).toInt ≠ 0) (c11 : (xnlz (xlo m)).toInt = 32 - B.toInt) (c12 : (xbf 1 (xlo m) (0 : Int32) ((32 : Int32) - K)).toInt ≠ 0) (c13 : (lg_cmp m (0 : Int64)).toInt ≠ 0) (c14 : (lg_cmp (xqs m) (0 : Int64)).toInt = 0) (c15 : (xbn (xq m)).toInt = B.toInt) (c16 : (xq m).toInt ≠ 0) (c17 : 0 ≤ (xq m).toInt) (c18 : K.toInt ≠ 0) (c19 : K / (30 : Int32) = 1) (c20 : K - K / (30 : Int32) * (30 : Int32) = P) (c21 : ((0 : Int32) ||| (xH (xq m) P)).toInt ≠ 0) (c22 : 0 ≤ ((0 : Int32) ||| (xH (xq m) P)).toInt) (c23 : (xbn ((0 : Int32) ||| (xH (xq m) P))).toInt = 4) (c24 : G.toInt = B.toInt - 1) (c25 : (xmk (xq m) G).toInt ≠ 0) : xRun d 183 [Value.ref 129, Value.int (B - (1 : Int32))] w (.inl (some (Value.int 1))) w := by
  have f0 : (B - (1 : Int32)).toInt = B.toInt - 1 := xsub_g rfl rfl (by omega) (by omega)
  have f1 : ((B - (1 : Int32)) - (0 : Int32)).toInt = (B - (1 : Int32)).toInt - 0 := xsub_g rfl rfl (by omega) (by omega)
  refine xRun.of ?_
  refine i_183_0 ?_
  refine i_183_1 (lv2 := [(2, Value.int 0), (0, Value.ref 129), (1, Value.int (B - (1 : Int32)))]) rfl ?_
  refine i_183_2 (x := 0) rfl ?_
  refine i_183_3 (x := 129) rfl ?_
  refine i_183_4 (v := Value.int 1) hv rfl ?_
  refine i_183_7 (fun h => absurd h (by decide)) (fun _ => ?_)
  refine i_183_10 ?_
  refine i_183_12 (x := 0) rfl ?_
  refine i_183_13 (c := 0) (by decide) ?_
  refine i_183_14 (x := (B - (1 : Int32))) rfl ?_
  refine i_183_15 (fun h => absurd (show 0 < (B - (1 : Int32)).toInt by omega) (Int.not_lt.mpr h)) (fun _ => ?_)
  refine i_183_18 (x := (B - (1 : Int32))) rfl ?_
  refine i_183_19 ?_
  refine i_183_21 (x := 0) rfl ?_
  refine i_183_22 (c := 0) (by decide) ?_
  refine i_183_23 (c := G) (show ((B - (1 : Int32)) - (0 : Int32)) = G from (xge_i (by omega))) ?_
  refine i_183_24 (lv2 := [(3, Value.int G), (2, Value.int 0), (0, Value.ref 129), (1, Value.int (B - (1 : Int32)))]) rfl ?_
  refine i_183_25 (x := G) rfl ?_
  refine i_183_26 ?_
  refine i_183_28 (fun _ => ?_) (fun h => absurd (show G.toInt < 30 by omega) (Int.not_lt.mpr h))
  refine i_183_43 (x := 129) rfl ?_
  refine i_183_44 (v := Value.ref 130) hv rfl ?_
  refine i_183_47 (x := 0) rfl ?_
  refine i_183_48 (v := Value.int (xq m)) hvw (by decide) (by decide) hg0 ?_
  refine i_183_49 ?_
  refine i_183_50 (x := G) rfl ?_
  refine i_183_51 (c := ((1 : Int32) <<< (G &&& 31))) rfl ?_
  refine i_183_52 ?_
  refine i_183_53 (c := (((1 : Int32) <<< (G &&& 31)) - (1 : Int32))) rfl ?_
  refine i_183_54 (c := (xmk (xq m) G)) rfl ?_
  refine i_183_55 (fun h => absurd (show (xmk (xq m) G).toInt ≠ 0 by omega) (fun g => g h)) (fun _ => ?_)
  refine i_183_58 ?_
  exact i_183_59 rfl ⟨rfl, rfl⟩
theorem an2_1 {d : Nat} {xs : Nat → Int32} {m : Int64} {sc md : Int32} {w : xW} {g : Nat → Value} {B K P G : Int32} (hv : w[129]? = some (Sum.inr (13, [Value.ref 130, Value.int 1]))) (hvw : w[130]? = some (Sum.inl (0, 4700, g))) (hg0 : g (0 : Int32).toInt.toNat = Value.int (xq m)) (c0 : 0 ≤ (xs 1).toInt) (c1 : (xs 1).toInt < 16) (c2 : (-40000) ≤ sc.toInt) (c3 : sc.toInt ≤ 40000) (c4 : 0 ≤ md.toInt) (c5 : md.toInt ≤ 4) (c6 : K.toInt = 64 - B.toInt) (c7 : 5 ≤ B.toInt) (c8 : B.toInt ≤ 30) (c9 : (xhi m).toInt = 0) (c10 : (xlo m).toInt ≠ 0) (c11 : (xnlz (xlo m)).toInt = 32 - B.toInt) (c12 : (xbf 1 (xlo m) (0 : Int32) ((32 : Int32) - K)).toInt ≠ 0) (c13 : (lg_cmp m (0 : Int64)).toInt ≠ 0) (c14 : (lg_cmp (xqs m) (0 : Int64)).toInt = 0) (c15 : (xbn (xq m)).toInt = B.toInt) (c16 : (xq m).toInt ≠ 0) (c17 : 0 ≤ (xq m).toInt) (c18 : K.toInt ≠ 0) (c19 : K / (30 : Int32) = 1) (c20 : K - K / (30 : Int32) * (30 : Int32) = P) (c21 : ((0 : Int32) ||| (xH (xq m) P)).toInt ≠ 0) (c22 : 0 ≤ ((0 : Int32) ||| (xH (xq m) P)).toInt) (c23 : (xbn ((0 : Int32) ||| (xH (xq m) P))).toInt = 4) (c24 : G.toInt = B.toInt - 1) (c25 : (xmk (xq m) G).toInt = 0) : xRun d 183 [Value.ref 129, Value.int (B - (1 : Int32))] w (.inl (some (Value.int 0))) w := by
  have f0 : (B - (1 : Int32)).toInt = B.toInt - 1 := xsub_g rfl rfl (by omega) (by omega)
  have f1 : ((B - (1 : Int32)) - (0 : Int32)).toInt = (B - (1 : Int32)).toInt - 0 := xsub_g rfl rfl (by omega) (by omega)
  refine xRun.of ?_
  refine i_183_0 ?_
  refine i_183_1 (lv2 := [(2, Value.int 0), (0, Value.ref 129), (1, Value.int (B - (1 : Int32)))]) rfl ?_
  refine i_183_2 (x := 0) rfl ?_
  refine i_183_3 (x := 129) rfl ?_
  refine i_183_4 (v := Value.int 1) hv rfl ?_
  refine i_183_7 (fun h => absurd h (by decide)) (fun _ => ?_)
  refine i_183_10 ?_
  refine i_183_12 (x := 0) rfl ?_
  refine i_183_13 (c := 0) (by decide) ?_
  refine i_183_14 (x := (B - (1 : Int32))) rfl ?_
  refine i_183_15 (fun h => absurd (show 0 < (B - (1 : Int32)).toInt by omega) (Int.not_lt.mpr h)) (fun _ => ?_)
  refine i_183_18 (x := (B - (1 : Int32))) rfl ?_
  refine i_183_19 ?_
  refine i_183_21 (x := 0) rfl ?_
  refine i_183_22 (c := 0) (by decide) ?_
  refine i_183_23 (c := G) (show ((B - (1 : Int32)) - (0 : Int32)) = G from (xge_i (by omega))) ?_
  refine i_183_24 (lv2 := [(3, Value.int G), (2, Value.int 0), (0, Value.ref 129), (1, Value.int (B - (1 : Int32)))]) rfl ?_
  refine i_183_25 (x := G) rfl ?_
  refine i_183_26 ?_
  refine i_183_28 (fun _ => ?_) (fun h => absurd (show G.toInt < 30 by omega) (Int.not_lt.mpr h))
  refine i_183_43 (x := 129) rfl ?_
  refine i_183_44 (v := Value.ref 130) hv rfl ?_
  refine i_183_47 (x := 0) rfl ?_
  refine i_183_48 (v := Value.int (xq m)) hvw (by decide) (by decide) hg0 ?_
  refine i_183_49 ?_
  refine i_183_50 (x := G) rfl ?_
  refine i_183_51 (c := ((1 : Int32) <<< (G &&& 31))) rfl ?_
  refine i_183_52 ?_
  refine i_183_53 (c := (((1 : Int32) <<< (G &&& 31)) - (1 : Int32))) rfl ?_
  refine i_183_54 (c := (xmk (xq m) G)) rfl ?_
  refine i_183_55 (fun _ => ?_) (fun h => absurd (show (xmk (xq m) G).toInt = 0 by omega) h)
  refine i_183_60 (x := 0) (c := 1) (lv2 := [(2, Value.int 1), (3, Value.int G), (0, Value.ref 129), (1, Value.int (B - (1 : Int32)))]) rfl (by decide) rfl ?_
  refine i_183_63 ?_
  refine i_183_2 (x := 1) rfl ?_
  refine i_183_3 (x := 129) rfl ?_
  refine i_183_4 (v := Value.int 1) hv rfl ?_
  refine i_183_7 (fun _ => ?_) (fun h => absurd h (by decide))
  refine i_183_66 ?_
  exact i_183_67 rfl ⟨rfl, rfl⟩
theorem any0_2 {d : Nat} {xs : Nat → Int32} {m : Int64} {sc md : Int32} {w : xW} {g : Nat → Value} {B K P G : Int32} (hB : B.toInt = (xbl (xul m) : Int)) (hv : w[129]? = some (Sum.inr (13, [Value.ref 130, Value.int 1]))) (hvw : w[130]? = some (Sum.inl (0, 4700, g))) (hg0 : g (0 : Int32).toInt.toNat = Value.int (xq m)) (c0 : 0 ≤ (xs 1).toInt) (c1 : (xs 1).toInt < 16) (c2 : (-40000) ≤ sc.toInt) (c3 : sc.toInt ≤ 40000) (c4 : 0 ≤ md.toInt) (c5 : md.toInt ≤ 4) (c6 : K.toInt = 64 - B.toInt) (c7 : 5 ≤ B.toInt) (c8 : B.toInt ≤ 30) (c9 : (xhi m).toInt = 0) (c10 : (xlo m).toInt ≠ 0) (c11 : (xnlz (xlo m)).toInt = 32 - B.toInt) (c12 : (xbf 1 (xlo m) (0 : Int32) ((32 : Int32) - K)).toInt ≠ 0) (c13 : (lg_cmp m (0 : Int64)).toInt ≠ 0) (c14 : (lg_cmp (xqs m) (0 : Int64)).toInt = 0) (c15 : (xbn (xq m)).toInt = B.toInt) (c16 : (xq m).toInt ≠ 0) (c17 : 0 ≤ (xq m).toInt) (c18 : K.toInt ≠ 0) (c19 : K / (30 : Int32) = 1) (c20 : K - K / (30 : Int32) * (30 : Int32) = P) (c21 : ((0 : Int32) ||| (xH (xq m) P)).toInt ≠ 0) (c22 : 0 ≤ ((0 : Int32) ||| (xH (xq m) P)).toInt) (c23 : (xbn ((0 : Int32) ||| (xH (xq m) P))).toInt = 4) (c24 : G.toInt = B.toInt - 1) (hp : xPW m) : xRun d 183 [Value.ref 129, Value.int (B - (1 : Int32))] w (.inl (some (Value.int 0))) w := by
  rcases xpowM2 (m := m) (K := K) (P := P) (G := G) hB (by unfold xR2; exact ⟨c7, c8, c9, c10, c11, c12, c13, c14, c15, c16, c17, c18, c19, c20, c21, c22, c23, c24⟩) with ⟨c25, c26⟩ | ⟨c25, c26⟩
  · exact absurd hp c26
  · exact an2_1 (xs := xs) (sc := sc) (md := md) hv hvw hg0 c0 c1 c2 c3 c4 c5 c6 c7 c8 c9 c10 c11 c12 c13 c14 c15 c16 c17 c18 c19 c20 c21 c22 c23 c24 c25
theorem any1_2 {d : Nat} {xs : Nat → Int32} {m : Int64} {sc md : Int32} {w : xW} {g : Nat → Value} {B K P G : Int32} (hB : B.toInt = (xbl (xul m) : Int)) (hv : w[129]? = some (Sum.inr (13, [Value.ref 130, Value.int 1]))) (hvw : w[130]? = some (Sum.inl (0, 4700, g))) (hg0 : g (0 : Int32).toInt.toNat = Value.int (xq m)) (c0 : 0 ≤ (xs 1).toInt) (c1 : (xs 1).toInt < 16) (c2 : (-40000) ≤ sc.toInt) (c3 : sc.toInt ≤ 40000) (c4 : 0 ≤ md.toInt) (c5 : md.toInt ≤ 4) (c6 : K.toInt = 64 - B.toInt) (c7 : 5 ≤ B.toInt) (c8 : B.toInt ≤ 30) (c9 : (xhi m).toInt = 0) (c10 : (xlo m).toInt ≠ 0) (c11 : (xnlz (xlo m)).toInt = 32 - B.toInt) (c12 : (xbf 1 (xlo m) (0 : Int32) ((32 : Int32) - K)).toInt ≠ 0) (c13 : (lg_cmp m (0 : Int64)).toInt ≠ 0) (c14 : (lg_cmp (xqs m) (0 : Int64)).toInt = 0) (c15 : (xbn (xq m)).toInt = B.toInt) (c16 : (xq m).toInt ≠ 0) (c17 : 0 ≤ (xq m).toInt) (c18 : K.toInt ≠ 0) (c19 : K / (30 : Int32) = 1) (c20 : K - K / (30 : Int32) * (30 : Int32) = P) (c21 : ((0 : Int32) ||| (xH (xq m) P)).toInt ≠ 0) (c22 : 0 ≤ ((0 : Int32) ||| (xH (xq m) P)).toInt) (c23 : (xbn ((0 : Int32) ||| (xH (xq m) P))).toInt = 4) (c24 : G.toInt = B.toInt - 1) (hp : ¬ xPW m) : xRun d 183 [Value.ref 129, Value.int (B - (1 : Int32))] w (.inl (some (Value.int 1))) w := by
  rcases xpowM2 (m := m) (K := K) (P := P) (G := G) hB (by unfold xR2; exact ⟨c7, c8, c9, c10, c11, c12, c13, c14, c15, c16, c17, c18, c19, c20, c21, c22, c23, c24⟩) with ⟨c25, c26⟩ | ⟨c25, c26⟩
  · exact an2_0 (xs := xs) (sc := sc) (md := md) hv hvw hg0 c0 c1 c2 c3 c4 c5 c6 c7 c8 c9 c10 c11 c12 c13 c14 c15 c16 c17 c18 c19 c20 c21 c22 c23 c24 c25
  · exact absurd c26 hp
theorem an3_0 {d : Nat} {xs : Nat → Int32} {m : Int64} {sc md : Int32} {w : xW} {g : Nat → Value} {B K P G : Int32} (hv : w[129]? = some (Sum.inr (13, [Value.ref 130, Value.int 2]))) (hvw : w[130]? = some (Sum.inl (0, 4700, g))) (hg0 : g (0 : Int32).toInt.toNat = Value.int (xq m)) (hg1 : g (1 : Int32).toInt.toNat = Value.int (xq (xqs m))) (c0 : 0 ≤ (xs 1).toInt) (c1 : (xs 1).toInt < 16) (c2 : (-40000) ≤ sc.toInt) (c3 : sc.toInt ≤ 40000) (c4 : 0 ≤ md.toInt) (c5 : md.toInt ≤ 4) (c6 : K.toInt = 64 - B.toInt) (c7 : 31 ≤ B.toInt) (c8 : B.toInt ≤ 32) (c9 : (xhi m).toInt = 0) (c10 : (xlo m).toInt ≠ 0) (c11 : (xnlz (xlo m)).toInt = 32 - B.toInt) (c12 : (xbf 1 (xlo m) (0 : Int32) ((32 : Int32) - K)).toInt ≠ 0) (c13 : (lg_cmp m (0 : Int64)).toInt ≠ 0) (c14 : (lg_cmp (xqs m) (0 : Int64)).toInt ≠ 0) (c15 : (lg_cmp (xqs (xqs m)) (0 : Int64)).toInt = 0) (c16 : (xbn (xq (xqs m))).toInt = B.toInt - 30) (c17 : (xq (xqs m)).toInt ≠ 0) (c18 : 0 ≤ (xq (xqs m)).toInt) (c19 : K.toInt ≠ 0) (c20 : K / (30 : Int32) = 1) (c21 : K - K / (30 : Int32) * (30 : Int32) = P) (c22 : ((0 : Int32) ||| (xH (xq (xqs m)) P)).toInt = 0) (c23 : ((xL (xq (xqs m)) P) ||| (xH (xq m) P)).toInt ≠ 0) (c24 : 0 ≤ ((xL (xq (xqs m)) P) ||| (xH (xq m) P)).toInt) (c25 : (xbn ((xL (xq (xqs m)) P) ||| (xH (xq m) P))).toInt = 4) (c26 : G.toInt = B.toInt - 31) (c27 : (xq m).toInt ≠ 0) : xRun d 183 [Value.ref 129, Value.int (B - (1 : Int32))] w (.inl (some (Value.int 1))) w := by
  have f0 : (B - (1 : Int32)).toInt = B.toInt - 1 := xsub_g rfl rfl (by omega) (by omega)
  have f1 : ((B - (1 : Int32)) - (0 : Int32)).toInt = (B - (1 : Int32)).toInt - 0 := xsub_g rfl rfl (by omega) (by omega)
  refine xRun.of ?_
  refine i_183_0 ?_
  refine i_183_1 (lv2 := [(2, Value.int 0), (0, Value.ref 129), (1, Value.int (B - (1 : Int32)))]) rfl ?_
  refine i_183_2 (x := 0) rfl ?_
  refine i_183_3 (x := 129) rfl ?_
  refine i_183_4 (v := Value.int 2) hv rfl ?_
  refine i_183_7 (fun h => absurd h (by decide)) (fun _ => ?_)
  refine i_183_10 ?_
  refine i_183_12 (x := 0) rfl ?_
  refine i_183_13 (c := 0) (by decide) ?_
  refine i_183_14 (x := (B - (1 : Int32))) rfl ?_
  refine i_183_15 (fun h => absurd (show 0 < (B - (1 : Int32)).toInt by omega) (Int.not_lt.mpr h)) (fun _ => ?_)
  refine i_183_18 (x := (B - (1 : Int32))) rfl ?_
  refine i_183_19 ?_
  refine i_183_21 (x := 0) rfl ?_
  refine i_183_22 (c := 0) (by decide) ?_
  refine i_183_23 (c := ((B - (1 : Int32)) - (0 : Int32))) rfl ?_
  refine i_183_24 (lv2 := [(3, Value.int ((B - (1 : Int32)) - (0 : Int32))), (2, Value.int 0), (0, Value.ref 129), (1, Value.int (B - (1 : Int32)))]) rfl ?_
  refine i_183_25 (x := ((B - (1 : Int32)) - (0 : Int32))) rfl ?_
  refine i_183_26 ?_
  refine i_183_28 (fun h => absurd (show 30 ≤ ((B - (1 : Int32)) - (0 : Int32)).toInt by omega) (Int.not_le.mpr h)) (fun _ => ?_)
  refine i_183_31 (x := 129) rfl ?_
  refine i_183_32 (v := Value.ref 130) hv rfl ?_
  refine i_183_35 (x := 0) rfl ?_
  refine i_183_36 (v := Value.int (xq m)) hvw (by decide) (by decide) hg0 ?_
  refine i_183_37 (fun h => absurd (show (xq m).toInt ≠ 0 by omega) (fun g => g h)) (fun _ => ?_)
  refine i_183_40 ?_
  refine i_183_58 ?_
  exact i_183_59 rfl ⟨rfl, rfl⟩
theorem an3_1 {d : Nat} {xs : Nat → Int32} {m : Int64} {sc md : Int32} {w : xW} {g : Nat → Value} {B K P G : Int32} (hv : w[129]? = some (Sum.inr (13, [Value.ref 130, Value.int 2]))) (hvw : w[130]? = some (Sum.inl (0, 4700, g))) (hg0 : g (0 : Int32).toInt.toNat = Value.int (xq m)) (hg1 : g (1 : Int32).toInt.toNat = Value.int (xq (xqs m))) (c0 : 0 ≤ (xs 1).toInt) (c1 : (xs 1).toInt < 16) (c2 : (-40000) ≤ sc.toInt) (c3 : sc.toInt ≤ 40000) (c4 : 0 ≤ md.toInt) (c5 : md.toInt ≤ 4) (c6 : K.toInt = 64 - B.toInt) (c7 : 31 ≤ B.toInt) (c8 : B.toInt ≤ 32) (c9 : (xhi m).toInt = 0) (c10 : (xlo m).toInt ≠ 0) (c11 : (xnlz (xlo m)).toInt = 32 - B.toInt) (c12 : (xbf 1 (xlo m) (0 : Int32) ((32 : Int32) - K)).toInt ≠ 0) (c13 : (lg_cmp m (0 : Int64)).toInt ≠ 0) (c14 : (lg_cmp (xqs m) (0 : Int64)).toInt ≠ 0) (c15 : (lg_cmp (xqs (xqs m)) (0 : Int64)).toInt = 0) (c16 : (xbn (xq (xqs m))).toInt = B.toInt - 30) (c17 : (xq (xqs m)).toInt ≠ 0) (c18 : 0 ≤ (xq (xqs m)).toInt) (c19 : K.toInt ≠ 0) (c20 : K / (30 : Int32) = 1) (c21 : K - K / (30 : Int32) * (30 : Int32) = P) (c22 : ((0 : Int32) ||| (xH (xq (xqs m)) P)).toInt = 0) (c23 : ((xL (xq (xqs m)) P) ||| (xH (xq m) P)).toInt ≠ 0) (c24 : 0 ≤ ((xL (xq (xqs m)) P) ||| (xH (xq m) P)).toInt) (c25 : (xbn ((xL (xq (xqs m)) P) ||| (xH (xq m) P))).toInt = 4) (c26 : G.toInt = B.toInt - 31) (c27 : (xq m).toInt = 0) (c28 : B.toInt = 31) : xRun d 183 [Value.ref 129, Value.int (B - (1 : Int32))] w (.inl (some (Value.int 0))) w := by
  have f0 : (B - (1 : Int32)).toInt = B.toInt - 1 := xsub_g rfl rfl (by omega) (by omega)
  have f1 : ((B - (1 : Int32)) - (0 : Int32)).toInt = (B - (1 : Int32)).toInt - 0 := xsub_g rfl rfl (by omega) (by omega)
  refine xRun.of ?_
  refine i_183_0 ?_
  refine i_183_1 (lv2 := [(2, Value.int 0), (0, Value.ref 129), (1, Value.int (B - (1 : Int32)))]) rfl ?_
  refine i_183_2 (x := 0) rfl ?_
  refine i_183_3 (x := 129) rfl ?_
  refine i_183_4 (v := Value.int 2) hv rfl ?_
  refine i_183_7 (fun h => absurd h (by decide)) (fun _ => ?_)
  refine i_183_10 ?_
  refine i_183_12 (x := 0) rfl ?_
  refine i_183_13 (c := 0) (by decide) ?_
  refine i_183_14 (x := (B - (1 : Int32))) rfl ?_
  refine i_183_15 (fun h => absurd (show 0 < (B - (1 : Int32)).toInt by omega) (Int.not_lt.mpr h)) (fun _ => ?_)
  refine i_183_18 (x := (B - (1 : Int32))) rfl ?_
  refine i_183_19 ?_
  refine i_183_21 (x := 0) rfl ?_
  refine i_183_22 (c := 0) (by decide) ?_
  refine i_183_23 (c := ((B - (1 : Int32)) - (0 : Int32))) rfl ?_
  refine i_183_24 (lv2 := [(3, Value.int ((B - (1 : Int32)) - (0 : Int32))), (2, Value.int 0), (0, Value.ref 129), (1, Value.int (B - (1 : Int32)))]) rfl ?_
  refine i_183_25 (x := ((B - (1 : Int32)) - (0 : Int32))) rfl ?_
  refine i_183_26 ?_
  refine i_183_28 (fun h => absurd (show 30 ≤ ((B - (1 : Int32)) - (0 : Int32)).toInt by omega) (Int.not_le.mpr h)) (fun _ => ?_)
  refine i_183_31 (x := 129) rfl ?_
  refine i_183_32 (v := Value.ref 130) hv rfl ?_
  refine i_183_35 (x := 0) rfl ?_
  refine i_183_36 (v := Value.int (xq m)) hvw (by decide) (by decide) hg0 ?_
  refine i_183_37 (fun _ => ?_) (fun h => absurd (show (xq m).toInt = 0 by omega) h)
  refine i_183_60 (x := 0) (c := 1) (lv2 := [(2, Value.int 1), (3, Value.int ((B - (1 : Int32)) - (0 : Int32))), (0, Value.ref 129), (1, Value.int (B - (1 : Int32)))]) rfl (by decide) rfl ?_
  refine i_183_63 ?_
  refine i_183_2 (x := 1) rfl ?_
  refine i_183_3 (x := 129) rfl ?_
  refine i_183_4 (v := Value.int 2) hv rfl ?_
  refine i_183_7 (fun h => absurd h (by decide)) (fun _ => ?_)
  refine i_183_10 ?_
  refine i_183_12 (x := 1) rfl ?_
  refine i_183_13 (c := 30) (by decide) ?_
  refine i_183_14 (x := (B - (1 : Int32))) rfl ?_
  refine i_183_15 (fun _ => ?_) (fun h => absurd (show (B - (1 : Int32)).toInt ≤ 30 by omega) (Int.not_le.mpr h))
  refine i_183_66 ?_
  exact i_183_67 rfl ⟨rfl, rfl⟩
theorem an3_2 {d : Nat} {xs : Nat → Int32} {m : Int64} {sc md : Int32} {w : xW} {g : Nat → Value} {B K P G : Int32} (hv : w[129]? = some (Sum.inr (13, [Value.ref 130, Value.int 2]))) (hvw : w[130]? = some (Sum.inl (0, 4700, g))) (hg0 : g (0 : Int32).toInt.toNat = Value.int (xq m)) (hg1 : g (1 : Int32).toInt.toNat = Value.int (xq (xqs m))) (c0 : 0 ≤ (xs 1).toInt) (c1 : (xs 1).toInt < 16) (c2 : (-40000) ≤ sc.toInt) (c3 : sc.toInt ≤ 40000) (c4 : 0 ≤ md.toInt) (c5 : md.toInt ≤ 4) (c6 : K.toInt = 64 - B.toInt) (c7 : 31 ≤ B.toInt) (c8 : B.toInt ≤ 32) (c9 : (xhi m).toInt = 0) (c10 : (xlo m).toInt ≠ 0) (c11 : (xnlz (xlo m)).toInt = 32 - B.toInt) (c12 : (xbf 1 (xlo m) (0 : Int32) ((32 : Int32) - K)).toInt ≠ 0) (c13 : (lg_cmp m (0 : Int64)).toInt ≠ 0) (c14 : (lg_cmp (xqs m) (0 : Int64)).toInt ≠ 0) (c15 : (lg_cmp (xqs (xqs m)) (0 : Int64)).toInt = 0) (c16 : (xbn (xq (xqs m))).toInt = B.toInt - 30) (c17 : (xq (xqs m)).toInt ≠ 0) (c18 : 0 ≤ (xq (xqs m)).toInt) (c19 : K.toInt ≠ 0) (c20 : K / (30 : Int32) = 1) (c21 : K - K / (30 : Int32) * (30 : Int32) = P) (c22 : ((0 : Int32) ||| (xH (xq (xqs m)) P)).toInt = 0) (c23 : ((xL (xq (xqs m)) P) ||| (xH (xq m) P)).toInt ≠ 0) (c24 : 0 ≤ ((xL (xq (xqs m)) P) ||| (xH (xq m) P)).toInt) (c25 : (xbn ((xL (xq (xqs m)) P) ||| (xH (xq m) P))).toInt = 4) (c26 : G.toInt = B.toInt - 31) (c27 : (xq m).toInt = 0) (c28 : B.toInt ≠ 31) (c29 : (xmk (xq (xqs m)) G).toInt ≠ 0) : xRun d 183 [Value.ref 129, Value.int (B - (1 : Int32))] w (.inl (some (Value.int 1))) w := by
  have f0 : (B - (1 : Int32)).toInt = B.toInt - 1 := xsub_g rfl rfl (by omega) (by omega)
  have f1 : ((B - (1 : Int32)) - (0 : Int32)).toInt = (B - (1 : Int32)).toInt - 0 := xsub_g rfl rfl (by omega) (by omega)
  have f2 : ((B - (1 : Int32)) - (30 : Int32)).toInt = (B - (1 : Int32)).toInt - 30 := xsub_g rfl rfl (by omega) (by omega)
  refine xRun.of ?_
  refine i_183_0 ?_
  refine i_183_1 (lv2 := [(2, Value.int 0), (0, Value.ref 129), (1, Value.int (B - (1 : Int32)))]) rfl ?_
  refine i_183_2 (x := 0) rfl ?_
  refine i_183_3 (x := 129) rfl ?_
  refine i_183_4 (v := Value.int 2) hv rfl ?_
  refine i_183_7 (fun h => absurd h (by decide)) (fun _ => ?_)
  refine i_183_10 ?_
  refine i_183_12 (x := 0) rfl ?_
  refine i_183_13 (c := 0) (by decide) ?_
  refine i_183_14 (x := (B - (1 : Int32))) rfl ?_
  refine i_183_15 (fun h => absurd (show 0 < (B - (1 : Int32)).toInt by omega) (Int.not_lt.mpr h)) (fun _ => ?_)
  refine i_183_18 (x := (B - (1 : Int32))) rfl ?_
  refine i_183_19 ?_
  refine i_183_21 (x := 0) rfl ?_
  refine i_183_22 (c := 0) (by decide) ?_
  refine i_183_23 (c := ((B - (1 : Int32)) - (0 : Int32))) rfl ?_
  refine i_183_24 (lv2 := [(3, Value.int ((B - (1 : Int32)) - (0 : Int32))), (2, Value.int 0), (0, Value.ref 129), (1, Value.int (B - (1 : Int32)))]) rfl ?_
  refine i_183_25 (x := ((B - (1 : Int32)) - (0 : Int32))) rfl ?_
  refine i_183_26 ?_
  refine i_183_28 (fun h => absurd (show 30 ≤ ((B - (1 : Int32)) - (0 : Int32)).toInt by omega) (Int.not_le.mpr h)) (fun _ => ?_)
  refine i_183_31 (x := 129) rfl ?_
  refine i_183_32 (v := Value.ref 130) hv rfl ?_
  refine i_183_35 (x := 0) rfl ?_
  refine i_183_36 (v := Value.int (xq m)) hvw (by decide) (by decide) hg0 ?_
  refine i_183_37 (fun _ => ?_) (fun h => absurd (show (xq m).toInt = 0 by omega) h)
  refine i_183_60 (x := 0) (c := 1) (lv2 := [(2, Value.int 1), (3, Value.int ((B - (1 : Int32)) - (0 : Int32))), (0, Value.ref 129), (1, Value.int (B - (1 : Int32)))]) rfl (by decide) rfl ?_
  refine i_183_63 ?_
  refine i_183_2 (x := 1) rfl ?_
  refine i_183_3 (x := 129) rfl ?_
  refine i_183_4 (v := Value.int 2) hv rfl ?_
  refine i_183_7 (fun h => absurd h (by decide)) (fun _ => ?_)
  refine i_183_10 ?_
  refine i_183_12 (x := 1) rfl ?_
  refine i_183_13 (c := 30) (by decide) ?_
  refine i_183_14 (x := (B - (1 : Int32))) rfl ?_
  refine i_183_15 (fun h => absurd (show 30 < (B - (1 : Int32)).toInt by omega) (Int.not_lt.mpr h)) (fun _ => ?_)
  refine i_183_18 (x := (B - (1 : Int32))) rfl ?_
  refine i_183_19 ?_
  refine i_183_21 (x := 1) rfl ?_
  refine i_183_22 (c := 30) (by decide) ?_
  refine i_183_23 (c := G) (show ((B - (1 : Int32)) - (30 : Int32)) = G from (xge_i (by omega))) ?_
  refine i_183_24 (lv2 := [(3, Value.int G), (2, Value.int 1), (0, Value.ref 129), (1, Value.int (B - (1 : Int32)))]) rfl ?_
  refine i_183_25 (x := G) rfl ?_
  refine i_183_26 ?_
  refine i_183_28 (fun _ => ?_) (fun h => absurd (show G.toInt < 30 by omega) (Int.not_lt.mpr h))
  refine i_183_43 (x := 129) rfl ?_
  refine i_183_44 (v := Value.ref 130) hv rfl ?_
  refine i_183_47 (x := 1) rfl ?_
  refine i_183_48 (v := Value.int (xq (xqs m))) hvw (by decide) (by decide) hg1 ?_
  refine i_183_49 ?_
  refine i_183_50 (x := G) rfl ?_
  refine i_183_51 (c := ((1 : Int32) <<< (G &&& 31))) rfl ?_
  refine i_183_52 ?_
  refine i_183_53 (c := (((1 : Int32) <<< (G &&& 31)) - (1 : Int32))) rfl ?_
  refine i_183_54 (c := (xmk (xq (xqs m)) G)) rfl ?_
  refine i_183_55 (fun h => absurd (show (xmk (xq (xqs m)) G).toInt ≠ 0 by omega) (fun g => g h)) (fun _ => ?_)
  refine i_183_58 ?_
  exact i_183_59 rfl ⟨rfl, rfl⟩
theorem an3_3 {d : Nat} {xs : Nat → Int32} {m : Int64} {sc md : Int32} {w : xW} {g : Nat → Value} {B K P G : Int32} (hv : w[129]? = some (Sum.inr (13, [Value.ref 130, Value.int 2]))) (hvw : w[130]? = some (Sum.inl (0, 4700, g))) (hg0 : g (0 : Int32).toInt.toNat = Value.int (xq m)) (hg1 : g (1 : Int32).toInt.toNat = Value.int (xq (xqs m))) (c0 : 0 ≤ (xs 1).toInt) (c1 : (xs 1).toInt < 16) (c2 : (-40000) ≤ sc.toInt) (c3 : sc.toInt ≤ 40000) (c4 : 0 ≤ md.toInt) (c5 : md.toInt ≤ 4) (c6 : K.toInt = 64 - B.toInt) (c7 : 31 ≤ B.toInt) (c8 : B.toInt ≤ 32) (c9 : (xhi m).toInt = 0) (c10 : (xlo m).toInt ≠ 0) (c11 : (xnlz (xlo m)).toInt = 32 - B.toInt) (c12 : (xbf 1 (xlo m) (0 : Int32) ((32 : Int32) - K)).toInt ≠ 0) (c13 : (lg_cmp m (0 : Int64)).toInt ≠ 0) (c14 : (lg_cmp (xqs m) (0 : Int64)).toInt ≠ 0) (c15 : (lg_cmp (xqs (xqs m)) (0 : Int64)).toInt = 0) (c16 : (xbn (xq (xqs m))).toInt = B.toInt - 30) (c17 : (xq (xqs m)).toInt ≠ 0) (c18 : 0 ≤ (xq (xqs m)).toInt) (c19 : K.toInt ≠ 0) (c20 : K / (30 : Int32) = 1) (c21 : K - K / (30 : Int32) * (30 : Int32) = P) (c22 : ((0 : Int32) ||| (xH (xq (xqs m)) P)).toInt = 0) (c23 : ((xL (xq (xqs m)) P) ||| (xH (xq m) P)).toInt ≠ 0) (c24 : 0 ≤ ((xL (xq (xqs m)) P) ||| (xH (xq m) P)).toInt) (c25 : (xbn ((xL (xq (xqs m)) P) ||| (xH (xq m) P))).toInt = 4) (c26 : G.toInt = B.toInt - 31) (c27 : (xq m).toInt = 0) (c28 : B.toInt ≠ 31) (c29 : (xmk (xq (xqs m)) G).toInt = 0) : xRun d 183 [Value.ref 129, Value.int (B - (1 : Int32))] w (.inl (some (Value.int 0))) w := by
  have f0 : (B - (1 : Int32)).toInt = B.toInt - 1 := xsub_g rfl rfl (by omega) (by omega)
  have f1 : ((B - (1 : Int32)) - (0 : Int32)).toInt = (B - (1 : Int32)).toInt - 0 := xsub_g rfl rfl (by omega) (by omega)
  have f2 : ((B - (1 : Int32)) - (30 : Int32)).toInt = (B - (1 : Int32)).toInt - 30 := xsub_g rfl rfl (by omega) (by omega)
  refine xRun.of ?_
  refine i_183_0 ?_
  refine i_183_1 (lv2 := [(2, Value.int 0), (0, Value.ref 129), (1, Value.int (B - (1 : Int32)))]) rfl ?_
  refine i_183_2 (x := 0) rfl ?_
  refine i_183_3 (x := 129) rfl ?_
  refine i_183_4 (v := Value.int 2) hv rfl ?_
  refine i_183_7 (fun h => absurd h (by decide)) (fun _ => ?_)
  refine i_183_10 ?_
  refine i_183_12 (x := 0) rfl ?_
  refine i_183_13 (c := 0) (by decide) ?_
  refine i_183_14 (x := (B - (1 : Int32))) rfl ?_
  refine i_183_15 (fun h => absurd (show 0 < (B - (1 : Int32)).toInt by omega) (Int.not_lt.mpr h)) (fun _ => ?_)
  refine i_183_18 (x := (B - (1 : Int32))) rfl ?_
  refine i_183_19 ?_
  refine i_183_21 (x := 0) rfl ?_
  refine i_183_22 (c := 0) (by decide) ?_
  refine i_183_23 (c := ((B - (1 : Int32)) - (0 : Int32))) rfl ?_
  refine i_183_24 (lv2 := [(3, Value.int ((B - (1 : Int32)) - (0 : Int32))), (2, Value.int 0), (0, Value.ref 129), (1, Value.int (B - (1 : Int32)))]) rfl ?_
  refine i_183_25 (x := ((B - (1 : Int32)) - (0 : Int32))) rfl ?_
  refine i_183_26 ?_
  refine i_183_28 (fun h => absurd (show 30 ≤ ((B - (1 : Int32)) - (0 : Int32)).toInt by omega) (Int.not_le.mpr h)) (fun _ => ?_)
  refine i_183_31 (x := 129) rfl ?_
  refine i_183_32 (v := Value.ref 130) hv rfl ?_
  refine i_183_35 (x := 0) rfl ?_
  refine i_183_36 (v := Value.int (xq m)) hvw (by decide) (by decide) hg0 ?_
  refine i_183_37 (fun _ => ?_) (fun h => absurd (show (xq m).toInt = 0 by omega) h)
  refine i_183_60 (x := 0) (c := 1) (lv2 := [(2, Value.int 1), (3, Value.int ((B - (1 : Int32)) - (0 : Int32))), (0, Value.ref 129), (1, Value.int (B - (1 : Int32)))]) rfl (by decide) rfl ?_
  refine i_183_63 ?_
  refine i_183_2 (x := 1) rfl ?_
  refine i_183_3 (x := 129) rfl ?_
  refine i_183_4 (v := Value.int 2) hv rfl ?_
  refine i_183_7 (fun h => absurd h (by decide)) (fun _ => ?_)
  refine i_183_10 ?_
  refine i_183_12 (x := 1) rfl ?_
  refine i_183_13 (c := 30) (by decide) ?_
  refine i_183_14 (x := (B - (1 : Int32))) rfl ?_
  refine i_183_15 (fun h => absurd (show 30 < (B - (1 : Int32)).toInt by omega) (Int.not_lt.mpr h)) (fun _ => ?_)
  refine i_183_18 (x := (B - (1 : Int32))) rfl ?_
  refine i_183_19 ?_
  refine i_183_21 (x := 1) rfl ?_
  refine i_183_22 (c := 30) (by decide) ?_
  refine i_183_23 (c := G) (show ((B - (1 : Int32)) - (30 : Int32)) = G from (xge_i (by omega))) ?_
  refine i_183_24 (lv2 := [(3, Value.int G), (2, Value.int 1), (0, Value.ref 129), (1, Value.int (B - (1 : Int32)))]) rfl ?_
  refine i_183_25 (x := G) rfl ?_
  refine i_183_26 ?_
  refine i_183_28 (fun _ => ?_) (fun h => absurd (show G.toInt < 30 by omega) (Int.not_lt.mpr h))
  refine i_183_43 (x := 129) rfl ?_
  refine i_183_44 (v := Value.ref 130) hv rfl ?_
  refine i_183_47 (x := 1) rfl ?_
  refine i_183_48 (v := Value.int (xq (xqs m))) hvw (by decide) (by decide) hg1 ?_
  refine i_183_49 ?_
  refine i_183_50 (x := G) rfl ?_
  refine i_183_51 (c := ((1 : Int32) <<< (G &&& 31))) rfl ?_
  refine i_183_52 ?_
  refine i_183_53 (c := (((1 : Int32) <<< (G &&& 31)) - (1 : Int32))) rfl ?_
  refine i_183_54 (c := (xmk (xq (xqs m)) G)) rfl ?_
  refine i_183_55 (fun _ => ?_) (fun h => absurd (show (xmk (xq (xqs m)) G).toInt = 0 by omega) h)
  refine i_183_60 (x := 1) (c := 2) (lv2 := [(2, Value.int 2), (3, Value.int G), (0, Value.ref 129), (1, Value.int (B - (1 : Int32)))]) rfl (by decide) rfl ?_
  refine i_183_63 ?_
  refine i_183_2 (x := 2) rfl ?_
  refine i_183_3 (x := 129) rfl ?_
  refine i_183_4 (v := Value.int 2) hv rfl ?_
  refine i_183_7 (fun _ => ?_) (fun h => absurd h (by decide))
  refine i_183_66 ?_
  exact i_183_67 rfl ⟨rfl, rfl⟩
theorem any0_3 {d : Nat} {xs : Nat → Int32} {m : Int64} {sc md : Int32} {w : xW} {g : Nat → Value} {B K P G : Int32} (hB : B.toInt = (xbl (xul m) : Int)) (hv : w[129]? = some (Sum.inr (13, [Value.ref 130, Value.int 2]))) (hvw : w[130]? = some (Sum.inl (0, 4700, g))) (hg0 : g (0 : Int32).toInt.toNat = Value.int (xq m)) (hg1 : g (1 : Int32).toInt.toNat = Value.int (xq (xqs m))) (c0 : 0 ≤ (xs 1).toInt) (c1 : (xs 1).toInt < 16) (c2 : (-40000) ≤ sc.toInt) (c3 : sc.toInt ≤ 40000) (c4 : 0 ≤ md.toInt) (c5 : md.toInt ≤ 4) (c6 : K.toInt = 64 - B.toInt) (c7 : 31 ≤ B.toInt) (c8 : B.toInt ≤ 32) (c9 : (xhi m).toInt = 0) (c10 : (xlo m).toInt ≠ 0) (c11 : (xnlz (xlo m)).toInt = 32 - B.toInt) (c12 : (xbf 1 (xlo m) (0 : Int32) ((32 : Int32) - K)).toInt ≠ 0) (c13 : (lg_cmp m (0 : Int64)).toInt ≠ 0) (c14 : (lg_cmp (xqs m) (0 : Int64)).toInt ≠ 0) (c15 : (lg_cmp (xqs (xqs m)) (0 : Int64)).toInt = 0) (c16 : (xbn (xq (xqs m))).toInt = B.toInt - 30) (c17 : (xq (xqs m)).toInt ≠ 0) (c18 : 0 ≤ (xq (xqs m)).toInt) (c19 : K.toInt ≠ 0) (c20 : K / (30 : Int32) = 1) (c21 : K - K / (30 : Int32) * (30 : Int32) = P) (c22 : ((0 : Int32) ||| (xH (xq (xqs m)) P)).toInt = 0) (c23 : ((xL (xq (xqs m)) P) ||| (xH (xq m) P)).toInt ≠ 0) (c24 : 0 ≤ ((xL (xq (xqs m)) P) ||| (xH (xq m) P)).toInt) (c25 : (xbn ((xL (xq (xqs m)) P) ||| (xH (xq m) P))).toInt = 4) (c26 : G.toInt = B.toInt - 31) (hp : xPW m) : xRun d 183 [Value.ref 129, Value.int (B - (1 : Int32))] w (.inl (some (Value.int 0))) w := by
  rcases xpowM3 (m := m) (K := K) (P := P) (G := G) hB (by unfold xR3; exact ⟨c7, c8, c9, c10, c11, c12, c13, c14, c15, c16, c17, c18, c19, c20, c21, c22, c23, c24, c25, c26⟩) with ⟨c27, c28⟩ | ⟨c27, c28, c29⟩ | ⟨c27, c28, c29, c30⟩ | ⟨c27, c28, c29, c30⟩
  · exact absurd hp c28
  · exact an3_1 (xs := xs) (sc := sc) (md := md) hv hvw hg0 hg1 c0 c1 c2 c3 c4 c5 c6 c7 c8 c9 c10 c11 c12 c13 c14 c15 c16 c17 c18 c19 c20 c21 c22 c23 c24 c25 c26 c27 c28
  · exact absurd hp c30
  · exact an3_3 (xs := xs) (sc := sc) (md := md) hv hvw hg0 hg1 c0 c1 c2 c3 c4 c5 c6 c7 c8 c9 c10 c11 c12 c13 c14 c15 c16 c17 c18 c19 c20 c21 c22 c23 c24 c25 c26 c27 c28 c29
theorem any1_3 {d : Nat} {xs : Nat → Int32} {m : Int64} {sc md : Int32} {w : xW} {g : Nat → Value} {B K P G : Int32} (hB : B.toInt = (xbl (xul m) : Int)) (hv : w[129]? = some (Sum.inr (13, [Value.ref 130, Value.int 2]))) (hvw : w[130]? = some (Sum.inl (0, 4700, g))) (hg0 : g (0 : Int32).toInt.toNat = Value.int (xq m)) (hg1 : g (1 : Int32).toInt.toNat = Value.int (xq (xqs m))) (c0 : 0 ≤ (xs 1).toInt) (c1 : (xs 1).toInt < 16) (c2 : (-40000) ≤ sc.toInt) (c3 : sc.toInt ≤ 40000) (c4 : 0 ≤ md.toInt) (c5 : md.toInt ≤ 4) (c6 : K.toInt = 64 - B.toInt) (c7 : 31 ≤ B.toInt) (c8 : B.toInt ≤ 32) (c9 : (xhi m).toInt = 0) (c10 : (xlo m).toInt ≠ 0) (c11 : (xnlz (xlo m)).toInt = 32 - B.toInt) (c12 : (xbf 1 (xlo m) (0 : Int32) ((32 : Int32) - K)).toInt ≠ 0) (c13 : (lg_cmp m (0 : Int64)).toInt ≠ 0) (c14 : (lg_cmp (xqs m) (0 : Int64)).toInt ≠ 0) (c15 : (lg_cmp (xqs (xqs m)) (0 : Int64)).toInt = 0) (c16 : (xbn (xq (xqs m))).toInt = B.toInt - 30) (c17 : (xq (xqs m)).toInt ≠ 0) (c18 : 0 ≤ (xq (xqs m)).toInt) (c19 : K.toInt ≠ 0) (c20 : K / (30 : Int32) = 1) (c21 : K - K / (30 : Int32) * (30 : Int32) = P) (c22 : ((0 : Int32) ||| (xH (xq (xqs m)) P)).toInt = 0) (c23 : ((xL (xq (xqs m)) P) ||| (xH (xq m) P)).toInt ≠ 0) (c24 : 0 ≤ ((xL (xq (xqs m)) P) ||| (xH (xq m) P)).toInt) (c25 : (xbn ((xL (xq (xqs m)) P) ||| (xH (xq m) P))).toInt = 4) (c26 : G.toInt = B.toInt - 31) (hp : ¬ xPW m) : xRun d 183 [Value.ref 129, Value.int (B - (1 : Int32))] w (.inl (some (Value.int 1))) w := by
  rcases xpowM3 (m := m) (K := K) (P := P) (G := G) hB (by unfold xR3; exact ⟨c7, c8, c9, c10, c11, c12, c13, c14, c15, c16, c17, c18, c19, c20, c21, c22, c23, c24, c25, c26⟩) with ⟨c27, c28⟩ | ⟨c27, c28, c29⟩ | ⟨c27, c28, c29, c30⟩ | ⟨c27, c28, c29, c30⟩
  · exact an3_0 (xs := xs) (sc := sc) (md := md) hv hvw hg0 hg1 c0 c1 c2 c3 c4 c5 c6 c7 c8 c9 c10 c11 c12 c13 c14 c15 c16 c17 c18 c19 c20 c21 c22 c23 c24 c25 c26 c27
  · exact absurd c29 hp
  · exact an3_2 (xs := xs) (sc := sc) (md := md) hv hvw hg0 hg1 c0 c1 c2 c3 c4 c5 c6 c7 c8 c9 c10 c11 c12 c13 c14 c15 c16 c17 c18 c19 c20 c21 c22 c23 c24 c25 c26 c27 c28 c29
  · exact absurd c30 hp
theorem an4_0 {d : Nat} {xs : Nat → Int32} {m : Int64} {sc md : Int32} {w : xW} {g : Nat → Value} {B K P G : Int32} (hv : w[129]? = some (Sum.inr (13, [Value.ref 130, Value.int 2]))) (hvw : w[130]? = some (Sum.inl (0, 4700, g))) (hg0 : g (0 : Int32).toInt.toNat = Value.int (xq m)) (hg1 : g (1 : Int32).toInt.toNat = Value.int (xq (xqs m))) (c0 : 0 ≤ (xs 1).toInt) (c1 : (xs 1).toInt < 16) (c2 : (-40000) ≤ sc.toInt) (c3 : sc.toInt ≤ 40000) (c4 : 0 ≤ md.toInt) (c5 : md.toInt ≤ 4) (c6 : K.toInt = 64 - B.toInt) (c7 : 33 ≤ B.toInt) (c8 : B.toInt ≤ 34) (c9 : (xhi m).toInt ≠ 0) (c10 : (xnlz (xhi m)).toInt = 64 - B.toInt) (c11 : (xbf 2 (xlo m) (xhi m) ((32 : Int32) - K)).toInt ≠ 0) (c12 : (lg_cmp m (0 : Int64)).toInt ≠ 0) (c13 : (lg_cmp (xqs m) (0 : Int64)).toInt ≠ 0) (c14 : (lg_cmp (xqs (xqs m)) (0 : Int64)).toInt = 0) (c15 : (xbn (xq (xqs m))).toInt = B.toInt - 30) (c16 : (xq (xqs m)).toInt ≠ 0) (c17 : 0 ≤ (xq (xqs m)).toInt) (c18 : K.toInt ≠ 0) (c19 : K / (30 : Int32) = 1) (c20 : K - K / (30 : Int32) * (30 : Int32) = P) (c21 : ((0 : Int32) ||| (xH (xq (xqs m)) P)).toInt = 0) (c22 : ((xL (xq (xqs m)) P) ||| (xH (xq m) P)).toInt ≠ 0) (c23 : 0 ≤ ((xL (xq (xqs m)) P) ||| (xH (xq m) P)).toInt) (c24 : (xbn ((xL (xq (xqs m)) P) ||| (xH (xq m) P))).toInt = 4) (c25 : G.toInt = B.toInt - 31) (c26 : (xq m).toInt ≠ 0) : xRun d 183 [Value.ref 129, Value.int (B - (1 : Int32))] w (.inl (some (Value.int 1))) w := by
  have f0 : (B - (1 : Int32)).toInt = B.toInt - 1 := xsub_g rfl rfl (by omega) (by omega)
  have f1 : ((B - (1 : Int32)) - (0 : Int32)).toInt = (B - (1 : Int32)).toInt - 0 := xsub_g rfl rfl (by omega) (by omega)
  refine xRun.of ?_
  refine i_183_0 ?_
  refine i_183_1 (lv2 := [(2, Value.int 0), (0, Value.ref 129), (1, Value.int (B - (1 : Int32)))]) rfl ?_
  refine i_183_2 (x := 0) rfl ?_
  refine i_183_3 (x := 129) rfl ?_
  refine i_183_4 (v := Value.int 2) hv rfl ?_
  refine i_183_7 (fun h => absurd h (by decide)) (fun _ => ?_)
  refine i_183_10 ?_
  refine i_183_12 (x := 0) rfl ?_
  refine i_183_13 (c := 0) (by decide) ?_
  refine i_183_14 (x := (B - (1 : Int32))) rfl ?_
  refine i_183_15 (fun h => absurd (show 0 < (B - (1 : Int32)).toInt by omega) (Int.not_lt.mpr h)) (fun _ => ?_)
  refine i_183_18 (x := (B - (1 : Int32))) rfl ?_
  refine i_183_19 ?_
  refine i_183_21 (x := 0) rfl ?_
  refine i_183_22 (c := 0) (by decide) ?_
  refine i_183_23 (c := ((B - (1 : Int32)) - (0 : Int32))) rfl ?_
  refine i_183_24 (lv2 := [(3, Value.int ((B - (1 : Int32)) - (0 : Int32))), (2, Value.int 0), (0, Value.ref 129), (1, Value.int (B - (1 : Int32)))]) rfl ?_
  refine i_183_25 (x := ((B - (1 : Int32)) - (0 : Int32))) rfl ?_
  refine i_183_26 ?_
  refine i_183_28 (fun h => absurd (show 30 ≤ ((B - (1 : Int32)) - (0 : Int32)).toInt by omega) (Int.not_le.mpr h)) (fun _ => ?_)
  refine i_183_31 (x := 129) rfl ?_
  refine i_183_32 (v := Value.ref 130) hv rfl ?_
  refine i_183_35 (x := 0) rfl ?_
  refine i_183_36 (v := Value.int (xq m)) hvw (by decide) (by decide) hg0 ?_
  refine i_183_37 (fun h => absurd (show (xq m).toInt ≠ 0 by omega) (fun g => g h)) (fun _ => ?_)
  refine i_183_40 ?_
  refine i_183_58 ?_
  exact i_183_59 rfl ⟨rfl, rfl⟩
theorem an4_1 {d : Nat} {xs : Nat → Int32} {m : Int64} {sc md : Int32} {w : xW} {g : Nat → Value} {B K P G : Int32} (hv : w[129]? = some (Sum.inr (13, [Value.ref 130, Value.int 2]))) (hvw : w[130]? = some (Sum.inl (0, 4700, g))) (hg0 : g (0 : Int32).toInt.toNat = Value.int (xq m)) (hg1 : g (1 : Int32).toInt.toNat = Value.int (xq (xqs m))) (c0 : 0 ≤ (xs 1).toInt) (c1 : (xs 1).toInt < 16) (c2 : (-40000) ≤ sc.toInt) (c3 : sc.toInt ≤ 40000) (c4 : 0 ≤ md.toInt) (c5 : md.toInt ≤ 4) (c6 : K.toInt = 64 - B.toInt) (c7 : 33 ≤ B.toInt) (c8 : B.toInt ≤ 34) (c9 : (xhi m).toInt ≠ 0) (c10 : (xnlz (xhi m)).toInt = 64 - B.toInt) (c11 : (xbf 2 (xlo m) (xhi m) ((32 : Int32) - K)).toInt ≠ 0) (c12 : (lg_cmp m (0 : Int64)).toInt ≠ 0) (c13 : (lg_cmp (xqs m) (0 : Int64)).toInt ≠ 0) (c14 : (lg_cmp (xqs (xqs m)) (0 : Int64)).toInt = 0) (c15 : (xbn (xq (xqs m))).toInt = B.toInt - 30) (c16 : (xq (xqs m)).toInt ≠ 0) (c17 : 0 ≤ (xq (xqs m)).toInt) (c18 : K.toInt ≠ 0) (c19 : K / (30 : Int32) = 1) (c20 : K - K / (30 : Int32) * (30 : Int32) = P) (c21 : ((0 : Int32) ||| (xH (xq (xqs m)) P)).toInt = 0) (c22 : ((xL (xq (xqs m)) P) ||| (xH (xq m) P)).toInt ≠ 0) (c23 : 0 ≤ ((xL (xq (xqs m)) P) ||| (xH (xq m) P)).toInt) (c24 : (xbn ((xL (xq (xqs m)) P) ||| (xH (xq m) P))).toInt = 4) (c25 : G.toInt = B.toInt - 31) (c26 : (xq m).toInt = 0) (c27 : (xmk (xq (xqs m)) G).toInt ≠ 0) : xRun d 183 [Value.ref 129, Value.int (B - (1 : Int32))] w (.inl (some (Value.int 1))) w := by
  have f0 : (B - (1 : Int32)).toInt = B.toInt - 1 := xsub_g rfl rfl (by omega) (by omega)
  have f1 : ((B - (1 : Int32)) - (0 : Int32)).toInt = (B - (1 : Int32)).toInt - 0 := xsub_g rfl rfl (by omega) (by omega)
  have f2 : ((B - (1 : Int32)) - (30 : Int32)).toInt = (B - (1 : Int32)).toInt - 30 := xsub_g rfl rfl (by omega) (by omega)
  refine xRun.of ?_
  refine i_183_0 ?_
  refine i_183_1 (lv2 := [(2, Value.int 0), (0, Value.ref 129), (1, Value.int (B - (1 : Int32)))]) rfl ?_
  refine i_183_2 (x := 0) rfl ?_
  refine i_183_3 (x := 129) rfl ?_
  refine i_183_4 (v := Value.int 2) hv rfl ?_
  refine i_183_7 (fun h => absurd h (by decide)) (fun _ => ?_)
  refine i_183_10 ?_
  refine i_183_12 (x := 0) rfl ?_
  refine i_183_13 (c := 0) (by decide) ?_
  refine i_183_14 (x := (B - (1 : Int32))) rfl ?_
  refine i_183_15 (fun h => absurd (show 0 < (B - (1 : Int32)).toInt by omega) (Int.not_lt.mpr h)) (fun _ => ?_)
  refine i_183_18 (x := (B - (1 : Int32))) rfl ?_
  refine i_183_19 ?_
  refine i_183_21 (x := 0) rfl ?_
  refine i_183_22 (c := 0) (by decide) ?_
  refine i_183_23 (c := ((B - (1 : Int32)) - (0 : Int32))) rfl ?_
  refine i_183_24 (lv2 := [(3, Value.int ((B - (1 : Int32)) - (0 : Int32))), (2, Value.int 0), (0, Value.ref 129), (1, Value.int (B - (1 : Int32)))]) rfl ?_
  refine i_183_25 (x := ((B - (1 : Int32)) - (0 : Int32))) rfl ?_
  refine i_183_26 ?_
  refine i_183_28 (fun h => absurd (show 30 ≤ ((B - (1 : Int32)) - (0 : Int32)).toInt by omega) (Int.not_le.mpr h)) (fun _ => ?_)
  refine i_183_31 (x := 129) rfl ?_
  refine i_183_32 (v := Value.ref 130) hv rfl ?_
  refine i_183_35 (x := 0) rfl ?_
  refine i_183_36 (v := Value.int (xq m)) hvw (by decide) (by decide) hg0 ?_
  refine i_183_37 (fun _ => ?_) (fun h => absurd (show (xq m).toInt = 0 by omega) h)
  refine i_183_60 (x := 0) (c := 1) (lv2 := [(2, Value.int 1), (3, Value.int ((B - (1 : Int32)) - (0 : Int32))), (0, Value.ref 129), (1, Value.int (B - (1 : Int32)))]) rfl (by decide) rfl ?_
  refine i_183_63 ?_
  refine i_183_2 (x := 1) rfl ?_
  refine i_183_3 (x := 129) rfl ?_
  refine i_183_4 (v := Value.int 2) hv rfl ?_
  refine i_183_7 (fun h => absurd h (by decide)) (fun _ => ?_)
  refine i_183_10 ?_
  refine i_183_12 (x := 1) rfl ?_
  refine i_183_13 (c := 30) (by decide) ?_
  refine i_183_14 (x := (B - (1 : Int32))) rfl ?_
  refine i_183_15 (fun h => absurd (show 30 < (B - (1 : Int32)).toInt by omega) (Int.not_lt.mpr h)) (fun _ => ?_)
  refine i_183_18 (x := (B - (1 : Int32))) rfl ?_
  refine i_183_19 ?_
  refine i_183_21 (x := 1) rfl ?_
  refine i_183_22 (c := 30) (by decide) ?_
  refine i_183_23 (c := G) (show ((B - (1 : Int32)) - (30 : Int32)) = G from (xge_i (by omega))) ?_
  refine i_183_24 (lv2 := [(3, Value.int G), (2, Value.int 1), (0, Value.ref 129), (1, Value.int (B - (1 : Int32)))]) rfl ?_
  refine i_183_25 (x := G) rfl ?_
  refine i_183_26 ?_
  refine i_183_28 (fun _ => ?_) (fun h => absurd (show G.toInt < 30 by omega) (Int.not_lt.mpr h))
  refine i_183_43 (x := 129) rfl ?_
  refine i_183_44 (v := Value.ref 130) hv rfl ?_
  refine i_183_47 (x := 1) rfl ?_
  refine i_183_48 (v := Value.int (xq (xqs m))) hvw (by decide) (by decide) hg1 ?_
  refine i_183_49 ?_
  refine i_183_50 (x := G) rfl ?_
  refine i_183_51 (c := ((1 : Int32) <<< (G &&& 31))) rfl ?_
  refine i_183_52 ?_
  refine i_183_53 (c := (((1 : Int32) <<< (G &&& 31)) - (1 : Int32))) rfl ?_
  refine i_183_54 (c := (xmk (xq (xqs m)) G)) rfl ?_
  refine i_183_55 (fun h => absurd (show (xmk (xq (xqs m)) G).toInt ≠ 0 by omega) (fun g => g h)) (fun _ => ?_)
  refine i_183_58 ?_
  exact i_183_59 rfl ⟨rfl, rfl⟩
theorem an4_2 {d : Nat} {xs : Nat → Int32} {m : Int64} {sc md : Int32} {w : xW} {g : Nat → Value} {B K P G : Int32} (hv : w[129]? = some (Sum.inr (13, [Value.ref 130, Value.int 2]))) (hvw : w[130]? = some (Sum.inl (0, 4700, g))) (hg0 : g (0 : Int32).toInt.toNat = Value.int (xq m)) (hg1 : g (1 : Int32).toInt.toNat = Value.int (xq (xqs m))) (c0 : 0 ≤ (xs 1).toInt) (c1 : (xs 1).toInt < 16) (c2 : (-40000) ≤ sc.toInt) (c3 : sc.toInt ≤ 40000) (c4 : 0 ≤ md.toInt) (c5 : md.toInt ≤ 4) (c6 : K.toInt = 64 - B.toInt) (c7 : 33 ≤ B.toInt) (c8 : B.toInt ≤ 34) (c9 : (xhi m).toInt ≠ 0) (c10 : (xnlz (xhi m)).toInt = 64 - B.toInt) (c11 : (xbf 2 (xlo m) (xhi m) ((32 : Int32) - K)).toInt ≠ 0) (c12 : (lg_cmp m (0 : Int64)).toInt ≠ 0) (c13 : (lg_cmp (xqs m) (0 : Int64)).toInt ≠ 0) (c14 : (lg_cmp (xqs (xqs m)) (0 : Int64)).toInt = 0) (c15 : (xbn (xq (xqs m))).toInt = B.toInt - 30) (c16 : (xq (xqs m)).toInt ≠ 0) (c17 : 0 ≤ (xq (xqs m)).toInt) (c18 : K.toInt ≠ 0) (c19 : K / (30 : Int32) = 1) (c20 : K - K / (30 : Int32) * (30 : Int32) = P) (c21 : ((0 : Int32) ||| (xH (xq (xqs m)) P)).toInt = 0) (c22 : ((xL (xq (xqs m)) P) ||| (xH (xq m) P)).toInt ≠ 0) (c23 : 0 ≤ ((xL (xq (xqs m)) P) ||| (xH (xq m) P)).toInt) (c24 : (xbn ((xL (xq (xqs m)) P) ||| (xH (xq m) P))).toInt = 4) (c25 : G.toInt = B.toInt - 31) (c26 : (xq m).toInt = 0) (c27 : (xmk (xq (xqs m)) G).toInt = 0) : xRun d 183 [Value.ref 129, Value.int (B - (1 : Int32))] w (.inl (some (Value.int 0))) w := by
  have f0 : (B - (1 : Int32)).toInt = B.toInt - 1 := xsub_g rfl rfl (by omega) (by omega)
  have f1 : ((B - (1 : Int32)) - (0 : Int32)).toInt = (B - (1 : Int32)).toInt - 0 := xsub_g rfl rfl (by omega) (by omega)
  have f2 : ((B - (1 : Int32)) - (30 : Int32)).toInt = (B - (1 : Int32)).toInt - 30 := xsub_g rfl rfl (by omega) (by omega)
  refine xRun.of ?_
  refine i_183_0 ?_
  refine i_183_1 (lv2 := [(2, Value.int 0), (0, Value.ref 129), (1, Value.int (B - (1 : Int32)))]) rfl ?_
  refine i_183_2 (x := 0) rfl ?_
  refine i_183_3 (x := 129) rfl ?_
  refine i_183_4 (v := Value.int 2) hv rfl ?_
  refine i_183_7 (fun h => absurd h (by decide)) (fun _ => ?_)
  refine i_183_10 ?_
  refine i_183_12 (x := 0) rfl ?_
  refine i_183_13 (c := 0) (by decide) ?_
  refine i_183_14 (x := (B - (1 : Int32))) rfl ?_
  refine i_183_15 (fun h => absurd (show 0 < (B - (1 : Int32)).toInt by omega) (Int.not_lt.mpr h)) (fun _ => ?_)
  refine i_183_18 (x := (B - (1 : Int32))) rfl ?_
  refine i_183_19 ?_
  refine i_183_21 (x := 0) rfl ?_
  refine i_183_22 (c := 0) (by decide) ?_
  refine i_183_23 (c := ((B - (1 : Int32)) - (0 : Int32))) rfl ?_
  refine i_183_24 (lv2 := [(3, Value.int ((B - (1 : Int32)) - (0 : Int32))), (2, Value.int 0), (0, Value.ref 129), (1, Value.int (B - (1 : Int32)))]) rfl ?_
  refine i_183_25 (x := ((B - (1 : Int32)) - (0 : Int32))) rfl ?_
  refine i_183_26 ?_
  refine i_183_28 (fun h => absurd (show 30 ≤ ((B - (1 : Int32)) - (0 : Int32)).toInt by omega) (Int.not_le.mpr h)) (fun _ => ?_)
  refine i_183_31 (x := 129) rfl ?_
  refine i_183_32 (v := Value.ref 130) hv rfl ?_
  refine i_183_35 (x := 0) rfl ?_
  refine i_183_36 (v := Value.int (xq m)) hvw (by decide) (by decide) hg0 ?_
  refine i_183_37 (fun _ => ?_) (fun h => absurd (show (xq m).toInt = 0 by omega) h)
  refine i_183_60 (x := 0) (c := 1) (lv2 := [(2, Value.int 1), (3, Value.int ((B - (1 : Int32)) - (0 : Int32))), (0, Value.ref 129), (1, Value.int (B - (1 : Int32)))]) rfl (by decide) rfl ?_
  refine i_183_63 ?_
  refine i_183_2 (x := 1) rfl ?_
  refine i_183_3 (x := 129) rfl ?_
  refine i_183_4 (v := Value.int 2) hv rfl ?_
  refine i_183_7 (fun h => absurd h (by decide)) (fun _ => ?_)
  refine i_183_10 ?_
  refine i_183_12 (x := 1) rfl ?_
  refine i_183_13 (c := 30) (by decide) ?_
  refine i_183_14 (x := (B - (1 : Int32))) rfl ?_
  refine i_183_15 (fun h => absurd (show 30 < (B - (1 : Int32)).toInt by omega) (Int.not_lt.mpr h)) (fun _ => ?_)
  refine i_183_18 (x := (B - (1 : Int32))) rfl ?_
  refine i_183_19 ?_
  refine i_183_21 (x := 1) rfl ?_
  refine i_183_22 (c := 30) (by decide) ?_
  refine i_183_23 (c := G) (show ((B - (1 : Int32)) - (30 : Int32)) = G from (xge_i (by omega))) ?_
  refine i_183_24 (lv2 := [(3, Value.int G), (2, Value.int 1), (0, Value.ref 129), (1, Value.int (B - (1 : Int32)))]) rfl ?_
  refine i_183_25 (x := G) rfl ?_
  refine i_183_26 ?_
  refine i_183_28 (fun _ => ?_) (fun h => absurd (show G.toInt < 30 by omega) (Int.not_lt.mpr h))
  refine i_183_43 (x := 129) rfl ?_
  refine i_183_44 (v := Value.ref 130) hv rfl ?_
  refine i_183_47 (x := 1) rfl ?_
  refine i_183_48 (v := Value.int (xq (xqs m))) hvw (by decide) (by decide) hg1 ?_
  refine i_183_49 ?_
  refine i_183_50 (x := G) rfl ?_
  refine i_183_51 (c := ((1 : Int32) <<< (G &&& 31))) rfl ?_
  refine i_183_52 ?_
  refine i_183_53 (c := (((1 : Int32) <<< (G &&& 31)) - (1 : Int32))) rfl ?_
  refine i_183_54 (c := (xmk (xq (xqs m)) G)) rfl ?_
  refine i_183_55 (fun _ => ?_) (fun h => absurd (show (xmk (xq (xqs m)) G).toInt = 0 by omega) h)
  refine i_183_60 (x := 1) (c := 2) (lv2 := [(2, Value.int 2), (3, Value.int G), (0, Value.ref 129), (1, Value.int (B - (1 : Int32)))]) rfl (by decide) rfl ?_
  refine i_183_63 ?_
  refine i_183_2 (x := 2) rfl ?_
  refine i_183_3 (x := 129) rfl ?_
  refine i_183_4 (v := Value.int 2) hv rfl ?_
  refine i_183_7 (fun _ => ?_) (fun h => absurd h (by decide))
  refine i_183_66 ?_
  exact i_183_67 rfl ⟨rfl, rfl⟩
theorem any0_4 {d : Nat} {xs : Nat → Int32} {m : Int64} {sc md : Int32} {w : xW} {g : Nat → Value} {B K P G : Int32} (hB : B.toInt = (xbl (xul m) : Int)) (hv : w[129]? = some (Sum.inr (13, [Value.ref 130, Value.int 2]))) (hvw : w[130]? = some (Sum.inl (0, 4700, g))) (hg0 : g (0 : Int32).toInt.toNat = Value.int (xq m)) (hg1 : g (1 : Int32).toInt.toNat = Value.int (xq (xqs m))) (c0 : 0 ≤ (xs 1).toInt) (c1 : (xs 1).toInt < 16) (c2 : (-40000) ≤ sc.toInt) (c3 : sc.toInt ≤ 40000) (c4 : 0 ≤ md.toInt) (c5 : md.toInt ≤ 4) (c6 : K.toInt = 64 - B.toInt) (c7 : 33 ≤ B.toInt) (c8 : B.toInt ≤ 34) (c9 : (xhi m).toInt ≠ 0) (c10 : (xnlz (xhi m)).toInt = 64 - B.toInt) (c11 : (xbf 2 (xlo m) (xhi m) ((32 : Int32) - K)).toInt ≠ 0) (c12 : (lg_cmp m (0 : Int64)).toInt ≠ 0) (c13 : (lg_cmp (xqs m) (0 : Int64)).toInt ≠ 0) (c14 : (lg_cmp (xqs (xqs m)) (0 : Int64)).toInt = 0) (c15 : (xbn (xq (xqs m))).toInt = B.toInt - 30) (c16 : (xq (xqs m)).toInt ≠ 0) (c17 : 0 ≤ (xq (xqs m)).toInt) (c18 : K.toInt ≠ 0) (c19 : K / (30 : Int32) = 1) (c20 : K - K / (30 : Int32) * (30 : Int32) = P) (c21 : ((0 : Int32) ||| (xH (xq (xqs m)) P)).toInt = 0) (c22 : ((xL (xq (xqs m)) P) ||| (xH (xq m) P)).toInt ≠ 0) (c23 : 0 ≤ ((xL (xq (xqs m)) P) ||| (xH (xq m) P)).toInt) (c24 : (xbn ((xL (xq (xqs m)) P) ||| (xH (xq m) P))).toInt = 4) (c25 : G.toInt = B.toInt - 31) (hp : xPW m) : xRun d 183 [Value.ref 129, Value.int (B - (1 : Int32))] w (.inl (some (Value.int 0))) w := by
  rcases xpowM4 (m := m) (K := K) (P := P) (G := G) hB (by unfold xR4; exact ⟨c7, c8, c9, c10, c11, c12, c13, c14, c15, c16, c17, c18, c19, c20, c21, c22, c23, c24, c25⟩) with ⟨c26, c27⟩ | ⟨c26, c27, c28⟩ | ⟨c26, c27, c28⟩
  · exact absurd hp c27
  · exact absurd hp c28
  · exact an4_2 (xs := xs) (sc := sc) (md := md) hv hvw hg0 hg1 c0 c1 c2 c3 c4 c5 c6 c7 c8 c9 c10 c11 c12 c13 c14 c15 c16 c17 c18 c19 c20 c21 c22 c23 c24 c25 c26 c27
theorem any1_4 {d : Nat} {xs : Nat → Int32} {m : Int64} {sc md : Int32} {w : xW} {g : Nat → Value} {B K P G : Int32} (hB : B.toInt = (xbl (xul m) : Int)) (hv : w[129]? = some (Sum.inr (13, [Value.ref 130, Value.int 2]))) (hvw : w[130]? = some (Sum.inl (0, 4700, g))) (hg0 : g (0 : Int32).toInt.toNat = Value.int (xq m)) (hg1 : g (1 : Int32).toInt.toNat = Value.int (xq (xqs m))) (c0 : 0 ≤ (xs 1).toInt) (c1 : (xs 1).toInt < 16) (c2 : (-40000) ≤ sc.toInt) (c3 : sc.toInt ≤ 40000) (c4 : 0 ≤ md.toInt) (c5 : md.toInt ≤ 4) (c6 : K.toInt = 64 - B.toInt) (c7 : 33 ≤ B.toInt) (c8 : B.toInt ≤ 34) (c9 : (xhi m).toInt ≠ 0) (c10 : (xnlz (xhi m)).toInt = 64 - B.toInt) (c11 : (xbf 2 (xlo m) (xhi m) ((32 : Int32) - K)).toInt ≠ 0) (c12 : (lg_cmp m (0 : Int64)).toInt ≠ 0) (c13 : (lg_cmp (xqs m) (0 : Int64)).toInt ≠ 0) (c14 : (lg_cmp (xqs (xqs m)) (0 : Int64)).toInt = 0) (c15 : (xbn (xq (xqs m))).toInt = B.toInt - 30) (c16 : (xq (xqs m)).toInt ≠ 0) (c17 : 0 ≤ (xq (xqs m)).toInt) (c18 : K.toInt ≠ 0) (c19 : K / (30 : Int32) = 1) (c20 : K - K / (30 : Int32) * (30 : Int32) = P) (c21 : ((0 : Int32) ||| (xH (xq (xqs m)) P)).toInt = 0) (c22 : ((xL (xq (xqs m)) P) ||| (xH (xq m) P)).toInt ≠ 0) (c23 : 0 ≤ ((xL (xq (xqs m)) P) ||| (xH (xq m) P)).toInt) (c24 : (xbn ((xL (xq (xqs m)) P) ||| (xH (xq m) P))).toInt = 4) (c25 : G.toInt = B.toInt - 31) (hp : ¬ xPW m) : xRun d 183 [Value.ref 129, Value.int (B - (1 : Int32))] w (.inl (some (Value.int 1))) w := by
  rcases xpowM4 (m := m) (K := K) (P := P) (G := G) hB (by unfold xR4; exact ⟨c7, c8, c9, c10, c11, c12, c13, c14, c15, c16, c17, c18, c19, c20, c21, c22, c23, c24, c25⟩) with ⟨c26, c27⟩ | ⟨c26, c27, c28⟩ | ⟨c26, c27, c28⟩
  · exact an4_0 (xs := xs) (sc := sc) (md := md) hv hvw hg0 hg1 c0 c1 c2 c3 c4 c5 c6 c7 c8 c9 c10 c11 c12 c13 c14 c15 c16 c17 c18 c19 c20 c21 c22 c23 c24 c25 c26
  · exact an4_1 (xs := xs) (sc := sc) (md := md) hv hvw hg0 hg1 c0 c1 c2 c3 c4 c5 c6 c7 c8 c9 c10 c11 c12 c13 c14 c15 c16 c17 c18 c19 c20 c21 c22 c23 c24 c25 c26 c27
  · exact absurd c28 hp
theorem an5_0 {d : Nat} {xs : Nat → Int32} {m : Int64} {sc md : Int32} {w : xW} {g : Nat → Value} {B K P G : Int32} (hv : w[129]? = some (Sum.inr (13, [Value.ref 130, Value.int 2]))) (hvw : w[130]? = some (Sum.inl (0, 4700, g))) (hg0 : g (0 : Int32).toInt.toNat = Value.int (xq m)) (hg1 : g (1 : Int32).toInt.toNat = Value.int (xq (xqs m))) (c0 : 0 ≤ (xs 1).toInt) (c1 : (xs 1).toInt < 16) (c2 : (-40000) ≤ sc.toInt) (c3 : sc.toInt ≤ 40000) (c4 : 0 ≤ md.toInt) (c5 : md.toInt ≤ 4) (c6 : K.toInt = 64 - B.toInt) (c7 : 35 ≤ B.toInt) (c8 : B.toInt ≤ 60) (c9 : (xhi m).toInt ≠ 0) (c10 : (xnlz (xhi m)).toInt = 64 - B.toInt) (c11 : (xbf 2 (xlo m) (xhi m) ((32 : Int32) - K)).toInt ≠ 0) (c12 : (lg_cmp m (0 : Int64)).toInt ≠ 0) (c13 : (lg_cmp (xqs m) (0 : Int64)).toInt ≠ 0) (c14 : (lg_cmp (xqs (xqs m)) (0 : Int64)).toInt = 0) (c15 : (xbn (xq (xqs m))).toInt = B.toInt - 30) (c16 : (xq (xqs m)).toInt ≠ 0) (c17 : 0 ≤ (xq (xqs m)).toInt) (c18 : K.toInt ≠ 0) (c19 : K / (30 : Int32) = 0) (c20 : K - K / (30 : Int32) * (30 : Int32) = P) (c21 : ((0 : Int32) ||| (xH (xq (xqs m)) P)).toInt ≠ 0) (c22 : 0 ≤ ((0 : Int32) ||| (xH (xq (xqs m)) P)).toInt) (c23 : (xbn ((0 : Int32) ||| (xH (xq (xqs m)) P))).toInt = 4) (c24 : G.toInt = B.toInt - 31) (c25 : (xq m).toInt ≠ 0) : xRun d 183 [Value.ref 129, Value.int (B - (1 : Int32))] w (.inl (some (Value.int 1))) w := by
  have f0 : (B - (1 : Int32)).toInt = B.toInt - 1 := xsub_g rfl rfl (by omega) (by omega)
  have f1 : ((B - (1 : Int32)) - (0 : Int32)).toInt = (B - (1 : Int32)).toInt - 0 := xsub_g rfl rfl (by omega) (by omega)
  refine xRun.of ?_
  refine i_183_0 ?_
  refine i_183_1 (lv2 := [(2, Value.int 0), (0, Value.ref 129), (1, Value.int (B - (1 : Int32)))]) rfl ?_
  refine i_183_2 (x := 0) rfl ?_
  refine i_183_3 (x := 129) rfl ?_
  refine i_183_4 (v := Value.int 2) hv rfl ?_
  refine i_183_7 (fun h => absurd h (by decide)) (fun _ => ?_)
  refine i_183_10 ?_
  refine i_183_12 (x := 0) rfl ?_
  refine i_183_13 (c := 0) (by decide) ?_
  refine i_183_14 (x := (B - (1 : Int32))) rfl ?_
  refine i_183_15 (fun h => absurd (show 0 < (B - (1 : Int32)).toInt by omega) (Int.not_lt.mpr h)) (fun _ => ?_)
  refine i_183_18 (x := (B - (1 : Int32))) rfl ?_
  refine i_183_19 ?_
  refine i_183_21 (x := 0) rfl ?_
  refine i_183_22 (c := 0) (by decide) ?_
  refine i_183_23 (c := ((B - (1 : Int32)) - (0 : Int32))) rfl ?_
  refine i_183_24 (lv2 := [(3, Value.int ((B - (1 : Int32)) - (0 : Int32))), (2, Value.int 0), (0, Value.ref 129), (1, Value.int (B - (1 : Int32)))]) rfl ?_
  refine i_183_25 (x := ((B - (1 : Int32)) - (0 : Int32))) rfl ?_
  refine i_183_26 ?_
  refine i_183_28 (fun h => absurd (show 30 ≤ ((B - (1 : Int32)) - (0 : Int32)).toInt by omega) (Int.not_le.mpr h)) (fun _ => ?_)
  refine i_183_31 (x := 129) rfl ?_
  refine i_183_32 (v := Value.ref 130) hv rfl ?_
  refine i_183_35 (x := 0) rfl ?_
  refine i_183_36 (v := Value.int (xq m)) hvw (by decide) (by decide) hg0 ?_
  refine i_183_37 (fun h => absurd (show (xq m).toInt ≠ 0 by omega) (fun g => g h)) (fun _ => ?_)
  refine i_183_40 ?_
  refine i_183_58 ?_
  exact i_183_59 rfl ⟨rfl, rfl⟩
theorem an5_1 {d : Nat} {xs : Nat → Int32} {m : Int64} {sc md : Int32} {w : xW} {g : Nat → Value} {B K P G : Int32} (hv : w[129]? = some (Sum.inr (13, [Value.ref 130, Value.int 2]))) (hvw : w[130]? = some (Sum.inl (0, 4700, g))) (hg0 : g (0 : Int32).toInt.toNat = Value.int (xq m)) (hg1 : g (1 : Int32).toInt.toNat = Value.int (xq (xqs m))) (c0 : 0 ≤ (xs 1).toInt) (c1 : (xs 1).toInt < 16) (c2 : (-40000) ≤ sc.toInt) (c3 : sc.toInt ≤ 40000) (c4 : 0 ≤ md.toInt) (c5 : md.toInt ≤ 4) (c6 : K.toInt = 64 - B.toInt) (c7 : 35 ≤ B.toInt) (c8 : B.toInt ≤ 60) (c9 : (xhi m).toInt ≠ 0) (c10 : (xnlz (xhi m)).toInt = 64 - B.toInt) (c11 : (xbf 2 (xlo m) (xhi m) ((32 : Int32) - K)).toInt ≠ 0) (c12 : (lg_cmp m (0 : Int64)).toInt ≠ 0) (c13 : (lg_cmp (xqs m) (0 : Int64)).toInt ≠ 0) (c14 : (lg_cmp (xqs (xqs m)) (0 : Int64)).toInt = 0) (c15 : (xbn (xq (xqs m))).toInt = B.toInt - 30) (c16 : (xq (xqs m)).toInt ≠ 0) (c17 : 0 ≤ (xq (xqs m)).toInt) (c18 : K.toInt ≠ 0) (c19 : K / (30 : Int32) = 0) (c20 : K - K / (30 : Int32) * (30 : Int32) = P) (c21 : ((0 : Int32) ||| (xH (xq (xqs m)) P)).toInt ≠ 0) (c22 : 0 ≤ ((0 : Int32) ||| (xH (xq (xqs m)) P)).toInt) (c23 : (xbn ((0 : Int32) ||| (xH (xq (xqs m)) P))).toInt = 4) (c24 : G.toInt = B.toInt - 31) (c25 : (xq m).toInt = 0) (c26 : (xmk (xq (xqs m)) G).toInt ≠ 0) : xRun d 183 [Value.ref 129, Value.int (B - (1 : Int32))] w (.inl (some (Value.int 1))) w := by
  have f0 : (B - (1 : Int32)).toInt = B.toInt - 1 := xsub_g rfl rfl (by omega) (by omega)
  have f1 : ((B - (1 : Int32)) - (0 : Int32)).toInt = (B - (1 : Int32)).toInt - 0 := xsub_g rfl rfl (by omega) (by omega)
  have f2 : ((B - (1 : Int32)) - (30 : Int32)).toInt = (B - (1 : Int32)).toInt - 30 := xsub_g rfl rfl (by omega) (by omega)
  refine xRun.of ?_
  refine i_183_0 ?_
  refine i_183_1 (lv2 := [(2, Value.int 0), (0, Value.ref 129), (1, Value.int (B - (1 : Int32)))]) rfl ?_
  refine i_183_2 (x := 0) rfl ?_
  refine i_183_3 (x := 129) rfl ?_
  refine i_183_4 (v := Value.int 2) hv rfl ?_
  refine i_183_7 (fun h => absurd h (by decide)) (fun _ => ?_)
  refine i_183_10 ?_
  refine i_183_12 (x := 0) rfl ?_
  refine i_183_13 (c := 0) (by decide) ?_
  refine i_183_14 (x := (B - (1 : Int32))) rfl ?_
  refine i_183_15 (fun h => absurd (show 0 < (B - (1 : Int32)).toInt by omega) (Int.not_lt.mpr h)) (fun _ => ?_)
  refine i_183_18 (x := (B - (1 : Int32))) rfl ?_
  refine i_183_19 ?_
  refine i_183_21 (x := 0) rfl ?_
  refine i_183_22 (c := 0) (by decide) ?_
  refine i_183_23 (c := ((B - (1 : Int32)) - (0 : Int32))) rfl ?_
  refine i_183_24 (lv2 := [(3, Value.int ((B - (1 : Int32)) - (0 : Int32))), (2, Value.int 0), (0, Value.ref 129), (1, Value.int (B - (1 : Int32)))]) rfl ?_
  refine i_183_25 (x := ((B - (1 : Int32)) - (0 : Int32))) rfl ?_
  refine i_183_26 ?_
  refine i_183_28 (fun h => absurd (show 30 ≤ ((B - (1 : Int32)) - (0 : Int32)).toInt by omega) (Int.not_le.mpr h)) (fun _ => ?_)
  refine i_183_31 (x := 129) rfl ?_
  refine i_183_32 (v := Value.ref 130) hv rfl ?_
  refine i_183_35 (x := 0) rfl ?_
  refine i_183_36 (v := Value.int (xq m)) hvw (by decide) (by decide) hg0 ?_
  refine i_183_37 (fun _ => ?_) (fun h => absurd (show (xq m).toInt = 0 by omega) h)
  refine i_183_60 (x := 0) (c := 1) (lv2 := [(2, Value.int 1), (3, Value.int ((B - (1 : Int32)) - (0 : Int32))), (0, Value.ref 129), (1, Value.int (B - (1 : Int32)))]) rfl (by decide) rfl ?_
  refine i_183_63 ?_
  refine i_183_2 (x := 1) rfl ?_
  refine i_183_3 (x := 129) rfl ?_
  refine i_183_4 (v := Value.int 2) hv rfl ?_
  refine i_183_7 (fun h => absurd h (by decide)) (fun _ => ?_)
  refine i_183_10 ?_
  refine i_183_12 (x := 1) rfl ?_
  refine i_183_13 (c := 30) (by decide) ?_
  refine i_183_14 (x := (B - (1 : Int32))) rfl ?_
  refine i_183_15 (fun h => absurd (show 30 < (B - (1 : Int32)).toInt by omega) (Int.not_lt.mpr h)) (fun _ => ?_)
  refine i_183_18 (x := (B - (1 : Int32))) rfl ?_
  refine i_183_19 ?_
  refine i_183_21 (x := 1) rfl ?_
  refine i_183_22 (c := 30) (by decide) ?_
  refine i_183_23 (c := G) (show ((B - (1 : Int32)) - (30 : Int32)) = G from (xge_i (by omega))) ?_
  refine i_183_24 (lv2 := [(3, Value.int G), (2, Value.int 1), (0, Value.ref 129), (1, Value.int (B - (1 : Int32)))]) rfl ?_
  refine i_183_25 (x := G) rfl ?_
  refine i_183_26 ?_
  refine i_183_28 (fun _ => ?_) (fun h => absurd (show G.toInt < 30 by omega) (Int.not_lt.mpr h))
  refine i_183_43 (x := 129) rfl ?_
  refine i_183_44 (v := Value.ref 130) hv rfl ?_
  refine i_183_47 (x := 1) rfl ?_
  refine i_183_48 (v := Value.int (xq (xqs m))) hvw (by decide) (by decide) hg1 ?_
  refine i_183_49 ?_
  refine i_183_50 (x := G) rfl ?_
  refine i_183_51 (c := ((1 : Int32) <<< (G &&& 31))) rfl ?_
  refine i_183_52 ?_
  refine i_183_53 (c := (((1 : Int32) <<< (G &&& 31)) - (1 : Int32))) rfl ?_
  refine i_183_54 (c := (xmk (xq (xqs m)) G)) rfl ?_
  refine i_183_55 (fun h => absurd (show (xmk (xq (xqs m)) G).toInt ≠ 0 by omega) (fun g => g h)) (fun _ => ?_)
  refine i_183_58 ?_
  exact i_183_59 rfl ⟨rfl, rfl⟩
theorem an5_2 {d : Nat} {xs : Nat → Int32} {m : Int64} {sc md : Int32} {w : xW} {g : Nat → Value} {B K P G : Int32} (hv : w[129]? = some (Sum.inr (13, [Value.ref 130, Value.int 2]))) (hvw : w[130]? = some (Sum.inl (0, 4700, g))) (hg0 : g (0 : Int32).toInt.toNat = Value.int (xq m)) (hg1 : g (1 : Int32).toInt.toNat = Value.int (xq (xqs m))) (c0 : 0 ≤ (xs 1).toInt) (c1 : (xs 1).toInt < 16) (c2 : (-40000) ≤ sc.toInt) (c3 : sc.toInt ≤ 40000) (c4 : 0 ≤ md.toInt) (c5 : md.toInt ≤ 4) (c6 : K.toInt = 64 - B.toInt) (c7 : 35 ≤ B.toInt) (c8 : B.toInt ≤ 60) (c9 : (xhi m).toInt ≠ 0) (c10 : (xnlz (xhi m)).toInt = 64 - B.toInt) (c11 : (xbf 2 (xlo m) (xhi m) ((32 : Int32) - K)).toInt ≠ 0) (c12 : (lg_cmp m (0 : Int64)).toInt ≠ 0) (c13 : (lg_cmp (xqs m) (0 : Int64)).toInt ≠ 0) (c14 : (lg_cmp (xqs (xqs m)) (0 : Int64)).toInt = 0) (c15 : (xbn (xq (xqs m))).toInt = B.toInt - 30) (c16 : (xq (xqs m)).toInt ≠ 0) (c17 : 0 ≤ (xq (xqs m)).toInt) (c18 : K.toInt ≠ 0) (c19 : K / (30 : Int32) = 0) (c20 : K - K / (30 : Int32) * (30 : Int32) = P) (c21 : ((0 : Int32) ||| (xH (xq (xqs m)) P)).toInt ≠ 0) (c22 : 0 ≤ ((0 : Int32) ||| (xH (xq (xqs m)) P)).toInt) (c23 : (xbn ((0 : Int32) ||| (xH (xq (xqs m)) P))).toInt = 4) (c24 : G.toInt = B.toInt - 31) (c25 : (xq m).toInt = 0) (c26 : (xmk (xq (xqs m)) G).toInt = 0) : xRun d 183 [Value.ref 129, Value.int (B - (1 : Int32))] w (.inl (some (Value.int 0))) w := by
  have f0 : (B - (1 : Int32)).toInt = B.toInt - 1 := xsub_g rfl rfl (by omega) (by omega)
  have f1 : ((B - (1 : Int32)) - (0 : Int32)).toInt = (B - (1 : Int32)).toInt - 0 := xsub_g rfl rfl (by omega) (by omega)
  have f2 : ((B - (1 : Int32)) - (30 : Int32)).toInt = (B - (1 : Int32)).toInt - 30 := xsub_g rfl rfl (by omega) (by omega)
  refine xRun.of ?_
  refine i_183_0 ?_
  refine i_183_1 (lv2 := [(2, Value.int 0), (0, Value.ref 129), (1, Value.int (B - (1 : Int32)))]) rfl ?_
  refine i_183_2 (x := 0) rfl ?_
  refine i_183_3 (x := 129) rfl ?_
  refine i_183_4 (v := Value.int 2) hv rfl ?_
  refine i_183_7 (fun h => absurd h (by decide)) (fun _ => ?_)
  refine i_183_10 ?_
  refine i_183_12 (x := 0) rfl ?_
  refine i_183_13 (c := 0) (by decide) ?_
  refine i_183_14 (x := (B - (1 : Int32))) rfl ?_
  refine i_183_15 (fun h => absurd (show 0 < (B - (1 : Int32)).toInt by omega) (Int.not_lt.mpr h)) (fun _ => ?_)
  refine i_183_18 (x := (B - (1 : Int32))) rfl ?_
  refine i_183_19 ?_
  refine i_183_21 (x := 0) rfl ?_
  refine i_183_22 (c := 0) (by decide) ?_
  refine i_183_23 (c := ((B - (1 : Int32)) - (0 : Int32))) rfl ?_
  refine i_183_24 (lv2 := [(3, Value.int ((B - (1 : Int32)) - (0 : Int32))), (2, Value.int 0), (0, Value.ref 129), (1, Value.int (B - (1 : Int32)))]) rfl ?_
  refine i_183_25 (x := ((B - (1 : Int32)) - (0 : Int32))) rfl ?_
  refine i_183_26 ?_
  refine i_183_28 (fun h => absurd (show 30 ≤ ((B - (1 : Int32)) - (0 : Int32)).toInt by omega) (Int.not_le.mpr h)) (fun _ => ?_)
  refine i_183_31 (x := 129) rfl ?_
  refine i_183_32 (v := Value.ref 130) hv rfl ?_
  refine i_183_35 (x := 0) rfl ?_
  refine i_183_36 (v := Value.int (xq m)) hvw (by decide) (by decide) hg0 ?_
  refine i_183_37 (fun _ => ?_) (fun h => absurd (show (xq m).toInt = 0 by omega) h)
  refine i_183_60 (x := 0) (c := 1) (lv2 := [(2, Value.int 1), (3, Value.int ((B - (1 : Int32)) - (0 : Int32))), (0, Value.ref 129), (1, Value.int (B - (1 : Int32)))]) rfl (by decide) rfl ?_
  refine i_183_63 ?_
  refine i_183_2 (x := 1) rfl ?_
  refine i_183_3 (x := 129) rfl ?_
  refine i_183_4 (v := Value.int 2) hv rfl ?_
  refine i_183_7 (fun h => absurd h (by decide)) (fun _ => ?_)
  refine i_183_10 ?_
  refine i_183_12 (x := 1) rfl ?_
  refine i_183_13 (c := 30) (by decide) ?_
  refine i_183_14 (x := (B - (1 : Int32))) rfl ?_
  refine i_183_15 (fun h => absurd (show 30 < (B - (1 : Int32)).toInt by omega) (Int.not_lt.mpr h)) (fun _ => ?_)
  refine i_183_18 (x := (B - (1 : Int32))) rfl ?_
  refine i_183_19 ?_
  refine i_183_21 (x := 1) rfl ?_
  refine i_183_22 (c := 30) (by decide) ?_
  refine i_183_23 (c := G) (show ((B - (1 : Int32)) - (30 : Int32)) = G from (xge_i (by omega))) ?_
  refine i_183_24 (lv2 := [(3, Value.int G), (2, Value.int 1), (0, Value.ref 129), (1, Value.int (B - (1 : Int32)))]) rfl ?_
  refine i_183_25 (x := G) rfl ?_
  refine i_183_26 ?_
  refine i_183_28 (fun _ => ?_) (fun h => absurd (show G.toInt < 30 by omega) (Int.not_lt.mpr h))
  refine i_183_43 (x := 129) rfl ?_
  refine i_183_44 (v := Value.ref 130) hv rfl ?_
  refine i_183_47 (x := 1) rfl ?_
  refine i_183_48 (v := Value.int (xq (xqs m))) hvw (by decide) (by decide) hg1 ?_
  refine i_183_49 ?_
  refine i_183_50 (x := G) rfl ?_
  refine i_183_51 (c := ((1 : Int32) <<< (G &&& 31))) rfl ?_
  refine i_183_52 ?_
  refine i_183_53 (c := (((1 : Int32) <<< (G &&& 31)) - (1 : Int32))) rfl ?_
  refine i_183_54 (c := (xmk (xq (xqs m)) G)) rfl ?_
  refine i_183_55 (fun _ => ?_) (fun h => absurd (show (xmk (xq (xqs m)) G).toInt = 0 by omega) h)
  refine i_183_60 (x := 1) (c := 2) (lv2 := [(2, Value.int 2), (3, Value.int G), (0, Value.ref 129), (1, Value.int (B - (1 : Int32)))]) rfl (by decide) rfl ?_
  refine i_183_63 ?_
  refine i_183_2 (x := 2) rfl ?_
  refine i_183_3 (x := 129) rfl ?_
  refine i_183_4 (v := Value.int 2) hv rfl ?_
  refine i_183_7 (fun _ => ?_) (fun h => absurd h (by decide))
  refine i_183_66 ?_
  exact i_183_67 rfl ⟨rfl, rfl⟩
theorem any0_5 {d : Nat} {xs : Nat → Int32} {m : Int64} {sc md : Int32} {w : xW} {g : Nat → Value} {B K P G : Int32} (hB : B.toInt = (xbl (xul m) : Int)) (hv : w[129]? = some (Sum.inr (13, [Value.ref 130, Value.int 2]))) (hvw : w[130]? = some (Sum.inl (0, 4700, g))) (hg0 : g (0 : Int32).toInt.toNat = Value.int (xq m)) (hg1 : g (1 : Int32).toInt.toNat = Value.int (xq (xqs m))) (c0 : 0 ≤ (xs 1).toInt) (c1 : (xs 1).toInt < 16) (c2 : (-40000) ≤ sc.toInt) (c3 : sc.toInt ≤ 40000) (c4 : 0 ≤ md.toInt) (c5 : md.toInt ≤ 4) (c6 : K.toInt = 64 - B.toInt) (c7 : 35 ≤ B.toInt) (c8 : B.toInt ≤ 60) (c9 : (xhi m).toInt ≠ 0) (c10 : (xnlz (xhi m)).toInt = 64 - B.toInt) (c11 : (xbf 2 (xlo m) (xhi m) ((32 : Int32) - K)).toInt ≠ 0) (c12 : (lg_cmp m (0 : Int64)).toInt ≠ 0) (c13 : (lg_cmp (xqs m) (0 : Int64)).toInt ≠ 0) (c14 : (lg_cmp (xqs (xqs m)) (0 : Int64)).toInt = 0) (c15 : (xbn (xq (xqs m))).toInt = B.toInt - 30) (c16 : (xq (xqs m)).toInt ≠ 0) (c17 : 0 ≤ (xq (xqs m)).toInt) (c18 : K.toInt ≠ 0) (c19 : K / (30 : Int32) = 0) (c20 : K - K / (30 : Int32) * (30 : Int32) = P) (c21 : ((0 : Int32) ||| (xH (xq (xqs m)) P)).toInt ≠ 0) (c22 : 0 ≤ ((0 : Int32) ||| (xH (xq (xqs m)) P)).toInt) (c23 : (xbn ((0 : Int32) ||| (xH (xq (xqs m)) P))).toInt = 4) (c24 : G.toInt = B.toInt - 31) (hp : xPW m) : xRun d 183 [Value.ref 129, Value.int (B - (1 : Int32))] w (.inl (some (Value.int 0))) w := by
  rcases xpowM5 (m := m) (K := K) (P := P) (G := G) hB (by unfold xR5; exact ⟨c7, c8, c9, c10, c11, c12, c13, c14, c15, c16, c17, c18, c19, c20, c21, c22, c23, c24⟩) with ⟨c25, c26⟩ | ⟨c25, c26, c27⟩ | ⟨c25, c26, c27⟩
  · exact absurd hp c26
  · exact absurd hp c27
  · exact an5_2 (xs := xs) (sc := sc) (md := md) hv hvw hg0 hg1 c0 c1 c2 c3 c4 c5 c6 c7 c8 c9 c10 c11 c12 c13 c14 c15 c16 c17 c18 c19 c20 c21 c22 c23 c24 c25 c26
theorem any1_5 {d : Nat} {xs : Nat → Int32} {m : Int64} {sc md : Int32} {w : xW} {g : Nat → Value} {B K P G : Int32} (hB : B.toInt = (xbl (xul m) : Int)) (hv : w[129]? = some (Sum.inr (13, [Value.ref 130, Value.int 2]))) (hvw : w[130]? = some (Sum.inl (0, 4700, g))) (hg0 : g (0 : Int32).toInt.toNat = Value.int (xq m)) (hg1 : g (1 : Int32).toInt.toNat = Value.int (xq (xqs m))) (c0 : 0 ≤ (xs 1).toInt) (c1 : (xs 1).toInt < 16) (c2 : (-40000) ≤ sc.toInt) (c3 : sc.toInt ≤ 40000) (c4 : 0 ≤ md.toInt) (c5 : md.toInt ≤ 4) (c6 : K.toInt = 64 - B.toInt) (c7 : 35 ≤ B.toInt) (c8 : B.toInt ≤ 60) (c9 : (xhi m).toInt ≠ 0) (c10 : (xnlz (xhi m)).toInt = 64 - B.toInt) (c11 : (xbf 2 (xlo m) (xhi m) ((32 : Int32) - K)).toInt ≠ 0) (c12 : (lg_cmp m (0 : Int64)).toInt ≠ 0) (c13 : (lg_cmp (xqs m) (0 : Int64)).toInt ≠ 0) (c14 : (lg_cmp (xqs (xqs m)) (0 : Int64)).toInt = 0) (c15 : (xbn (xq (xqs m))).toInt = B.toInt - 30) (c16 : (xq (xqs m)).toInt ≠ 0) (c17 : 0 ≤ (xq (xqs m)).toInt) (c18 : K.toInt ≠ 0) (c19 : K / (30 : Int32) = 0) (c20 : K - K / (30 : Int32) * (30 : Int32) = P) (c21 : ((0 : Int32) ||| (xH (xq (xqs m)) P)).toInt ≠ 0) (c22 : 0 ≤ ((0 : Int32) ||| (xH (xq (xqs m)) P)).toInt) (c23 : (xbn ((0 : Int32) ||| (xH (xq (xqs m)) P))).toInt = 4) (c24 : G.toInt = B.toInt - 31) (hp : ¬ xPW m) : xRun d 183 [Value.ref 129, Value.int (B - (1 : Int32))] w (.inl (some (Value.int 1))) w := by
  rcases xpowM5 (m := m) (K := K) (P := P) (G := G) hB (by unfold xR5; exact ⟨c7, c8, c9, c10, c11, c12, c13, c14, c15, c16, c17, c18, c19, c20, c21, c22, c23, c24⟩) with ⟨c25, c26⟩ | ⟨c25, c26, c27⟩ | ⟨c25, c26, c27⟩
  · exact an5_0 (xs := xs) (sc := sc) (md := md) hv hvw hg0 hg1 c0 c1 c2 c3 c4 c5 c6 c7 c8 c9 c10 c11 c12 c13 c14 c15 c16 c17 c18 c19 c20 c21 c22 c23 c24 c25
  · exact an5_1 (xs := xs) (sc := sc) (md := md) hv hvw hg0 hg1 c0 c1 c2 c3 c4 c5 c6 c7 c8 c9 c10 c11 c12 c13 c14 c15 c16 c17 c18 c19 c20 c21 c22 c23 c24 c25 c26
  · exact absurd c27 hp
theorem an6_0 {d : Nat} {xs : Nat → Int32} {m : Int64} {sc md : Int32} {w : xW} {g : Nat → Value} {B K P G : Int32} (hv : w[129]? = some (Sum.inr (13, [Value.ref 130, Value.int 3]))) (hvw : w[130]? = some (Sum.inl (0, 4700, g))) (hg0 : g (0 : Int32).toInt.toNat = Value.int (xq m)) (hg1 : g (1 : Int32).toInt.toNat = Value.int (xq (xqs m))) (hg2 : g (2 : Int32).toInt.toNat = Value.int (xq (xqs (xqs m)))) (c0 : 0 ≤ (xs 1).toInt) (c1 : (xs 1).toInt < 16) (c2 : (-40000) ≤ sc.toInt) (c3 : sc.toInt ≤ 40000) (c4 : 0 ≤ md.toInt) (c5 : md.toInt ≤ 4) (c6 : K.toInt = 64 - B.toInt) (c7 : 61 ≤ B.toInt) (c8 : B.toInt ≤ 63) (c9 : (xhi m).toInt ≠ 0) (c10 : (xnlz (xhi m)).toInt = 64 - B.toInt) (c11 : (xbf 2 (xlo m) (xhi m) ((32 : Int32) - K)).toInt ≠ 0) (c12 : (lg_cmp m (0 : Int64)).toInt ≠ 0) (c13 : (lg_cmp (xqs m) (0 : Int64)).toInt ≠ 0) (c14 : (lg_cmp (xqs (xqs m)) (0 : Int64)).toInt ≠ 0) (c15 : (lg_cmp (xqs (xqs (xqs m))) (0 : Int64)).toInt = 0) (c16 : (xbn (xq (xqs (xqs m)))).toInt = B.toInt - 60) (c17 : (xq (xqs (xqs m))).toInt ≠ 0) (c18 : 0 ≤ (xq (xqs (xqs m))).toInt) (c19 : K.toInt ≠ 0) (c20 : K / (30 : Int32) = 0) (c21 : K - K / (30 : Int32) * (30 : Int32) = P) (c22 : ((0 : Int32) ||| (xH (xq (xqs (xqs m))) P)).toInt = 0) (c23 : ((xL (xq (xqs (xqs m))) P) ||| (xH (xq (xqs m)) P)).toInt ≠ 0) (c24 : 0 ≤ ((xL (xq (xqs (xqs m))) P) ||| (xH (xq (xqs m)) P)).toInt) (c25 : (xbn ((xL (xq (xqs (xqs m))) P) ||| (xH (xq (xqs m)) P))).toInt = 4) (c26 : G.toInt = B.toInt - 61) (c27 : (xq m).toInt ≠ 0) : xRun d 183 [Value.ref 129, Value.int (B - (1 : Int32))] w (.inl (some (Value.int 1))) w := by
  have f0 : (B - (1 : Int32)).toInt = B.toInt - 1 := xsub_g rfl rfl (by omega) (by omega)
  have f1 : ((B - (1 : Int32)) - (0 : Int32)).toInt = (B - (1 : Int32)).toInt - 0 := xsub_g rfl rfl (by omega) (by omega)
  refine xRun.of ?_
  refine i_183_0 ?_
  refine i_183_1 (lv2 := [(2, Value.int 0), (0, Value.ref 129), (1, Value.int (B - (1 : Int32)))]) rfl ?_
  refine i_183_2 (x := 0) rfl ?_
  refine i_183_3 (x := 129) rfl ?_
  refine i_183_4 (v := Value.int 3) hv rfl ?_
  refine i_183_7 (fun h => absurd h (by decide)) (fun _ => ?_)
  refine i_183_10 ?_
  refine i_183_12 (x := 0) rfl ?_
  refine i_183_13 (c := 0) (by decide) ?_
  refine i_183_14 (x := (B - (1 : Int32))) rfl ?_
  refine i_183_15 (fun h => absurd (show 0 < (B - (1 : Int32)).toInt by omega) (Int.not_lt.mpr h)) (fun _ => ?_)
  refine i_183_18 (x := (B - (1 : Int32))) rfl ?_
  refine i_183_19 ?_
  refine i_183_21 (x := 0) rfl ?_
  refine i_183_22 (c := 0) (by decide) ?_
  refine i_183_23 (c := ((B - (1 : Int32)) - (0 : Int32))) rfl ?_
  refine i_183_24 (lv2 := [(3, Value.int ((B - (1 : Int32)) - (0 : Int32))), (2, Value.int 0), (0, Value.ref 129), (1, Value.int (B - (1 : Int32)))]) rfl ?_
  refine i_183_25 (x := ((B - (1 : Int32)) - (0 : Int32))) rfl ?_
  refine i_183_26 ?_
  refine i_183_28 (fun h => absurd (show 30 ≤ ((B - (1 : Int32)) - (0 : Int32)).toInt by omega) (Int.not_le.mpr h)) (fun _ => ?_)
  refine i_183_31 (x := 129) rfl ?_
  refine i_183_32 (v := Value.ref 130) hv rfl ?_
  refine i_183_35 (x := 0) rfl ?_
  refine i_183_36 (v := Value.int (xq m)) hvw (by decide) (by decide) hg0 ?_
  refine i_183_37 (fun h => absurd (show (xq m).toInt ≠ 0 by omega) (fun g => g h)) (fun _ => ?_)
  refine i_183_40 ?_
  refine i_183_58 ?_
  exact i_183_59 rfl ⟨rfl, rfl⟩
theorem an6_1 {d : Nat} {xs : Nat → Int32} {m : Int64} {sc md : Int32} {w : xW} {g : Nat → Value} {B K P G : Int32} (hv : w[129]? = some (Sum.inr (13, [Value.ref 130, Value.int 3]))) (hvw : w[130]? = some (Sum.inl (0, 4700, g))) (hg0 : g (0 : Int32).toInt.toNat = Value.int (xq m)) (hg1 : g (1 : Int32).toInt.toNat = Value.int (xq (xqs m))) (hg2 : g (2 : Int32).toInt.toNat = Value.int (xq (xqs (xqs m)))) (c0 : 0 ≤ (xs 1).toInt) (c1 : (xs 1).toInt < 16) (c2 : (-40000) ≤ sc.toInt) (c3 : sc.toInt ≤ 40000) (c4 : 0 ≤ md.toInt) (c5 : md.toInt ≤ 4) (c6 : K.toInt = 64 - B.toInt) (c7 : 61 ≤ B.toInt) (c8 : B.toInt ≤ 63) (c9 : (xhi m).toInt ≠ 0) (c10 : (xnlz (xhi m)).toInt = 64 - B.toInt) (c11 : (xbf 2 (xlo m) (xhi m) ((32 : Int32) - K)).toInt ≠ 0) (c12 : (lg_cmp m (0 : Int64)).toInt ≠ 0) (c13 : (lg_cmp (xqs m) (0 : Int64)).toInt ≠ 0) (c14 : (lg_cmp (xqs (xqs m)) (0 : Int64)).toInt ≠ 0) (c15 : (lg_cmp (xqs (xqs (xqs m))) (0 : Int64)).toInt = 0) (c16 : (xbn (xq (xqs (xqs m)))).toInt = B.toInt - 60) (c17 : (xq (xqs (xqs m))).toInt ≠ 0) (c18 : 0 ≤ (xq (xqs (xqs m))).toInt) (c19 : K.toInt ≠ 0) (c20 : K / (30 : Int32) = 0) (c21 : K - K / (30 : Int32) * (30 : Int32) = P) (c22 : ((0 : Int32) ||| (xH (xq (xqs (xqs m))) P)).toInt = 0) (c23 : ((xL (xq (xqs (xqs m))) P) ||| (xH (xq (xqs m)) P)).toInt ≠ 0) (c24 : 0 ≤ ((xL (xq (xqs (xqs m))) P) ||| (xH (xq (xqs m)) P)).toInt) (c25 : (xbn ((xL (xq (xqs (xqs m))) P) ||| (xH (xq (xqs m)) P))).toInt = 4) (c26 : G.toInt = B.toInt - 61) (c27 : (xq m).toInt = 0) (c28 : (xq (xqs m)).toInt ≠ 0) : xRun d 183 [Value.ref 129, Value.int (B - (1 : Int32))] w (.inl (some (Value.int 1))) w := by
  have f0 : (B - (1 : Int32)).toInt = B.toInt - 1 := xsub_g rfl rfl (by omega) (by omega)
  have f1 : ((B - (1 : Int32)) - (0 : Int32)).toInt = (B - (1 : Int32)).toInt - 0 := xsub_g rfl rfl (by omega) (by omega)
  have f2 : ((B - (1 : Int32)) - (30 : Int32)).toInt = (B - (1 : Int32)).toInt - 30 := xsub_g rfl rfl (by omega) (by omega)
  refine xRun.of ?_
  refine i_183_0 ?_
  refine i_183_1 (lv2 := [(2, Value.int 0), (0, Value.ref 129), (1, Value.int (B - (1 : Int32)))]) rfl ?_
  refine i_183_2 (x := 0) rfl ?_
  refine i_183_3 (x := 129) rfl ?_
  refine i_183_4 (v := Value.int 3) hv rfl ?_
  refine i_183_7 (fun h => absurd h (by decide)) (fun _ => ?_)
  refine i_183_10 ?_
  refine i_183_12 (x := 0) rfl ?_
  refine i_183_13 (c := 0) (by decide) ?_
  refine i_183_14 (x := (B - (1 : Int32))) rfl ?_
  refine i_183_15 (fun h => absurd (show 0 < (B - (1 : Int32)).toInt by omega) (Int.not_lt.mpr h)) (fun _ => ?_)
  refine i_183_18 (x := (B - (1 : Int32))) rfl ?_
  refine i_183_19 ?_
  refine i_183_21 (x := 0) rfl ?_
  refine i_183_22 (c := 0) (by decide) ?_
  refine i_183_23 (c := ((B - (1 : Int32)) - (0 : Int32))) rfl ?_
  refine i_183_24 (lv2 := [(3, Value.int ((B - (1 : Int32)) - (0 : Int32))), (2, Value.int 0), (0, Value.ref 129), (1, Value.int (B - (1 : Int32)))]) rfl ?_
  refine i_183_25 (x := ((B - (1 : Int32)) - (0 : Int32))) rfl ?_
  refine i_183_26 ?_
  refine i_183_28 (fun h => absurd (show 30 ≤ ((B - (1 : Int32)) - (0 : Int32)).toInt by omega) (Int.not_le.mpr h)) (fun _ => ?_)
  refine i_183_31 (x := 129) rfl ?_
  refine i_183_32 (v := Value.ref 130) hv rfl ?_
  refine i_183_35 (x := 0) rfl ?_
  refine i_183_36 (v := Value.int (xq m)) hvw (by decide) (by decide) hg0 ?_
  refine i_183_37 (fun _ => ?_) (fun h => absurd (show (xq m).toInt = 0 by omega) h)
  refine i_183_60 (x := 0) (c := 1) (lv2 := [(2, Value.int 1), (3, Value.int ((B - (1 : Int32)) - (0 : Int32))), (0, Value.ref 129), (1, Value.int (B - (1 : Int32)))]) rfl (by decide) rfl ?_
  refine i_183_63 ?_
  refine i_183_2 (x := 1) rfl ?_
  refine i_183_3 (x := 129) rfl ?_
  refine i_183_4 (v := Value.int 3) hv rfl ?_
  refine i_183_7 (fun h => absurd h (by decide)) (fun _ => ?_)
  refine i_183_10 ?_
  refine i_183_12 (x := 1) rfl ?_
  refine i_183_13 (c := 30) (by decide) ?_
  refine i_183_14 (x := (B - (1 : Int32))) rfl ?_
  refine i_183_15 (fun h => absurd (show 30 < (B - (1 : Int32)).toInt by omega) (Int.not_lt.mpr h)) (fun _ => ?_)
  refine i_183_18 (x := (B - (1 : Int32))) rfl ?_
  refine i_183_19 ?_
  refine i_183_21 (x := 1) rfl ?_
  refine i_183_22 (c := 30) (by decide) ?_
  refine i_183_23 (c := ((B - (1 : Int32)) - (30 : Int32))) rfl ?_
  refine i_183_24 (lv2 := [(3, Value.int ((B - (1 : Int32)) - (30 : Int32))), (2, Value.int 1), (0, Value.ref 129), (1, Value.int (B - (1 : Int32)))]) rfl ?_
  refine i_183_25 (x := ((B - (1 : Int32)) - (30 : Int32))) rfl ?_
  refine i_183_26 ?_
  refine i_183_28 (fun h => absurd (show 30 ≤ ((B - (1 : Int32)) - (30 : Int32)).toInt by omega) (Int.not_le.mpr h)) (fun _ => ?_)
  refine i_183_31 (x := 129) rfl ?_
  refine i_183_32 (v := Value.ref 130) hv rfl ?_
  refine i_183_35 (x := 1) rfl ?_
  refine i_183_36 (v := Value.int (xq (xqs m))) hvw (by decide) (by decide) hg1 ?_
  refine i_183_37 (fun h => absurd (show (xq (xqs m)).toInt ≠ 0 by omega) (fun g => g h)) (fun _ => ?_)
  refine i_183_40 ?_
  refine i_183_58 ?_
  exact i_183_59 rfl ⟨rfl, rfl⟩
theorem an6_2 {d : Nat} {xs : Nat → Int32} {m : Int64} {sc md : Int32} {w : xW} {g : Nat → Value} {B K P G : Int32} (hv : w[129]? = some (Sum.inr (13, [Value.ref 130, Value.int 3]))) (hvw : w[130]? = some (Sum.inl (0, 4700, g))) (hg0 : g (0 : Int32).toInt.toNat = Value.int (xq m)) (hg1 : g (1 : Int32).toInt.toNat = Value.int (xq (xqs m))) (hg2 : g (2 : Int32).toInt.toNat = Value.int (xq (xqs (xqs m)))) (c0 : 0 ≤ (xs 1).toInt) (c1 : (xs 1).toInt < 16) (c2 : (-40000) ≤ sc.toInt) (c3 : sc.toInt ≤ 40000) (c4 : 0 ≤ md.toInt) (c5 : md.toInt ≤ 4) (c6 : K.toInt = 64 - B.toInt) (c7 : 61 ≤ B.toInt) (c8 : B.toInt ≤ 63) (c9 : (xhi m).toInt ≠ 0) (c10 : (xnlz (xhi m)).toInt = 64 - B.toInt) (c11 : (xbf 2 (xlo m) (xhi m) ((32 : Int32) - K)).toInt ≠ 0) (c12 : (lg_cmp m (0 : Int64)).toInt ≠ 0) (c13 : (lg_cmp (xqs m) (0 : Int64)).toInt ≠ 0) (c14 : (lg_cmp (xqs (xqs m)) (0 : Int64)).toInt ≠ 0) (c15 : (lg_cmp (xqs (xqs (xqs m))) (0 : Int64)).toInt = 0) (c16 : (xbn (xq (xqs (xqs m)))).toInt = B.toInt - 60) (c17 : (xq (xqs (xqs m))).toInt ≠ 0) (c18 : 0 ≤ (xq (xqs (xqs m))).toInt) (c19 : K.toInt ≠ 0) (c20 : K / (30 : Int32) = 0) (c21 : K - K / (30 : Int32) * (30 : Int32) = P) (c22 : ((0 : Int32) ||| (xH (xq (xqs (xqs m))) P)).toInt = 0) (c23 : ((xL (xq (xqs (xqs m))) P) ||| (xH (xq (xqs m)) P)).toInt ≠ 0) (c24 : 0 ≤ ((xL (xq (xqs (xqs m))) P) ||| (xH (xq (xqs m)) P)).toInt) (c25 : (xbn ((xL (xq (xqs (xqs m))) P) ||| (xH (xq (xqs m)) P))).toInt = 4) (c26 : G.toInt = B.toInt - 61) (c27 : (xq m).toInt = 0) (c28 : (xq (xqs m)).toInt = 0) (c29 : B.toInt = 61) : xRun d 183 [Value.ref 129, Value.int (B - (1 : Int32))] w (.inl (some (Value.int 0))) w := by
  have f0 : (B - (1 : Int32)).toInt = B.toInt - 1 := xsub_g rfl rfl (by omega) (by omega)
  have f1 : ((B - (1 : Int32)) - (0 : Int32)).toInt = (B - (1 : Int32)).toInt - 0 := xsub_g rfl rfl (by omega) (by omega)
  have f2 : ((B - (1 : Int32)) - (30 : Int32)).toInt = (B - (1 : Int32)).toInt - 30 := xsub_g rfl rfl (by omega) (by omega)
  refine xRun.of ?_
  refine i_183_0 ?_
  refine i_183_1 (lv2 := [(2, Value.int 0), (0, Value.ref 129), (1, Value.int (B - (1 : Int32)))]) rfl ?_
  refine i_183_2 (x := 0) rfl ?_
  refine i_183_3 (x := 129) rfl ?_
  refine i_183_4 (v := Value.int 3) hv rfl ?_
  refine i_183_7 (fun h => absurd h (by decide)) (fun _ => ?_)
  refine i_183_10 ?_
  refine i_183_12 (x := 0) rfl ?_
  refine i_183_13 (c := 0) (by decide) ?_
  refine i_183_14 (x := (B - (1 : Int32))) rfl ?_
  refine i_183_15 (fun h => absurd (show 0 < (B - (1 : Int32)).toInt by omega) (Int.not_lt.mpr h)) (fun _ => ?_)
  refine i_183_18 (x := (B - (1 : Int32))) rfl ?_
  refine i_183_19 ?_
  refine i_183_21 (x := 0) rfl ?_
  refine i_183_22 (c := 0) (by decide) ?_
  refine i_183_23 (c := ((B - (1 : Int32)) - (0 : Int32))) rfl ?_
  refine i_183_24 (lv2 := [(3, Value.int ((B - (1 : Int32)) - (0 : Int32))), (2, Value.int 0), (0, Value.ref 129), (1, Value.int (B - (1 : Int32)))]) rfl ?_
  refine i_183_25 (x := ((B - (1 : Int32)) - (0 : Int32))) rfl ?_
  refine i_183_26 ?_
  refine i_183_28 (fun h => absurd (show 30 ≤ ((B - (1 : Int32)) - (0 : Int32)).toInt by omega) (Int.not_le.mpr h)) (fun _ => ?_)
  refine i_183_31 (x := 129) rfl ?_
  refine i_183_32 (v := Value.ref 130) hv rfl ?_
  refine i_183_35 (x := 0) rfl ?_
  refine i_183_36 (v := Value.int (xq m)) hvw (by decide) (by decide) hg0 ?_
  refine i_183_37 (fun _ => ?_) (fun h => absurd (show (xq m).toInt = 0 by omega) h)
  refine i_183_60 (x := 0) (c := 1) (lv2 := [(2, Value.int 1), (3, Value.int ((B - (1 : Int32)) - (0 : Int32))), (0, Value.ref 129), (1, Value.int (B - (1 : Int32)))]) rfl (by decide) rfl ?_
  refine i_183_63 ?_
  refine i_183_2 (x := 1) rfl ?_
  refine i_183_3 (x := 129) rfl ?_
  refine i_183_4 (v := Value.int 3) hv rfl ?_
  refine i_183_7 (fun h => absurd h (by decide)) (fun _ => ?_)
  refine i_183_10 ?_
  refine i_183_12 (x := 1) rfl ?_
  refine i_183_13 (c := 30) (by decide) ?_
  refine i_183_14 (x := (B - (1 : Int32))) rfl ?_
  refine i_183_15 (fun h => absurd (show 30 < (B - (1 : Int32)).toInt by omega) (Int.not_lt.mpr h)) (fun _ => ?_)
  refine i_183_18 (x := (B - (1 : Int32))) rfl ?_
  refine i_183_19 ?_
  refine i_183_21 (x := 1) rfl ?_
  refine i_183_22 (c := 30) (by decide) ?_
  refine i_183_23 (c := ((B - (1 : Int32)) - (30 : Int32))) rfl ?_
  refine i_183_24 (lv2 := [(3, Value.int ((B - (1 : Int32)) - (30 : Int32))), (2, Value.int 1), (0, Value.ref 129), (1, Value.int (B - (1 : Int32)))]) rfl ?_
  refine i_183_25 (x := ((B - (1 : Int32)) - (30 : Int32))) rfl ?_
  refine i_183_26 ?_
  refine i_183_28 (fun h => absurd (show 30 ≤ ((B - (1 : Int32)) - (30 : Int32)).toInt by omega) (Int.not_le.mpr h)) (fun _ => ?_)
  refine i_183_31 (x := 129) rfl ?_
  refine i_183_32 (v := Value.ref 130) hv rfl ?_
  refine i_183_35 (x := 1) rfl ?_
  refine i_183_36 (v := Value.int (xq (xqs m))) hvw (by decide) (by decide) hg1 ?_
  refine i_183_37 (fun _ => ?_) (fun h => absurd (show (xq (xqs m)).toInt = 0 by omega) h)
  refine i_183_60 (x := 1) (c := 2) (lv2 := [(2, Value.int 2), (3, Value.int ((B - (1 : Int32)) - (30 : Int32))), (0, Value.ref 129), (1, Value.int (B - (1 : Int32)))]) rfl (by decide) rfl ?_
  refine i_183_63 ?_
  refine i_183_2 (x := 2) rfl ?_
  refine i_183_3 (x := 129) rfl ?_
  refine i_183_4 (v := Value.int 3) hv rfl ?_
  refine i_183_7 (fun h => absurd h (by decide)) (fun _ => ?_)
  refine i_183_10 ?_
  refine i_183_12 (x := 2) rfl ?_
  refine i_183_13 (c := 60) (by decide) ?_
  refine i_183_14 (x := (B - (1 : Int32))) rfl ?_
  refine i_183_15 (fun _ => ?_) (fun h => absurd (show (B - (1 : Int32)).toInt ≤ 60 by omega) (Int.not_le.mpr h))
  refine i_183_66 ?_
  exact i_183_67 rfl ⟨rfl, rfl⟩
theorem an6_3 {d : Nat} {xs : Nat → Int32} {m : Int64} {sc md : Int32} {w : xW} {g : Nat → Value} {B K P G : Int32} (hv : w[129]? = some (Sum.inr (13, [Value.ref 130, Value.int 3]))) (hvw : w[130]? = some (Sum.inl (0, 4700, g))) (hg0 : g (0 : Int32).toInt.toNat = Value.int (xq m)) (hg1 : g (1 : Int32).toInt.toNat = Value.int (xq (xqs m))) (hg2 : g (2 : Int32).toInt.toNat = Value.int (xq (xqs (xqs m)))) (c0 : 0 ≤ (xs 1).toInt) (c1 : (xs 1).toInt < 16) (c2 : (-40000) ≤ sc.toInt) (c3 : sc.toInt ≤ 40000) (c4 : 0 ≤ md.toInt) (c5 : md.toInt ≤ 4) (c6 : K.toInt = 64 - B.toInt) (c7 : 61 ≤ B.toInt) (c8 : B.toInt ≤ 63) (c9 : (xhi m).toInt ≠ 0) (c10 : (xnlz (xhi m)).toInt = 64 - B.toInt) (c11 : (xbf 2 (xlo m) (xhi m) ((32 : Int32) - K)).toInt ≠ 0) (c12 : (lg_cmp m (0 : Int64)).toInt ≠ 0) (c13 : (lg_cmp (xqs m) (0 : Int64)).toInt ≠ 0) (c14 : (lg_cmp (xqs (xqs m)) (0 : Int64)).toInt ≠ 0) (c15 : (lg_cmp (xqs (xqs (xqs m))) (0 : Int64)).toInt = 0) (c16 : (xbn (xq (xqs (xqs m)))).toInt = B.toInt - 60) (c17 : (xq (xqs (xqs m))).toInt ≠ 0) (c18 : 0 ≤ (xq (xqs (xqs m))).toInt) (c19 : K.toInt ≠ 0) (c20 : K / (30 : Int32) = 0) (c21 : K - K / (30 : Int32) * (30 : Int32) = P) (c22 : ((0 : Int32) ||| (xH (xq (xqs (xqs m))) P)).toInt = 0) (c23 : ((xL (xq (xqs (xqs m))) P) ||| (xH (xq (xqs m)) P)).toInt ≠ 0) (c24 : 0 ≤ ((xL (xq (xqs (xqs m))) P) ||| (xH (xq (xqs m)) P)).toInt) (c25 : (xbn ((xL (xq (xqs (xqs m))) P) ||| (xH (xq (xqs m)) P))).toInt = 4) (c26 : G.toInt = B.toInt - 61) (c27 : (xq m).toInt = 0) (c28 : (xq (xqs m)).toInt = 0) (c29 : B.toInt ≠ 61) (c30 : (xmk (xq (xqs (xqs m))) G).toInt ≠ 0) : xRun d 183 [Value.ref 129, Value.int (B - (1 : Int32))] w (.inl (some (Value.int 1))) w := by
  have f0 : (B - (1 : Int32)).toInt = B.toInt - 1 := xsub_g rfl rfl (by omega) (by omega)
  have f1 : ((B - (1 : Int32)) - (0 : Int32)).toInt = (B - (1 : Int32)).toInt - 0 := xsub_g rfl rfl (by omega) (by omega)
  have f2 : ((B - (1 : Int32)) - (30 : Int32)).toInt = (B - (1 : Int32)).toInt - 30 := xsub_g rfl rfl (by omega) (by omega)
  have f3 : ((B - (1 : Int32)) - (60 : Int32)).toInt = (B - (1 : Int32)).toInt - 60 := xsub_g rfl rfl (by omega) (by omega)
  refine xRun.of ?_
  refine i_183_0 ?_
  refine i_183_1 (lv2 := [(2, Value.int 0), (0, Value.ref 129), (1, Value.int (B - (1 : Int32)))]) rfl ?_
  refine i_183_2 (x := 0) rfl ?_
  refine i_183_3 (x := 129) rfl ?_
  refine i_183_4 (v := Value.int 3) hv rfl ?_
  refine i_183_7 (fun h => absurd h (by decide)) (fun _ => ?_)
  refine i_183_10 ?_
  refine i_183_12 (x := 0) rfl ?_
  refine i_183_13 (c := 0) (by decide) ?_
  refine i_183_14 (x := (B - (1 : Int32))) rfl ?_
  refine i_183_15 (fun h => absurd (show 0 < (B - (1 : Int32)).toInt by omega) (Int.not_lt.mpr h)) (fun _ => ?_)
  refine i_183_18 (x := (B - (1 : Int32))) rfl ?_
  refine i_183_19 ?_
  refine i_183_21 (x := 0) rfl ?_
  refine i_183_22 (c := 0) (by decide) ?_
  refine i_183_23 (c := ((B - (1 : Int32)) - (0 : Int32))) rfl ?_
  refine i_183_24 (lv2 := [(3, Value.int ((B - (1 : Int32)) - (0 : Int32))), (2, Value.int 0), (0, Value.ref 129), (1, Value.int (B - (1 : Int32)))]) rfl ?_
  refine i_183_25 (x := ((B - (1 : Int32)) - (0 : Int32))) rfl ?_
  refine i_183_26 ?_
  refine i_183_28 (fun h => absurd (show 30 ≤ ((B - (1 : Int32)) - (0 : Int32)).toInt by omega) (Int.not_le.mpr h)) (fun _ => ?_)
  refine i_183_31 (x := 129) rfl ?_
  refine i_183_32 (v := Value.ref 130) hv rfl ?_
  refine i_183_35 (x := 0) rfl ?_
  refine i_183_36 (v := Value.int (xq m)) hvw (by decide) (by decide) hg0 ?_
  refine i_183_37 (fun _ => ?_) (fun h => absurd (show (xq m).toInt = 0 by omega) h)
  refine i_183_60 (x := 0) (c := 1) (lv2 := [(2, Value.int 1), (3, Value.int ((B - (1 : Int32)) - (0 : Int32))), (0, Value.ref 129), (1, Value.int (B - (1 : Int32)))]) rfl (by decide) rfl ?_
  refine i_183_63 ?_
  refine i_183_2 (x := 1) rfl ?_
  refine i_183_3 (x := 129) rfl ?_
  refine i_183_4 (v := Value.int 3) hv rfl ?_
  refine i_183_7 (fun h => absurd h (by decide)) (fun _ => ?_)
  refine i_183_10 ?_
  refine i_183_12 (x := 1) rfl ?_
  refine i_183_13 (c := 30) (by decide) ?_
  refine i_183_14 (x := (B - (1 : Int32))) rfl ?_
  refine i_183_15 (fun h => absurd (show 30 < (B - (1 : Int32)).toInt by omega) (Int.not_lt.mpr h)) (fun _ => ?_)
  refine i_183_18 (x := (B - (1 : Int32))) rfl ?_
  refine i_183_19 ?_
  refine i_183_21 (x := 1) rfl ?_
  refine i_183_22 (c := 30) (by decide) ?_
  refine i_183_23 (c := ((B - (1 : Int32)) - (30 : Int32))) rfl ?_
  refine i_183_24 (lv2 := [(3, Value.int ((B - (1 : Int32)) - (30 : Int32))), (2, Value.int 1), (0, Value.ref 129), (1, Value.int (B - (1 : Int32)))]) rfl ?_
  refine i_183_25 (x := ((B - (1 : Int32)) - (30 : Int32))) rfl ?_
  refine i_183_26 ?_
  refine i_183_28 (fun h => absurd (show 30 ≤ ((B - (1 : Int32)) - (30 : Int32)).toInt by omega) (Int.not_le.mpr h)) (fun _ => ?_)
  refine i_183_31 (x := 129) rfl ?_
  refine i_183_32 (v := Value.ref 130) hv rfl ?_
  refine i_183_35 (x := 1) rfl ?_
  refine i_183_36 (v := Value.int (xq (xqs m))) hvw (by decide) (by decide) hg1 ?_
  refine i_183_37 (fun _ => ?_) (fun h => absurd (show (xq (xqs m)).toInt = 0 by omega) h)
  refine i_183_60 (x := 1) (c := 2) (lv2 := [(2, Value.int 2), (3, Value.int ((B - (1 : Int32)) - (30 : Int32))), (0, Value.ref 129), (1, Value.int (B - (1 : Int32)))]) rfl (by decide) rfl ?_
  refine i_183_63 ?_
  refine i_183_2 (x := 2) rfl ?_
  refine i_183_3 (x := 129) rfl ?_
  refine i_183_4 (v := Value.int 3) hv rfl ?_
  refine i_183_7 (fun h => absurd h (by decide)) (fun _ => ?_)
  refine i_183_10 ?_
  refine i_183_12 (x := 2) rfl ?_
  refine i_183_13 (c := 60) (by decide) ?_
  refine i_183_14 (x := (B - (1 : Int32))) rfl ?_
  refine i_183_15 (fun h => absurd (show 60 < (B - (1 : Int32)).toInt by omega) (Int.not_lt.mpr h)) (fun _ => ?_)
  refine i_183_18 (x := (B - (1 : Int32))) rfl ?_
  refine i_183_19 ?_
  refine i_183_21 (x := 2) rfl ?_
  refine i_183_22 (c := 60) (by decide) ?_
  refine i_183_23 (c := G) (show ((B - (1 : Int32)) - (60 : Int32)) = G from (xge_i (by omega))) ?_
  refine i_183_24 (lv2 := [(3, Value.int G), (2, Value.int 2), (0, Value.ref 129), (1, Value.int (B - (1 : Int32)))]) rfl ?_
  refine i_183_25 (x := G) rfl ?_
  refine i_183_26 ?_
  refine i_183_28 (fun _ => ?_) (fun h => absurd (show G.toInt < 30 by omega) (Int.not_lt.mpr h))
  refine i_183_43 (x := 129) rfl ?_
  refine i_183_44 (v := Value.ref 130) hv rfl ?_
  refine i_183_47 (x := 2) rfl ?_
  refine i_183_48 (v := Value.int (xq (xqs (xqs m)))) hvw (by decide) (by decide) hg2 ?_
  refine i_183_49 ?_
  refine i_183_50 (x := G) rfl ?_
  refine i_183_51 (c := ((1 : Int32) <<< (G &&& 31))) rfl ?_
  refine i_183_52 ?_
  refine i_183_53 (c := (((1 : Int32) <<< (G &&& 31)) - (1 : Int32))) rfl ?_
  refine i_183_54 (c := (xmk (xq (xqs (xqs m))) G)) rfl ?_
  refine i_183_55 (fun h => absurd (show (xmk (xq (xqs (xqs m))) G).toInt ≠ 0 by omega) (fun g => g h)) (fun _ => ?_)
  refine i_183_58 ?_
  exact i_183_59 rfl ⟨rfl, rfl⟩
theorem an6_4 {d : Nat} {xs : Nat → Int32} {m : Int64} {sc md : Int32} {w : xW} {g : Nat → Value} {B K P G : Int32} (hv : w[129]? = some (Sum.inr (13, [Value.ref 130, Value.int 3]))) (hvw : w[130]? = some (Sum.inl (0, 4700, g))) (hg0 : g (0 : Int32).toInt.toNat = Value.int (xq m)) (hg1 : g (1 : Int32).toInt.toNat = Value.int (xq (xqs m))) (hg2 : g (2 : Int32).toInt.toNat = Value.int (xq (xqs (xqs m)))) (c0 : 0 ≤ (xs 1).toInt) (c1 : (xs 1).toInt < 16) (c2 : (-40000) ≤ sc.toInt) (c3 : sc.toInt ≤ 40000) (c4 : 0 ≤ md.toInt) (c5 : md.toInt ≤ 4) (c6 : K.toInt = 64 - B.toInt) (c7 : 61 ≤ B.toInt) (c8 : B.toInt ≤ 63) (c9 : (xhi m).toInt ≠ 0) (c10 : (xnlz (xhi m)).toInt = 64 - B.toInt) (c11 : (xbf 2 (xlo m) (xhi m) ((32 : Int32) - K)).toInt ≠ 0) (c12 : (lg_cmp m (0 : Int64)).toInt ≠ 0) (c13 : (lg_cmp (xqs m) (0 : Int64)).toInt ≠ 0) (c14 : (lg_cmp (xqs (xqs m)) (0 : Int64)).toInt ≠ 0) (c15 : (lg_cmp (xqs (xqs (xqs m))) (0 : Int64)).toInt = 0) (c16 : (xbn (xq (xqs (xqs m)))).toInt = B.toInt - 60) (c17 : (xq (xqs (xqs m))).toInt ≠ 0) (c18 : 0 ≤ (xq (xqs (xqs m))).toInt) (c19 : K.toInt ≠ 0) (c20 : K / (30 : Int32) = 0) (c21 : K - K / (30 : Int32) * (30 : Int32) = P) (c22 : ((0 : Int32) ||| (xH (xq (xqs (xqs m))) P)).toInt = 0) (c23 : ((xL (xq (xqs (xqs m))) P) ||| (xH (xq (xqs m)) P)).toInt ≠ 0) (c24 : 0 ≤ ((xL (xq (xqs (xqs m))) P) ||| (xH (xq (xqs m)) P)).toInt) (c25 : (xbn ((xL (xq (xqs (xqs m))) P) ||| (xH (xq (xqs m)) P))).toInt = 4) (c26 : G.toInt = B.toInt - 61) (c27 : (xq m).toInt = 0) (c28 : (xq (xqs m)).toInt = 0) (c29 : B.toInt ≠ 61) (c30 : (xmk (xq (xqs (xqs m))) G).toInt = 0) : xRun d 183 [Value.ref 129, Value.int (B - (1 : Int32))] w (.inl (some (Value.int 0))) w := by
  have f0 : (B - (1 : Int32)).toInt = B.toInt - 1 := xsub_g rfl rfl (by omega) (by omega)
  have f1 : ((B - (1 : Int32)) - (0 : Int32)).toInt = (B - (1 : Int32)).toInt - 0 := xsub_g rfl rfl (by omega) (by omega)
  have f2 : ((B - (1 : Int32)) - (30 : Int32)).toInt = (B - (1 : Int32)).toInt - 30 := xsub_g rfl rfl (by omega) (by omega)
  have f3 : ((B - (1 : Int32)) - (60 : Int32)).toInt = (B - (1 : Int32)).toInt - 60 := xsub_g rfl rfl (by omega) (by omega)
  refine xRun.of ?_
  refine i_183_0 ?_
  refine i_183_1 (lv2 := [(2, Value.int 0), (0, Value.ref 129), (1, Value.int (B - (1 : Int32)))]) rfl ?_
  refine i_183_2 (x := 0) rfl ?_
  refine i_183_3 (x := 129) rfl ?_
  refine i_183_4 (v := Value.int 3) hv rfl ?_
  refine i_183_7 (fun h => absurd h (by decide)) (fun _ => ?_)
  refine i_183_10 ?_
  refine i_183_12 (x := 0) rfl ?_
  refine i_183_13 (c := 0) (by decide) ?_
  refine i_183_14 (x := (B - (1 : Int32))) rfl ?_
  refine i_183_15 (fun h => absurd (show 0 < (B - (1 : Int32)).toInt by omega) (Int.not_lt.mpr h)) (fun _ => ?_)
  refine i_183_18 (x := (B - (1 : Int32))) rfl ?_
  refine i_183_19 ?_
  refine i_183_21 (x := 0) rfl ?_
  refine i_183_22 (c := 0) (by decide) ?_
  refine i_183_23 (c := ((B - (1 : Int32)) - (0 : Int32))) rfl ?_
  refine i_183_24 (lv2 := [(3, Value.int ((B - (1 : Int32)) - (0 : Int32))), (2, Value.int 0), (0, Value.ref 129), (1, Value.int (B - (1 : Int32)))]) rfl ?_
  refine i_183_25 (x := ((B - (1 : Int32)) - (0 : Int32))) rfl ?_
  refine i_183_26 ?_
  refine i_183_28 (fun h => absurd (show 30 ≤ ((B - (1 : Int32)) - (0 : Int32)).toInt by omega) (Int.not_le.mpr h)) (fun _ => ?_)
  refine i_183_31 (x := 129) rfl ?_
  refine i_183_32 (v := Value.ref 130) hv rfl ?_
  refine i_183_35 (x := 0) rfl ?_
  refine i_183_36 (v := Value.int (xq m)) hvw (by decide) (by decide) hg0 ?_
  refine i_183_37 (fun _ => ?_) (fun h => absurd (show (xq m).toInt = 0 by omega) h)
  refine i_183_60 (x := 0) (c := 1) (lv2 := [(2, Value.int 1), (3, Value.int ((B - (1 : Int32)) - (0 : Int32))), (0, Value.ref 129), (1, Value.int (B - (1 : Int32)))]) rfl (by decide) rfl ?_
  refine i_183_63 ?_
  refine i_183_2 (x := 1) rfl ?_
  refine i_183_3 (x := 129) rfl ?_
  refine i_183_4 (v := Value.int 3) hv rfl ?_
  refine i_183_7 (fun h => absurd h (by decide)) (fun _ => ?_)
  refine i_183_10 ?_
  refine i_183_12 (x := 1) rfl ?_
  refine i_183_13 (c := 30) (by decide) ?_
  refine i_183_14 (x := (B - (1 : Int32))) rfl ?_
  refine i_183_15 (fun h => absurd (show 30 < (B - (1 : Int32)).toInt by omega) (Int.not_lt.mpr h)) (fun _ => ?_)
  refine i_183_18 (x := (B - (1 : Int32))) rfl ?_
  refine i_183_19 ?_
  refine i_183_21 (x := 1) rfl ?_
  refine i_183_22 (c := 30) (by decide) ?_
  refine i_183_23 (c := ((B - (1 : Int32)) - (30 : Int32))) rfl ?_
  refine i_183_24 (lv2 := [(3, Value.int ((B - (1 : Int32)) - (30 : Int32))), (2, Value.int 1), (0, Value.ref 129), (1, Value.int (B - (1 : Int32)))]) rfl ?_
  refine i_183_25 (x := ((B - (1 : Int32)) - (30 : Int32))) rfl ?_
  refine i_183_26 ?_
  refine i_183_28 (fun h => absurd (show 30 ≤ ((B - (1 : Int32)) - (30 : Int32)).toInt by omega) (Int.not_le.mpr h)) (fun _ => ?_)
  refine i_183_31 (x := 129) rfl ?_
  refine i_183_32 (v := Value.ref 130) hv rfl ?_
  refine i_183_35 (x := 1) rfl ?_
  refine i_183_36 (v := Value.int (xq (xqs m))) hvw (by decide) (by decide) hg1 ?_
  refine i_183_37 (fun _ => ?_) (fun h => absurd (show (xq (xqs m)).toInt = 0 by omega) h)
  refine i_183_60 (x := 1) (c := 2) (lv2 := [(2, Value.int 2), (3, Value.int ((B - (1 : Int32)) - (30 : Int32))), (0, Value.ref 129), (1, Value.int (B - (1 : Int32)))]) rfl (by decide) rfl ?_
  refine i_183_63 ?_
  refine i_183_2 (x := 2) rfl ?_
  refine i_183_3 (x := 129) rfl ?_
  refine i_183_4 (v := Value.int 3) hv rfl ?_
  refine i_183_7 (fun h => absurd h (by decide)) (fun _ => ?_)
  refine i_183_10 ?_
  refine i_183_12 (x := 2) rfl ?_
  refine i_183_13 (c := 60) (by decide) ?_
  refine i_183_14 (x := (B - (1 : Int32))) rfl ?_
  refine i_183_15 (fun h => absurd (show 60 < (B - (1 : Int32)).toInt by omega) (Int.not_lt.mpr h)) (fun _ => ?_)
  refine i_183_18 (x := (B - (1 : Int32))) rfl ?_
  refine i_183_19 ?_
  refine i_183_21 (x := 2) rfl ?_
  refine i_183_22 (c := 60) (by decide) ?_
  refine i_183_23 (c := G) (show ((B - (1 : Int32)) - (60 : Int32)) = G from (xge_i (by omega))) ?_
  refine i_183_24 (lv2 := [(3, Value.int G), (2, Value.int 2), (0, Value.ref 129), (1, Value.int (B - (1 : Int32)))]) rfl ?_
  refine i_183_25 (x := G) rfl ?_
  refine i_183_26 ?_
  refine i_183_28 (fun _ => ?_) (fun h => absurd (show G.toInt < 30 by omega) (Int.not_lt.mpr h))
  refine i_183_43 (x := 129) rfl ?_
  refine i_183_44 (v := Value.ref 130) hv rfl ?_
  refine i_183_47 (x := 2) rfl ?_
  refine i_183_48 (v := Value.int (xq (xqs (xqs m)))) hvw (by decide) (by decide) hg2 ?_
  refine i_183_49 ?_
  refine i_183_50 (x := G) rfl ?_
  refine i_183_51 (c := ((1 : Int32) <<< (G &&& 31))) rfl ?_
  refine i_183_52 ?_
  refine i_183_53 (c := (((1 : Int32) <<< (G &&& 31)) - (1 : Int32))) rfl ?_
  refine i_183_54 (c := (xmk (xq (xqs (xqs m))) G)) rfl ?_
  refine i_183_55 (fun _ => ?_) (fun h => absurd (show (xmk (xq (xqs (xqs m))) G).toInt = 0 by omega) h)
  refine i_183_60 (x := 2) (c := 3) (lv2 := [(2, Value.int 3), (3, Value.int G), (0, Value.ref 129), (1, Value.int (B - (1 : Int32)))]) rfl (by decide) rfl ?_
  refine i_183_63 ?_
  refine i_183_2 (x := 3) rfl ?_
  refine i_183_3 (x := 129) rfl ?_
  refine i_183_4 (v := Value.int 3) hv rfl ?_
  refine i_183_7 (fun _ => ?_) (fun h => absurd h (by decide))
  refine i_183_66 ?_
  exact i_183_67 rfl ⟨rfl, rfl⟩
theorem any0_6 {d : Nat} {xs : Nat → Int32} {m : Int64} {sc md : Int32} {w : xW} {g : Nat → Value} {B K P G : Int32} (hB : B.toInt = (xbl (xul m) : Int)) (hv : w[129]? = some (Sum.inr (13, [Value.ref 130, Value.int 3]))) (hvw : w[130]? = some (Sum.inl (0, 4700, g))) (hg0 : g (0 : Int32).toInt.toNat = Value.int (xq m)) (hg1 : g (1 : Int32).toInt.toNat = Value.int (xq (xqs m))) (hg2 : g (2 : Int32).toInt.toNat = Value.int (xq (xqs (xqs m)))) (c0 : 0 ≤ (xs 1).toInt) (c1 : (xs 1).toInt < 16) (c2 : (-40000) ≤ sc.toInt) (c3 : sc.toInt ≤ 40000) (c4 : 0 ≤ md.toInt) (c5 : md.toInt ≤ 4) (c6 : K.toInt = 64 - B.toInt) (c7 : 61 ≤ B.toInt) (c8 : B.toInt ≤ 63) (c9 : (xhi m).toInt ≠ 0) (c10 : (xnlz (xhi m)).toInt = 64 - B.toInt) (c11 : (xbf 2 (xlo m) (xhi m) ((32 : Int32) - K)).toInt ≠ 0) (c12 : (lg_cmp m (0 : Int64)).toInt ≠ 0) (c13 : (lg_cmp (xqs m) (0 : Int64)).toInt ≠ 0) (c14 : (lg_cmp (xqs (xqs m)) (0 : Int64)).toInt ≠ 0) (c15 : (lg_cmp (xqs (xqs (xqs m))) (0 : Int64)).toInt = 0) (c16 : (xbn (xq (xqs (xqs m)))).toInt = B.toInt - 60) (c17 : (xq (xqs (xqs m))).toInt ≠ 0) (c18 : 0 ≤ (xq (xqs (xqs m))).toInt) (c19 : K.toInt ≠ 0) (c20 : K / (30 : Int32) = 0) (c21 : K - K / (30 : Int32) * (30 : Int32) = P) (c22 : ((0 : Int32) ||| (xH (xq (xqs (xqs m))) P)).toInt = 0) (c23 : ((xL (xq (xqs (xqs m))) P) ||| (xH (xq (xqs m)) P)).toInt ≠ 0) (c24 : 0 ≤ ((xL (xq (xqs (xqs m))) P) ||| (xH (xq (xqs m)) P)).toInt) (c25 : (xbn ((xL (xq (xqs (xqs m))) P) ||| (xH (xq (xqs m)) P))).toInt = 4) (c26 : G.toInt = B.toInt - 61) (hp : xPW m) : xRun d 183 [Value.ref 129, Value.int (B - (1 : Int32))] w (.inl (some (Value.int 0))) w := by
  rcases xpowM6 (m := m) (K := K) (P := P) (G := G) hB (by unfold xR6; exact ⟨c7, c8, c9, c10, c11, c12, c13, c14, c15, c16, c17, c18, c19, c20, c21, c22, c23, c24, c25, c26⟩) with ⟨c27, c28⟩ | ⟨c27, c28, c29⟩ | ⟨c27, c28, c29, c30⟩ | ⟨c27, c28, c29, c30, c31⟩ | ⟨c27, c28, c29, c30, c31⟩
  · exact absurd hp c28
  · exact absurd hp c29
  · exact an6_2 (xs := xs) (sc := sc) (md := md) hv hvw hg0 hg1 hg2 c0 c1 c2 c3 c4 c5 c6 c7 c8 c9 c10 c11 c12 c13 c14 c15 c16 c17 c18 c19 c20 c21 c22 c23 c24 c25 c26 c27 c28 c29
  · exact absurd hp c31
  · exact an6_4 (xs := xs) (sc := sc) (md := md) hv hvw hg0 hg1 hg2 c0 c1 c2 c3 c4 c5 c6 c7 c8 c9 c10 c11 c12 c13 c14 c15 c16 c17 c18 c19 c20 c21 c22 c23 c24 c25 c26 c27 c28 c29 c30
theorem any1_6 {d : Nat} {xs : Nat → Int32} {m : Int64} {sc md : Int32} {w : xW} {g : Nat → Value} {B K P G : Int32} (hB : B.toInt = (xbl (xul m) : Int)) (hv : w[129]? = some (Sum.inr (13, [Value.ref 130, Value.int 3]))) (hvw : w[130]? = some (Sum.inl (0, 4700, g))) (hg0 : g (0 : Int32).toInt.toNat = Value.int (xq m)) (hg1 : g (1 : Int32).toInt.toNat = Value.int (xq (xqs m))) (hg2 : g (2 : Int32).toInt.toNat = Value.int (xq (xqs (xqs m)))) (c0 : 0 ≤ (xs 1).toInt) (c1 : (xs 1).toInt < 16) (c2 : (-40000) ≤ sc.toInt) (c3 : sc.toInt ≤ 40000) (c4 : 0 ≤ md.toInt) (c5 : md.toInt ≤ 4) (c6 : K.toInt = 64 - B.toInt) (c7 : 61 ≤ B.toInt) (c8 : B.toInt ≤ 63) (c9 : (xhi m).toInt ≠ 0) (c10 : (xnlz (xhi m)).toInt = 64 - B.toInt) (c11 : (xbf 2 (xlo m) (xhi m) ((32 : Int32) - K)).toInt ≠ 0) (c12 : (lg_cmp m (0 : Int64)).toInt ≠ 0) (c13 : (lg_cmp (xqs m) (0 : Int64)).toInt ≠ 0) (c14 : (lg_cmp (xqs (xqs m)) (0 : Int64)).toInt ≠ 0) (c15 : (lg_cmp (xqs (xqs (xqs m))) (0 : Int64)).toInt = 0) (c16 : (xbn (xq (xqs (xqs m)))).toInt = B.toInt - 60) (c17 : (xq (xqs (xqs m))).toInt ≠ 0) (c18 : 0 ≤ (xq (xqs (xqs m))).toInt) (c19 : K.toInt ≠ 0) (c20 : K / (30 : Int32) = 0) (c21 : K - K / (30 : Int32) * (30 : Int32) = P) (c22 : ((0 : Int32) ||| (xH (xq (xqs (xqs m))) P)).toInt = 0) (c23 : ((xL (xq (xqs (xqs m))) P) ||| (xH (xq (xqs m)) P)).toInt ≠ 0) (c24 : 0 ≤ ((xL (xq (xqs (xqs m))) P) ||| (xH (xq (xqs m)) P)).toInt) (c25 : (xbn ((xL (xq (xqs (xqs m))) P) ||| (xH (xq (xqs m)) P))).toInt = 4) (c26 : G.toInt = B.toInt - 61) (hp : ¬ xPW m) : xRun d 183 [Value.ref 129, Value.int (B - (1 : Int32))] w (.inl (some (Value.int 1))) w := by
  rcases xpowM6 (m := m) (K := K) (P := P) (G := G) hB (by unfold xR6; exact ⟨c7, c8, c9, c10, c11, c12, c13, c14, c15, c16, c17, c18, c19, c20, c21, c22, c23, c24, c25, c26⟩) with ⟨c27, c28⟩ | ⟨c27, c28, c29⟩ | ⟨c27, c28, c29, c30⟩ | ⟨c27, c28, c29, c30, c31⟩ | ⟨c27, c28, c29, c30, c31⟩
  · exact an6_0 (xs := xs) (sc := sc) (md := md) hv hvw hg0 hg1 hg2 c0 c1 c2 c3 c4 c5 c6 c7 c8 c9 c10 c11 c12 c13 c14 c15 c16 c17 c18 c19 c20 c21 c22 c23 c24 c25 c26 c27
  · exact an6_1 (xs := xs) (sc := sc) (md := md) hv hvw hg0 hg1 hg2 c0 c1 c2 c3 c4 c5 c6 c7 c8 c9 c10 c11 c12 c13 c14 c15 c16 c17 c18 c19 c20 c21 c22 c23 c24 c25 c26 c27 c28
  · exact absurd c30 hp
  · exact an6_3 (xs := xs) (sc := sc) (md := md) hv hvw hg0 hg1 hg2 c0 c1 c2 c3 c4 c5 c6 c7 c8 c9 c10 c11 c12 c13 c14 c15 c16 c17 c18 c19 c20 c21 c22 c23 c24 c25 c26 c27 c28 c29 c30
  · exact absurd c31 hp
theorem an7_0 {d : Nat} {xs : Nat → Int32} {m : Int64} {sc md : Int32} {w : xW} {g : Nat → Value} {B K G : Int32} (hv : w[129]? = some (Sum.inr (13, [Value.ref 130, Value.int 3]))) (hvw : w[130]? = some (Sum.inl (0, 4700, g))) (hg0 : g (0 : Int32).toInt.toNat = Value.int (xq m)) (hg1 : g (1 : Int32).toInt.toNat = Value.int (xq (xqs m))) (hg2 : g (2 : Int32).toInt.toNat = Value.int (xq (xqs (xqs m)))) (c0 : 0 ≤ (xs 1).toInt) (c1 : (xs 1).toInt < 16) (c2 : (-40000) ≤ sc.toInt) (c3 : sc.toInt ≤ 40000) (c4 : 0 ≤ md.toInt) (c5 : md.toInt ≤ 4) (c6 : K.toInt = 64 - B.toInt) (c7 : 64 ≤ B.toInt) (c8 : B.toInt ≤ 64) (c9 : (xhi m).toInt ≠ 0) (c10 : (xnlz (xhi m)).toInt = 64 - B.toInt) (c11 : (xbf 2 (xlo m) (xhi m) ((32 : Int32) - K)).toInt ≠ 0) (c12 : (lg_cmp m (0 : Int64)).toInt ≠ 0) (c13 : (lg_cmp (xqs m) (0 : Int64)).toInt ≠ 0) (c14 : (lg_cmp (xqs (xqs m)) (0 : Int64)).toInt ≠ 0) (c15 : (lg_cmp (xqs (xqs (xqs m))) (0 : Int64)).toInt = 0) (c16 : (xbn (xq (xqs (xqs m)))).toInt = B.toInt - 60) (c17 : (xq (xqs (xqs m))).toInt ≠ 0) (c18 : 0 ≤ (xq (xqs (xqs m))).toInt) (c19 : K.toInt = 0) (c20 : (xbn (xq (xqs (xqs m)))).toInt = 4) (c21 : G.toInt = B.toInt - 61) (c22 : (xq m).toInt ≠ 0) : xRun d 183 [Value.ref 129, Value.int (B - (1 : Int32))] w (.inl (some (Value.int 1))) w := by
  have f0 : (B - (1 : Int32)).toInt = B.toInt - 1 := xsub_g rfl rfl (by omega) (by omega)
  have f1 : ((B - (1 : Int32)) - (0 : Int32)).toInt = (B - (1 : Int32)).toInt - 0 := xsub_g rfl rfl (by omega) (by omega)
  refine xRun.of ?_
  refine i_183_0 ?_
  refine i_183_1 (lv2 := [(2, Value.int 0), (0, Value.ref 129), (1, Value.int (B - (1 : Int32)))]) rfl ?_
  refine i_183_2 (x := 0) rfl ?_
  refine i_183_3 (x := 129) rfl ?_
  refine i_183_4 (v := Value.int 3) hv rfl ?_
  refine i_183_7 (fun h => absurd h (by decide)) (fun _ => ?_)
  refine i_183_10 ?_
  refine i_183_12 (x := 0) rfl ?_
  refine i_183_13 (c := 0) (by decide) ?_
  refine i_183_14 (x := (B - (1 : Int32))) rfl ?_
  refine i_183_15 (fun h => absurd (show 0 < (B - (1 : Int32)).toInt by omega) (Int.not_lt.mpr h)) (fun _ => ?_)
  refine i_183_18 (x := (B - (1 : Int32))) rfl ?_
  refine i_183_19 ?_
  refine i_183_21 (x := 0) rfl ?_
  refine i_183_22 (c := 0) (by decide) ?_
  refine i_183_23 (c := 63) (show ((B - (1 : Int32)) - (0 : Int32)) = 63 from (xge_c (n := 63) (by omega) rfl)) ?_
  refine i_183_24 (lv2 := [(3, Value.int 63), (2, Value.int 0), (0, Value.ref 129), (1, Value.int (B - (1 : Int32)))]) rfl ?_
  refine i_183_25 (x := 63) rfl ?_
  refine i_183_26 ?_
  refine i_183_28 (fun h => absurd h (by decide)) (fun _ => ?_)
  refine i_183_31 (x := 129) rfl ?_
  refine i_183_32 (v := Value.ref 130) hv rfl ?_
  refine i_183_35 (x := 0) rfl ?_
  refine i_183_36 (v := Value.int (xq m)) hvw (by decide) (by decide) hg0 ?_
  refine i_183_37 (fun h => absurd (show (xq m).toInt ≠ 0 by omega) (fun g => g h)) (fun _ => ?_)
  refine i_183_40 ?_
  refine i_183_58 ?_
  exact i_183_59 rfl ⟨rfl, rfl⟩
theorem an7_1 {d : Nat} {xs : Nat → Int32} {m : Int64} {sc md : Int32} {w : xW} {g : Nat → Value} {B K G : Int32} (hv : w[129]? = some (Sum.inr (13, [Value.ref 130, Value.int 3]))) (hvw : w[130]? = some (Sum.inl (0, 4700, g))) (hg0 : g (0 : Int32).toInt.toNat = Value.int (xq m)) (hg1 : g (1 : Int32).toInt.toNat = Value.int (xq (xqs m))) (hg2 : g (2 : Int32).toInt.toNat = Value.int (xq (xqs (xqs m)))) (c0 : 0 ≤ (xs 1).toInt) (c1 : (xs 1).toInt < 16) (c2 : (-40000) ≤ sc.toInt) (c3 : sc.toInt ≤ 40000) (c4 : 0 ≤ md.toInt) (c5 : md.toInt ≤ 4) (c6 : K.toInt = 64 - B.toInt) (c7 : 64 ≤ B.toInt) (c8 : B.toInt ≤ 64) (c9 : (xhi m).toInt ≠ 0) (c10 : (xnlz (xhi m)).toInt = 64 - B.toInt) (c11 : (xbf 2 (xlo m) (xhi m) ((32 : Int32) - K)).toInt ≠ 0) (c12 : (lg_cmp m (0 : Int64)).toInt ≠ 0) (c13 : (lg_cmp (xqs m) (0 : Int64)).toInt ≠ 0) (c14 : (lg_cmp (xqs (xqs m)) (0 : Int64)).toInt ≠ 0) (c15 : (lg_cmp (xqs (xqs (xqs m))) (0 : Int64)).toInt = 0) (c16 : (xbn (xq (xqs (xqs m)))).toInt = B.toInt - 60) (c17 : (xq (xqs (xqs m))).toInt ≠ 0) (c18 : 0 ≤ (xq (xqs (xqs m))).toInt) (c19 : K.toInt = 0) (c20 : (xbn (xq (xqs (xqs m)))).toInt = 4) (c21 : G.toInt = B.toInt - 61) (c22 : (xq m).toInt = 0) (c23 : (xq (xqs m)).toInt ≠ 0) : xRun d 183 [Value.ref 129, Value.int (B - (1 : Int32))] w (.inl (some (Value.int 1))) w := by
  have f0 : (B - (1 : Int32)).toInt = B.toInt - 1 := xsub_g rfl rfl (by omega) (by omega)
  have f1 : ((B - (1 : Int32)) - (0 : Int32)).toInt = (B - (1 : Int32)).toInt - 0 := xsub_g rfl rfl (by omega) (by omega)
  have f2 : ((B - (1 : Int32)) - (30 : Int32)).toInt = (B - (1 : Int32)).toInt - 30 := xsub_g rfl rfl (by omega) (by omega)
  refine xRun.of ?_
  refine i_183_0 ?_
  refine i_183_1 (lv2 := [(2, Value.int 0), (0, Value.ref 129), (1, Value.int (B - (1 : Int32)))]) rfl ?_
  refine i_183_2 (x := 0) rfl ?_
  refine i_183_3 (x := 129) rfl ?_
  refine i_183_4 (v := Value.int 3) hv rfl ?_
  refine i_183_7 (fun h => absurd h (by decide)) (fun _ => ?_)
  refine i_183_10 ?_
  refine i_183_12 (x := 0) rfl ?_
  refine i_183_13 (c := 0) (by decide) ?_
  refine i_183_14 (x := (B - (1 : Int32))) rfl ?_
  refine i_183_15 (fun h => absurd (show 0 < (B - (1 : Int32)).toInt by omega) (Int.not_lt.mpr h)) (fun _ => ?_)
  refine i_183_18 (x := (B - (1 : Int32))) rfl ?_
  refine i_183_19 ?_
  refine i_183_21 (x := 0) rfl ?_
  refine i_183_22 (c := 0) (by decide) ?_
  refine i_183_23 (c := 63) (show ((B - (1 : Int32)) - (0 : Int32)) = 63 from (xge_c (n := 63) (by omega) rfl)) ?_
  refine i_183_24 (lv2 := [(3, Value.int 63), (2, Value.int 0), (0, Value.ref 129), (1, Value.int (B - (1 : Int32)))]) rfl ?_
  refine i_183_25 (x := 63) rfl ?_
  refine i_183_26 ?_
  refine i_183_28 (fun h => absurd h (by decide)) (fun _ => ?_)
  refine i_183_31 (x := 129) rfl ?_
  refine i_183_32 (v := Value.ref 130) hv rfl ?_
  refine i_183_35 (x := 0) rfl ?_
  refine i_183_36 (v := Value.int (xq m)) hvw (by decide) (by decide) hg0 ?_
  refine i_183_37 (fun _ => ?_) (fun h => absurd (show (xq m).toInt = 0 by omega) h)
  refine i_183_60 (x := 0) (c := 1) (lv2 := [(2, Value.int 1), (3, Value.int 63), (0, Value.ref 129), (1, Value.int (B - (1 : Int32)))]) rfl (by decide) rfl ?_
  refine i_183_63 ?_
  refine i_183_2 (x := 1) rfl ?_
  refine i_183_3 (x := 129) rfl ?_
  refine i_183_4 (v := Value.int 3) hv rfl ?_
  refine i_183_7 (fun h => absurd h (by decide)) (fun _ => ?_)
  refine i_183_10 ?_
  refine i_183_12 (x := 1) rfl ?_
  refine i_183_13 (c := 30) (by decide) ?_
  refine i_183_14 (x := (B - (1 : Int32))) rfl ?_
  refine i_183_15 (fun h => absurd (show 30 < (B - (1 : Int32)).toInt by omega) (Int.not_lt.mpr h)) (fun _ => ?_)
  refine i_183_18 (x := (B - (1 : Int32))) rfl ?_
  refine i_183_19 ?_
  refine i_183_21 (x := 1) rfl ?_
  refine i_183_22 (c := 30) (by decide) ?_
  refine i_183_23 (c := 33) (show ((B - (1 : Int32)) - (30 : Int32)) = 33 from (xge_c (n := 33) (by omega) rfl)) ?_
  refine i_183_24 (lv2 := [(3, Value.int 33), (2, Value.int 1), (0, Value.ref 129), (1, Value.int (B - (1 : Int32)))]) rfl ?_
  refine i_183_25 (x := 33) rfl ?_
  refine i_183_26 ?_
  refine i_183_28 (fun h => absurd h (by decide)) (fun _ => ?_)
  refine i_183_31 (x := 129) rfl ?_
  refine i_183_32 (v := Value.ref 130) hv rfl ?_
  refine i_183_35 (x := 1) rfl ?_
  refine i_183_36 (v := Value.int (xq (xqs m))) hvw (by decide) (by decide) hg1 ?_
  refine i_183_37 (fun h => absurd (show (xq (xqs m)).toInt ≠ 0 by omega) (fun g => g h)) (fun _ => ?_)
  refine i_183_40 ?_
  refine i_183_58 ?_
  exact i_183_59 rfl ⟨rfl, rfl⟩
theorem an7_2 {d : Nat} {xs : Nat → Int32} {m : Int64} {sc md : Int32} {w : xW} {g : Nat → Value} {B K G : Int32} (hv : w[129]? = some (Sum.inr (13, [Value.ref 130, Value.int 3]))) (hvw : w[130]? = some (Sum.inl (0, 4700, g))) (hg0 : g (0 : Int32).toInt.toNat = Value.int (xq m)) (hg1 : g (1 : Int32).toInt.toNat = Value.int (xq (xqs m))) (hg2 : g (2 : Int32).toInt.toNat = Value.int (xq (xqs (xqs m)))) (c0 : 0 ≤ (xs 1).toInt) (c1 : (xs 1).toInt < 16) (c2 : (-40000) ≤ sc.toInt) (c3 : sc.toInt ≤ 40000) (c4 : 0 ≤ md.toInt) (c5 : md.toInt ≤ 4) (c6 : K.toInt = 64 - B.toInt) (c7 : 64 ≤ B.toInt) (c8 : B.toInt ≤ 64) (c9 : (xhi m).toInt ≠ 0) (c10 : (xnlz (xhi m)).toInt = 64 - B.toInt) (c11 : (xbf 2 (xlo m) (xhi m) ((32 : Int32) - K)).toInt ≠ 0) (c12 : (lg_cmp m (0 : Int64)).toInt ≠ 0) (c13 : (lg_cmp (xqs m) (0 : Int64)).toInt ≠ 0) (c14 : (lg_cmp (xqs (xqs m)) (0 : Int64)).toInt ≠ 0) (c15 : (lg_cmp (xqs (xqs (xqs m))) (0 : Int64)).toInt = 0) (c16 : (xbn (xq (xqs (xqs m)))).toInt = B.toInt - 60) (c17 : (xq (xqs (xqs m))).toInt ≠ 0) (c18 : 0 ≤ (xq (xqs (xqs m))).toInt) (c19 : K.toInt = 0) (c20 : (xbn (xq (xqs (xqs m)))).toInt = 4) (c21 : G.toInt = B.toInt - 61) (c22 : (xq m).toInt = 0) (c23 : (xq (xqs m)).toInt = 0) (c24 : ((xq (xqs (xqs m))) &&& (7 : Int32)).toInt ≠ 0) : xRun d 183 [Value.ref 129, Value.int (B - (1 : Int32))] w (.inl (some (Value.int 1))) w := by
  have f0 : (B - (1 : Int32)).toInt = B.toInt - 1 := xsub_g rfl rfl (by omega) (by omega)
  have f1 : ((B - (1 : Int32)) - (0 : Int32)).toInt = (B - (1 : Int32)).toInt - 0 := xsub_g rfl rfl (by omega) (by omega)
  have f2 : ((B - (1 : Int32)) - (30 : Int32)).toInt = (B - (1 : Int32)).toInt - 30 := xsub_g rfl rfl (by omega) (by omega)
  have f3 : ((B - (1 : Int32)) - (60 : Int32)).toInt = (B - (1 : Int32)).toInt - 60 := xsub_g rfl rfl (by omega) (by omega)
  refine xRun.of ?_
  refine i_183_0 ?_
  refine i_183_1 (lv2 := [(2, Value.int 0), (0, Value.ref 129), (1, Value.int (B - (1 : Int32)))]) rfl ?_
  refine i_183_2 (x := 0) rfl ?_
  refine i_183_3 (x := 129) rfl ?_
  refine i_183_4 (v := Value.int 3) hv rfl ?_
  refine i_183_7 (fun h => absurd h (by decide)) (fun _ => ?_)
  refine i_183_10 ?_
  refine i_183_12 (x := 0) rfl ?_
  refine i_183_13 (c := 0) (by decide) ?_
  refine i_183_14 (x := (B - (1 : Int32))) rfl ?_
  refine i_183_15 (fun h => absurd (show 0 < (B - (1 : Int32)).toInt by omega) (Int.not_lt.mpr h)) (fun _ => ?_)
  refine i_183_18 (x := (B - (1 : Int32))) rfl ?_
  refine i_183_19 ?_
  refine i_183_21 (x := 0) rfl ?_
  refine i_183_22 (c := 0) (by decide) ?_
  refine i_183_23 (c := 63) (show ((B - (1 : Int32)) - (0 : Int32)) = 63 from (xge_c (n := 63) (by omega) rfl)) ?_
  refine i_183_24 (lv2 := [(3, Value.int 63), (2, Value.int 0), (0, Value.ref 129), (1, Value.int (B - (1 : Int32)))]) rfl ?_
  refine i_183_25 (x := 63) rfl ?_
  refine i_183_26 ?_
  refine i_183_28 (fun h => absurd h (by decide)) (fun _ => ?_)
  refine i_183_31 (x := 129) rfl ?_
  refine i_183_32 (v := Value.ref 130) hv rfl ?_
  refine i_183_35 (x := 0) rfl ?_
  refine i_183_36 (v := Value.int (xq m)) hvw (by decide) (by decide) hg0 ?_
  refine i_183_37 (fun _ => ?_) (fun h => absurd (show (xq m).toInt = 0 by omega) h)
  refine i_183_60 (x := 0) (c := 1) (lv2 := [(2, Value.int 1), (3, Value.int 63), (0, Value.ref 129), (1, Value.int (B - (1 : Int32)))]) rfl (by decide) rfl ?_
  refine i_183_63 ?_
  refine i_183_2 (x := 1) rfl ?_
  refine i_183_3 (x := 129) rfl ?_
  refine i_183_4 (v := Value.int 3) hv rfl ?_
  refine i_183_7 (fun h => absurd h (by decide)) (fun _ => ?_)
  refine i_183_10 ?_
  refine i_183_12 (x := 1) rfl ?_
  refine i_183_13 (c := 30) (by decide) ?_
  refine i_183_14 (x := (B - (1 : Int32))) rfl ?_
  refine i_183_15 (fun h => absurd (show 30 < (B - (1 : Int32)).toInt by omega) (Int.not_lt.mpr h)) (fun _ => ?_)
  refine i_183_18 (x := (B - (1 : Int32))) rfl ?_
  refine i_183_19 ?_
  refine i_183_21 (x := 1) rfl ?_
  refine i_183_22 (c := 30) (by decide) ?_
  refine i_183_23 (c := 33) (show ((B - (1 : Int32)) - (30 : Int32)) = 33 from (xge_c (n := 33) (by omega) rfl)) ?_
  refine i_183_24 (lv2 := [(3, Value.int 33), (2, Value.int 1), (0, Value.ref 129), (1, Value.int (B - (1 : Int32)))]) rfl ?_
  refine i_183_25 (x := 33) rfl ?_
  refine i_183_26 ?_
  refine i_183_28 (fun h => absurd h (by decide)) (fun _ => ?_)
  refine i_183_31 (x := 129) rfl ?_
  refine i_183_32 (v := Value.ref 130) hv rfl ?_
  refine i_183_35 (x := 1) rfl ?_
  refine i_183_36 (v := Value.int (xq (xqs m))) hvw (by decide) (by decide) hg1 ?_
  refine i_183_37 (fun _ => ?_) (fun h => absurd (show (xq (xqs m)).toInt = 0 by omega) h)
  refine i_183_60 (x := 1) (c := 2) (lv2 := [(2, Value.int 2), (3, Value.int 33), (0, Value.ref 129), (1, Value.int (B - (1 : Int32)))]) rfl (by decide) rfl ?_
  refine i_183_63 ?_
  refine i_183_2 (x := 2) rfl ?_
  refine i_183_3 (x := 129) rfl ?_
  refine i_183_4 (v := Value.int 3) hv rfl ?_
  refine i_183_7 (fun h => absurd h (by decide)) (fun _ => ?_)
  refine i_183_10 ?_
  refine i_183_12 (x := 2) rfl ?_
  refine i_183_13 (c := 60) (by decide) ?_
  refine i_183_14 (x := (B - (1 : Int32))) rfl ?_
  refine i_183_15 (fun h => absurd (show 60 < (B - (1 : Int32)).toInt by omega) (Int.not_lt.mpr h)) (fun _ => ?_)
  refine i_183_18 (x := (B - (1 : Int32))) rfl ?_
  refine i_183_19 ?_
  refine i_183_21 (x := 2) rfl ?_
  refine i_183_22 (c := 60) (by decide) ?_
  refine i_183_23 (c := 3) (show ((B - (1 : Int32)) - (60 : Int32)) = 3 from (xge_c (n := 3) (by omega) rfl)) ?_
  refine i_183_24 (lv2 := [(3, Value.int 3), (2, Value.int 2), (0, Value.ref 129), (1, Value.int (B - (1 : Int32)))]) rfl ?_
  refine i_183_25 (x := 3) rfl ?_
  refine i_183_26 ?_
  refine i_183_28 (fun _ => ?_) (fun h => absurd h (by decide))
  refine i_183_43 (x := 129) rfl ?_
  refine i_183_44 (v := Value.ref 130) hv rfl ?_
  refine i_183_47 (x := 2) rfl ?_
  refine i_183_48 (v := Value.int (xq (xqs (xqs m)))) hvw (by decide) (by decide) hg2 ?_
  refine i_183_49 ?_
  refine i_183_50 (x := 3) rfl ?_
  refine i_183_51 (c := 8) (by decide) ?_
  refine i_183_52 ?_
  refine i_183_53 (c := 7) (by decide) ?_
  refine i_183_54 (c := ((xq (xqs (xqs m))) &&& (7 : Int32))) rfl ?_
  refine i_183_55 (fun h => absurd (show ((xq (xqs (xqs m))) &&& (7 : Int32)).toInt ≠ 0 by omega) (fun g => g h)) (fun _ => ?_)
  refine i_183_58 ?_
  exact i_183_59 rfl ⟨rfl, rfl⟩
theorem an7_3 {d : Nat} {xs : Nat → Int32} {m : Int64} {sc md : Int32} {w : xW} {g : Nat → Value} {B K G : Int32} (hv : w[129]? = some (Sum.inr (13, [Value.ref 130, Value.int 3]))) (hvw : w[130]? = some (Sum.inl (0, 4700, g))) (hg0 : g (0 : Int32).toInt.toNat = Value.int (xq m)) (hg1 : g (1 : Int32).toInt.toNat = Value.int (xq (xqs m))) (hg2 : g (2 : Int32).toInt.toNat = Value.int (xq (xqs (xqs m)))) (c0 : 0 ≤ (xs 1).toInt) (c1 : (xs 1).toInt < 16) (c2 : (-40000) ≤ sc.toInt) (c3 : sc.toInt ≤ 40000) (c4 : 0 ≤ md.toInt) (c5 : md.toInt ≤ 4) (c6 : K.toInt = 64 - B.toInt) (c7 : 64 ≤ B.toInt) (c8 : B.toInt ≤ 64) (c9 : (xhi m).toInt ≠ 0) (c10 : (xnlz (xhi m)).toInt = 64 - B.toInt) (c11 : (xbf 2 (xlo m) (xhi m) ((32 : Int32) - K)).toInt ≠ 0) (c12 : (lg_cmp m (0 : Int64)).toInt ≠ 0) (c13 : (lg_cmp (xqs m) (0 : Int64)).toInt ≠ 0) (c14 : (lg_cmp (xqs (xqs m)) (0 : Int64)).toInt ≠ 0) (c15 : (lg_cmp (xqs (xqs (xqs m))) (0 : Int64)).toInt = 0) (c16 : (xbn (xq (xqs (xqs m)))).toInt = B.toInt - 60) (c17 : (xq (xqs (xqs m))).toInt ≠ 0) (c18 : 0 ≤ (xq (xqs (xqs m))).toInt) (c19 : K.toInt = 0) (c20 : (xbn (xq (xqs (xqs m)))).toInt = 4) (c21 : G.toInt = B.toInt - 61) (c22 : (xq m).toInt = 0) (c23 : (xq (xqs m)).toInt = 0) (c24 : ((xq (xqs (xqs m))) &&& (7 : Int32)).toInt = 0) : xRun d 183 [Value.ref 129, Value.int (B - (1 : Int32))] w (.inl (some (Value.int 0))) w := by
  have f0 : (B - (1 : Int32)).toInt = B.toInt - 1 := xsub_g rfl rfl (by omega) (by omega)
  have f1 : ((B - (1 : Int32)) - (0 : Int32)).toInt = (B - (1 : Int32)).toInt - 0 := xsub_g rfl rfl (by omega) (by omega)
  have f2 : ((B - (1 : Int32)) - (30 : Int32)).toInt = (B - (1 : Int32)).toInt - 30 := xsub_g rfl rfl (by omega) (by omega)
  have f3 : ((B - (1 : Int32)) - (60 : Int32)).toInt = (B - (1 : Int32)).toInt - 60 := xsub_g rfl rfl (by omega) (by omega)
  refine xRun.of ?_
  refine i_183_0 ?_
  refine i_183_1 (lv2 := [(2, Value.int 0), (0, Value.ref 129), (1, Value.int (B - (1 : Int32)))]) rfl ?_
  refine i_183_2 (x := 0) rfl ?_
  refine i_183_3 (x := 129) rfl ?_
  refine i_183_4 (v := Value.int 3) hv rfl ?_
  refine i_183_7 (fun h => absurd h (by decide)) (fun _ => ?_)
  refine i_183_10 ?_
  refine i_183_12 (x := 0) rfl ?_
  refine i_183_13 (c := 0) (by decide) ?_
  refine i_183_14 (x := (B - (1 : Int32))) rfl ?_
  refine i_183_15 (fun h => absurd (show 0 < (B - (1 : Int32)).toInt by omega) (Int.not_lt.mpr h)) (fun _ => ?_)
  refine i_183_18 (x := (B - (1 : Int32))) rfl ?_
  refine i_183_19 ?_
  refine i_183_21 (x := 0) rfl ?_
  refine i_183_22 (c := 0) (by decide) ?_
  refine i_183_23 (c := 63) (show ((B - (1 : Int32)) - (0 : Int32)) = 63 from (xge_c (n := 63) (by omega) rfl)) ?_
  refine i_183_24 (lv2 := [(3, Value.int 63), (2, Value.int 0), (0, Value.ref 129), (1, Value.int (B - (1 : Int32)))]) rfl ?_
  refine i_183_25 (x := 63) rfl ?_
  refine i_183_26 ?_
  refine i_183_28 (fun h => absurd h (by decide)) (fun _ => ?_)
  refine i_183_31 (x := 129) rfl ?_
  refine i_183_32 (v := Value.ref 130) hv rfl ?_
  refine i_183_35 (x := 0) rfl ?_
  refine i_183_36 (v := Value.int (xq m)) hvw (by decide) (by decide) hg0 ?_
  refine i_183_37 (fun _ => ?_) (fun h => absurd (show (xq m).toInt = 0 by omega) h)
  refine i_183_60 (x := 0) (c := 1) (lv2 := [(2, Value.int 1), (3, Value.int 63), (0, Value.ref 129), (1, Value.int (B - (1 : Int32)))]) rfl (by decide) rfl ?_
  refine i_183_63 ?_
  refine i_183_2 (x := 1) rfl ?_
  refine i_183_3 (x := 129) rfl ?_
  refine i_183_4 (v := Value.int 3) hv rfl ?_
  refine i_183_7 (fun h => absurd h (by decide)) (fun _ => ?_)
  refine i_183_10 ?_
  refine i_183_12 (x := 1) rfl ?_
  refine i_183_13 (c := 30) (by decide) ?_
  refine i_183_14 (x := (B - (1 : Int32))) rfl ?_
  refine i_183_15 (fun h => absurd (show 30 < (B - (1 : Int32)).toInt by omega) (Int.not_lt.mpr h)) (fun _ => ?_)
  refine i_183_18 (x := (B - (1 : Int32))) rfl ?_
  refine i_183_19 ?_
  refine i_183_21 (x := 1) rfl ?_
  refine i_183_22 (c := 30) (by decide) ?_
  refine i_183_23 (c := 33) (show ((B - (1 : Int32)) - (30 : Int32)) = 33 from (xge_c (n := 33) (by omega) rfl)) ?_
  refine i_183_24 (lv2 := [(3, Value.int 33), (2, Value.int 1), (0, Value.ref 129), (1, Value.int (B - (1 : Int32)))]) rfl ?_
  refine i_183_25 (x := 33) rfl ?_
  refine i_183_26 ?_
  refine i_183_28 (fun h => absurd h (by decide)) (fun _ => ?_)
  refine i_183_31 (x := 129) rfl ?_
  refine i_183_32 (v := Value.ref 130) hv rfl ?_
  refine i_183_35 (x := 1) rfl ?_
  refine i_183_36 (v := Value.int (xq (xqs m))) hvw (by decide) (by decide) hg1 ?_
  refine i_183_37 (fun _ => ?_) (fun h => absurd (show (xq (xqs m)).toInt = 0 by omega) h)
  refine i_183_60 (x := 1) (c := 2) (lv2 := [(2, Value.int 2), (3, Value.int 33), (0, Value.ref 129), (1, Value.int (B - (1 : Int32)))]) rfl (by decide) rfl ?_
  refine i_183_63 ?_
  refine i_183_2 (x := 2) rfl ?_
  refine i_183_3 (x := 129) rfl ?_
  refine i_183_4 (v := Value.int 3) hv rfl ?_
  refine i_183_7 (fun h => absurd h (by decide)) (fun _ => ?_)
  refine i_183_10 ?_
  refine i_183_12 (x := 2) rfl ?_
  refine i_183_13 (c := 60) (by decide) ?_
  refine i_183_14 (x := (B - (1 : Int32))) rfl ?_
  refine i_183_15 (fun h => absurd (show 60 < (B - (1 : Int32)).toInt by omega) (Int.not_lt.mpr h)) (fun _ => ?_)
  refine i_183_18 (x := (B - (1 : Int32))) rfl ?_
  refine i_183_19 ?_
  refine i_183_21 (x := 2) rfl ?_
  refine i_183_22 (c := 60) (by decide) ?_
  refine i_183_23 (c := 3) (show ((B - (1 : Int32)) - (60 : Int32)) = 3 from (xge_c (n := 3) (by omega) rfl)) ?_
  refine i_183_24 (lv2 := [(3, Value.int 3), (2, Value.int 2), (0, Value.ref 129), (1, Value.int (B - (1 : Int32)))]) rfl ?_
  refine i_183_25 (x := 3) rfl ?_
  refine i_183_26 ?_
  refine i_183_28 (fun _ => ?_) (fun h => absurd h (by decide))
  refine i_183_43 (x := 129) rfl ?_
  refine i_183_44 (v := Value.ref 130) hv rfl ?_
  refine i_183_47 (x := 2) rfl ?_
  refine i_183_48 (v := Value.int (xq (xqs (xqs m)))) hvw (by decide) (by decide) hg2 ?_
  refine i_183_49 ?_
  refine i_183_50 (x := 3) rfl ?_
  refine i_183_51 (c := 8) (by decide) ?_
  refine i_183_52 ?_
  refine i_183_53 (c := 7) (by decide) ?_
  refine i_183_54 (c := 0) (show ((xq (xqs (xqs m))) &&& (7 : Int32)) = 0 from (xge_c (n := 0) (by omega) rfl)) ?_
  refine i_183_55 (fun _ => ?_) (fun h => absurd h (by decide))
  refine i_183_60 (x := 2) (c := 3) (lv2 := [(2, Value.int 3), (3, Value.int 3), (0, Value.ref 129), (1, Value.int (B - (1 : Int32)))]) rfl (by decide) rfl ?_
  refine i_183_63 ?_
  refine i_183_2 (x := 3) rfl ?_
  refine i_183_3 (x := 129) rfl ?_
  refine i_183_4 (v := Value.int 3) hv rfl ?_
  refine i_183_7 (fun _ => ?_) (fun h => absurd h (by decide))
  refine i_183_66 ?_
  exact i_183_67 rfl ⟨rfl, rfl⟩
theorem any0_7 {d : Nat} {xs : Nat → Int32} {m : Int64} {sc md : Int32} {w : xW} {g : Nat → Value} {B K P G : Int32} (hB : B.toInt = (xbl (xul m) : Int)) (hv : w[129]? = some (Sum.inr (13, [Value.ref 130, Value.int 3]))) (hvw : w[130]? = some (Sum.inl (0, 4700, g))) (hg0 : g (0 : Int32).toInt.toNat = Value.int (xq m)) (hg1 : g (1 : Int32).toInt.toNat = Value.int (xq (xqs m))) (hg2 : g (2 : Int32).toInt.toNat = Value.int (xq (xqs (xqs m)))) (c0 : 0 ≤ (xs 1).toInt) (c1 : (xs 1).toInt < 16) (c2 : (-40000) ≤ sc.toInt) (c3 : sc.toInt ≤ 40000) (c4 : 0 ≤ md.toInt) (c5 : md.toInt ≤ 4) (c6 : K.toInt = 64 - B.toInt) (c7 : 64 ≤ B.toInt) (c8 : B.toInt ≤ 64) (c9 : (xhi m).toInt ≠ 0) (c10 : (xnlz (xhi m)).toInt = 64 - B.toInt) (c11 : (xbf 2 (xlo m) (xhi m) ((32 : Int32) - K)).toInt ≠ 0) (c12 : (lg_cmp m (0 : Int64)).toInt ≠ 0) (c13 : (lg_cmp (xqs m) (0 : Int64)).toInt ≠ 0) (c14 : (lg_cmp (xqs (xqs m)) (0 : Int64)).toInt ≠ 0) (c15 : (lg_cmp (xqs (xqs (xqs m))) (0 : Int64)).toInt = 0) (c16 : (xbn (xq (xqs (xqs m)))).toInt = B.toInt - 60) (c17 : (xq (xqs (xqs m))).toInt ≠ 0) (c18 : 0 ≤ (xq (xqs (xqs m))).toInt) (c19 : K.toInt = 0) (c20 : (xbn (xq (xqs (xqs m)))).toInt = 4) (c21 : G.toInt = B.toInt - 61) (hp : xPW m) : xRun d 183 [Value.ref 129, Value.int (B - (1 : Int32))] w (.inl (some (Value.int 0))) w := by
  rcases xpowM7 (m := m) (K := K) (P := P) (G := G) hB (by unfold xR7; exact ⟨c7, c8, c9, c10, c11, c12, c13, c14, c15, c16, c17, c18, c19, c20, c21⟩) with ⟨c22, c23⟩ | ⟨c22, c23, c24⟩ | ⟨c22, c23, c24, c25⟩ | ⟨c22, c23, c24, c25⟩
  · exact absurd hp c23
  · exact absurd hp c24
  · exact absurd hp c25
  · exact an7_3 (xs := xs) (sc := sc) (md := md) hv hvw hg0 hg1 hg2 c0 c1 c2 c3 c4 c5 c6 c7 c8 c9 c10 c11 c12 c13 c14 c15 c16 c17 c18 c19 c20 c21 c22 c23 c24
theorem any1_7 {d : Nat} {xs : Nat → Int32} {m : Int64} {sc md : Int32} {w : xW} {g : Nat → Value} {B K P G : Int32} (hB : B.toInt = (xbl (xul m) : Int)) (hv : w[129]? = some (Sum.inr (13, [Value.ref 130, Value.int 3]))) (hvw : w[130]? = some (Sum.inl (0, 4700, g))) (hg0 : g (0 : Int32).toInt.toNat = Value.int (xq m)) (hg1 : g (1 : Int32).toInt.toNat = Value.int (xq (xqs m))) (hg2 : g (2 : Int32).toInt.toNat = Value.int (xq (xqs (xqs m)))) (c0 : 0 ≤ (xs 1).toInt) (c1 : (xs 1).toInt < 16) (c2 : (-40000) ≤ sc.toInt) (c3 : sc.toInt ≤ 40000) (c4 : 0 ≤ md.toInt) (c5 : md.toInt ≤ 4) (c6 : K.toInt = 64 - B.toInt) (c7 : 64 ≤ B.toInt) (c8 : B.toInt ≤ 64) (c9 : (xhi m).toInt ≠ 0) (c10 : (xnlz (xhi m)).toInt = 64 - B.toInt) (c11 : (xbf 2 (xlo m) (xhi m) ((32 : Int32) - K)).toInt ≠ 0) (c12 : (lg_cmp m (0 : Int64)).toInt ≠ 0) (c13 : (lg_cmp (xqs m) (0 : Int64)).toInt ≠ 0) (c14 : (lg_cmp (xqs (xqs m)) (0 : Int64)).toInt ≠ 0) (c15 : (lg_cmp (xqs (xqs (xqs m))) (0 : Int64)).toInt = 0) (c16 : (xbn (xq (xqs (xqs m)))).toInt = B.toInt - 60) (c17 : (xq (xqs (xqs m))).toInt ≠ 0) (c18 : 0 ≤ (xq (xqs (xqs m))).toInt) (c19 : K.toInt = 0) (c20 : (xbn (xq (xqs (xqs m)))).toInt = 4) (c21 : G.toInt = B.toInt - 61) (hp : ¬ xPW m) : xRun d 183 [Value.ref 129, Value.int (B - (1 : Int32))] w (.inl (some (Value.int 1))) w := by
  rcases xpowM7 (m := m) (K := K) (P := P) (G := G) hB (by unfold xR7; exact ⟨c7, c8, c9, c10, c11, c12, c13, c14, c15, c16, c17, c18, c19, c20, c21⟩) with ⟨c22, c23⟩ | ⟨c22, c23, c24⟩ | ⟨c22, c23, c24, c25⟩ | ⟨c22, c23, c24, c25⟩
  · exact an7_0 (xs := xs) (sc := sc) (md := md) hv hvw hg0 hg1 hg2 c0 c1 c2 c3 c4 c5 c6 c7 c8 c9 c10 c11 c12 c13 c14 c15 c16 c17 c18 c19 c20 c21 c22
  · exact an7_1 (xs := xs) (sc := sc) (md := md) hv hvw hg0 hg1 hg2 c0 c1 c2 c3 c4 c5 c6 c7 c8 c9 c10 c11 c12 c13 c14 c15 c16 c17 c18 c19 c20 c21 c22 c23
  · exact an7_2 (xs := xs) (sc := sc) (md := md) hv hvw hg0 hg1 hg2 c0 c1 c2 c3 c4 c5 c6 c7 c8 c9 c10 c11 c12 c13 c14 c15 c16 c17 c18 c19 c20 c21 c22 c23 c24
  · exact absurd c25 hp
theorem s_171_0 {d : Nat} {w : xW} {a0 : Int32} {g0 : Nat → Value} (hw0 : w[128]? = some (Sum.inr (12, [Value.ref 129, Value.ref 131, Value.ref 133, Value.ref 135, Value.ref 137, Value.ref 139, Value.ref 141, Value.ref 143, Value.ref 145, Value.ref 147, Value.ref 149, Value.ref 151, Value.ref 153, Value.ref 154, Value.ref 155, Value.ref 156, Value.ref 157, Value.int (-16384), Value.int 16384, Value.int 2, Value.int 0, Value.int 0, Value.ref 158, Value.ref 159, Value.int 0, Value.int 0, Value.int 0, Value.int 0, Value.int 0, Value.int 0, Value.int 0, Value.int 0]))) (hw1 : w[154]? = some (Sum.inl (0, 17, fun _ => Value.int 0))) (e2 : 0 ≤ a0.toInt) (e3 : a0.toInt < 17) (hw4 : w[156]? = some (Sum.inl (2, 17, g0))) : xRun d 171 [Value.ref 128, Value.int a0, Value.int 1, Value.int 0] w (.inl (some (Value.int 0))) ((w.set 154 (Sum.inl (0, 17, xup (fun _ => Value.int 0) a0.toInt.toNat (Value.int 1)))).set 156 (Sum.inl (2, 17, xup g0 a0.toInt.toNat (Value.int 0)))) := by
  refine xRun.of ?_
  refine i_171_0 (x := 128) rfl ?_
  refine i_171_1 (v := Value.ref 154) hw0 rfl ?_
  refine i_171_4 (x := a0) rfl ?_
  refine i_171_5 (x := 1) rfl ?_
  refine i_171_6 (v := Value.int 1) hw1 e2 e3 (by decide) rfl ?_
  refine i_171_7 (x := 128) rfl ?_
  refine i_171_8 (v := Value.ref 156) (xgn (by decide) hw0) rfl ?_
  refine i_171_11 (x := a0) rfl ?_
  refine i_171_12 (x := 0) rfl ?_
  refine i_171_13z (v := Value.int 0) (xgn (by decide) hw4) e2 e3 (by decide) rfl ?_
  refine i_171_14 ?_
  exact i_171_15 ⟨rfl, rfl⟩
theorem sf0_0 {d : Nat} {xs : Nat → Int32} {m : Int64} {sc md : Int32} {w : xW} {B E U C q0 q1 q2 nn : Int32} {g : Nat → Value} (hk : ∀ h, 131 ≤ h → h < 194 → h ≠ 135 → h ≠ 136 → h ≠ 156 → w[h]? = (W0 6 xs)[h]?) (hm : w[128]? = some (Sum.inr (12, [Value.ref 129, Value.ref 131, Value.ref 133, Value.ref 135, Value.ref 137, Value.ref 139, Value.ref 141, Value.ref 143, Value.ref 145, Value.ref 147, Value.ref 149, Value.ref 151, Value.ref 153, Value.ref 154, Value.ref 155, Value.ref 156, Value.ref 157, Value.int (-16384), Value.int 16384, Value.int 0, Value.int 0, Value.int 0, Value.ref 158, Value.ref 159, Value.int 0, Value.int 0, Value.int 0, Value.int 0, Value.int 0, Value.int 0, Value.int 0, Value.int 0]))) (hv : w[129]? = some (Sum.inr (13, [Value.ref 130, Value.int nn]))) (hq : w[135]? = some (Sum.inr (13, [Value.ref 136, Value.int 3]))) (hqw : w[136]? = some (Sum.inl (0, 4700, g))) (hg0 : g (0 : Int32).toInt.toNat = Value.int q0) (hg1 : g (1 : Int32).toInt.toNat = Value.int q1) (hg2 : g (2 : Int32).toInt.toNat = Value.int q2) (hn : w[156]? = some (Sum.inl (2, 17, xup (fun _ => Value.int 0) (xs 1).toInt.toNat (Value.int 0)))) (hbits : ∀ (d' : Nat) (w' : xW), w'[129]? = w[129]? → w'[130]? = w[130]? → xRun d' 181 [Value.ref 129] w' (.inl (some (Value.int B))) w') (hany0 : xPW m → ∀ (d' : Nat) (w' : xW), w'[129]? = w[129]? → w'[130]? = w[130]? → xRun d' 183 [Value.ref 129, Value.int (B - (1 : Int32))] w' (.inl (some (Value.int 0))) w') (hany1 : ¬ xPW m → ∀ (d' : Nat) (w' : xW), w'[129]? = w[129]? → w'[130]? = w[130]? → xRun d' 183 [Value.ref 129, Value.int (B - (1 : Int32))] w' (.inl (some (Value.int 1))) w') (c0 : 0 ≤ (xs 1).toInt) (c1 : (xs 1).toInt < 16) (c2 : (-40000) ≤ sc.toInt) (c3 : sc.toInt ≤ 40000) (c4 : 0 ≤ md.toInt) (c5 : md.toInt ≤ 4) (c6 : 1 ≤ B.toInt) (c7 : B.toInt ≤ 64) (c8 : E.toInt = B.toInt + sc.toInt) (c9 : U.toInt = E.toInt - 64) (c10 : 0 ≤ q2.toInt) (c11 : (xbn q2).toInt = 4) (c12 : 16384 < E.toInt) (c13 : md.toInt = 0) : ∃ w2, xEv (d + 6) 180 207 [(14, Value.int 0), (13, Value.int E), (12, Value.int 1), (11, Value.int 0), (10, Value.int C), (9, Value.int U), (8, Value.int E), (7, Value.int 64), (0, Value.ref 128), (1, Value.int (xs 1)), (2, Value.ref 129), (3, Value.int sc), (4, Value.int 0), (5, Value.int 0), (6, Value.int md)] [] w (fun o' w' => o' = .inl (some (Value.int 1)) ∧ w' = w2) ∧ xKp w w2 xPM ∧ w2[128]? = some (Sum.inr (12, [Value.ref 129, Value.ref 131, Value.ref 133, Value.ref 135, Value.ref 137, Value.ref 139, Value.ref 141, Value.ref 143, Value.ref 145, Value.ref 147, Value.ref 149, Value.ref 151, Value.ref 153, Value.ref 154, Value.ref 155, Value.ref 156, Value.ref 157, Value.int (-16384), Value.int 16384, Value.int 3, Value.int 0, Value.int 0, Value.ref 158, Value.ref 159, Value.int 0, Value.int 0, Value.int 0, Value.int 0, Value.int 0, Value.int 0, Value.int 0, Value.int 0])) := by
  refine ⟨((((w.set 128 (Sum.inr (12, [Value.ref 129, Value.ref 131, Value.ref 133, Value.ref 135, Value.ref 137, Value.ref 139, Value.ref 141, Value.ref 143, Value.ref 145, Value.ref 147, Value.ref 149, Value.ref 151, Value.ref 153, Value.ref 154, Value.ref 155, Value.ref 156, Value.ref 157, Value.int (-16384), Value.int 16384, Value.int 2, Value.int 0, Value.int 0, Value.ref 158, Value.ref 159, Value.int 0, Value.int 0, Value.int 0, Value.int 0, Value.int 0, Value.int 0, Value.int 0, Value.int 0]))).set 154 (Sum.inl (0, 17, xup (fun _ => Value.int 0) (xs 1).toInt.toNat (Value.int 1)))).set 156 (Sum.inl (2, 17, xup (xup (fun _ => Value.int 0) (xs 1).toInt.toNat (Value.int 0)) (xs 1).toInt.toNat (Value.int 0)))).set 128 (Sum.inr (12, [Value.ref 129, Value.ref 131, Value.ref 133, Value.ref 135, Value.ref 137, Value.ref 139, Value.ref 141, Value.ref 143, Value.ref 145, Value.ref 147, Value.ref 149, Value.ref 151, Value.ref 153, Value.ref 154, Value.ref 155, Value.ref 156, Value.ref 157, Value.int (-16384), Value.int 16384, Value.int 3, Value.int 0, Value.int 0, Value.ref 158, Value.ref 159, Value.int 0, Value.int 0, Value.int 0, Value.int 0, Value.int 0, Value.int 0, Value.int 0, Value.int 0]))), ?_, ?_, xgs (xgn (by decide) (xgn (by decide) (xgs hm)))⟩
  · refine i_180_207 (x := 128) rfl ?_
    refine i_180_208 (v := Value.int 0) hm rfl ?_
    refine i_180_211 (fun h => absurd h (by decide)) (fun _ => ?_)
    refine i_180_214 (x := 128) rfl ?_
    refine i_180_215 (v := Value.ref 135) hm rfl ?_
    refine i_180_218 (v := Value.int 3) hq rfl ?_
    refine i_180_221 (fun h => absurd h (by decide)) (fun _ => ?_)
    refine i_180_224 (x := E) rfl ?_
    refine i_180_226 (x := 128) rfl ?_
    refine i_180_227 (v := Value.int 16384) hm rfl ?_
    refine i_180_230 (fun h => absurd (show 16384 < E.toInt by omega) (Int.not_lt.mpr h)) (fun _ => ?_)
    refine i_180_233 (x := 128) rfl ?_
    refine i_180_234 rfl ?_
    refine i_180_235 (v := Value.int 0) hm rfl ?_
    refine i_180_238 ?_
    refine i_180_239 (c := 2) (by decide) ?_
    refine i_180_240 (fs2 := [Value.ref 129, Value.ref 131, Value.ref 133, Value.ref 135, Value.ref 137, Value.ref 139, Value.ref 141, Value.ref 143, Value.ref 145, Value.ref 147, Value.ref 149, Value.ref 151, Value.ref 153, Value.ref 154, Value.ref 155, Value.ref 156, Value.ref 157, Value.int (-16384), Value.int 16384, Value.int 2, Value.int 0, Value.int 0, Value.ref 158, Value.ref 159, Value.int 0, Value.int 0, Value.int 0, Value.int 0, Value.int 0, Value.int 0, Value.int 0, Value.int 0]) hm (Nat.le_of_ble_eq_true rfl) rfl (by omega) ?_
    refine i_180_243 (x := md) rfl ?_
    refine i_180_245 (fun _ => ?_) (fun h => absurd (show md.toInt = 0 by omega) h)
    refine i_180_276 ?_
    refine i_180_277 ?_
    refine i_180_281 (lv2 := [(15, Value.int 1), (14, Value.int 0), (13, Value.int E), (12, Value.int 1), (11, Value.int 0), (10, Value.int C), (9, Value.int U), (8, Value.int E), (7, Value.int 64), (0, Value.ref 128), (1, Value.int (xs 1)), (2, Value.ref 129), (3, Value.int sc), (4, Value.int 0), (5, Value.int 0), (6, Value.int md)]) rfl ?_
    refine i_180_283 (x := 1) rfl ?_
    refine i_180_285 (fun h => absurd h (by decide)) (fun _ => ?_)
    refine i_180_288 (x := 128) rfl ?_
    refine i_180_289 (x := (xs 1)) rfl ?_
    refine i_180_290 ?_
    refine i_180_291 (x := 0) rfl ?_
    refine i_180_293 (xgs hm) (Nat.le_of_ble_eq_true rfl) (s_171_0 (xgs hm) (xgn (by decide) (((hk 154 (by decide) (by decide) (by decide) (by decide) (by decide)).trans W0_154))) (by omega) (by omega) (xgn (by decide) hn)) ?_
    refine i_180_296 rfl ?_
    refine i_180_297 ?_
    refine i_180_352 (x := 1) rfl ?_
    refine i_180_354 (fun h => absurd h (by decide)) (fun _ => ?_)
    refine i_180_357 ?_
    refine i_180_358 ?_
    refine i_180_362 (lv2 := [(14, Value.int 1), (15, Value.int 1), (13, Value.int E), (12, Value.int 1), (11, Value.int 0), (10, Value.int C), (9, Value.int U), (8, Value.int E), (7, Value.int 64), (0, Value.ref 128), (1, Value.int (xs 1)), (2, Value.ref 129), (3, Value.int sc), (4, Value.int 0), (5, Value.int 0), (6, Value.int md)]) rfl ?_
    refine i_180_364 ?_
    refine i_180_591 (x := 128) rfl ?_
    refine i_180_592 (v := Value.int 0) (xgn (by decide) (xgn (by decide) (xgs hm))) rfl ?_
    refine i_180_595 (fun h => absurd h (by decide)) (fun _ => ?_)
    refine i_180_598 (x := 128) rfl ?_
    refine i_180_599 (v := Value.int 0) (xgn (by decide) (xgn (by decide) (xgs hm))) rfl ?_
    refine i_180_602 (fun _ => ?_) (fun h => absurd h (by decide))
    refine i_180_629 (x := 1) rfl ?_
    refine i_180_631 (fun h => absurd h (by decide)) (fun _ => ?_)
    refine i_180_634 (x := 128) rfl ?_
    refine i_180_635 rfl ?_
    refine i_180_636 (v := Value.int 2) (xgn (by decide) (xgn (by decide) (xgs hm))) rfl ?_
    refine i_180_639 ?_
    refine i_180_640 (c := 3) (by decide) ?_
    refine i_180_641 (fs2 := [Value.ref 129, Value.ref 131, Value.ref 133, Value.ref 135, Value.ref 137, Value.ref 139, Value.ref 141, Value.ref 143, Value.ref 145, Value.ref 147, Value.ref 149, Value.ref 151, Value.ref 153, Value.ref 154, Value.ref 155, Value.ref 156, Value.ref 157, Value.int (-16384), Value.int 16384, Value.int 3, Value.int 0, Value.int 0, Value.ref 158, Value.ref 159, Value.int 0, Value.int 0, Value.int 0, Value.int 0, Value.int 0, Value.int 0, Value.int 0, Value.int 0]) (xgn (by decide) (xgn (by decide) (xgs hm))) (Nat.le_of_ble_eq_true rfl) rfl (by omega) ?_
    refine i_180_644 (x := 0) rfl ?_
    refine i_180_646 (fun _ => ?_) (fun h => absurd h (by decide))
    refine i_180_655 (x := 1) rfl ?_
    exact i_180_657 ⟨rfl, rfl⟩
  · refine xKp.set ?_ (fun h hh => by unfold xPM at hh; omega) (xgn (by decide) (xgn (by decide) (xgs hm))) xcs_o
    refine xKp.set ?_ (fun h hh => by unfold xPM at hh; omega) (xgn (by decide) (xgn (by decide) hn)) xcs_a
    refine xKp.set ?_ (fun h hh => by unfold xPM at hh; omega) (xgn (by decide) (((hk 154 (by decide) (by decide) (by decide) (by decide) (by decide)).trans W0_154))) xcs_a
    refine xKp.set ?_ (fun h hh => by unfold xPM at hh; omega) (hm) xcs_o
    exact xKp.refl
theorem sf0_1 {d : Nat} {xs : Nat → Int32} {m : Int64} {sc md : Int32} {w : xW} {B E U C q0 q1 q2 nn : Int32} {g : Nat → Value} (hk : ∀ h, 131 ≤ h → h < 194 → h ≠ 135 → h ≠ 136 → h ≠ 156 → w[h]? = (W0 6 xs)[h]?) (hm : w[128]? = some (Sum.inr (12, [Value.ref 129, Value.ref 131, Value.ref 133, Value.ref 135, Value.ref 137, Value.ref 139, Value.ref 141, Value.ref 143, Value.ref 145, Value.ref 147, Value.ref 149, Value.ref 151, Value.ref 153, Value.ref 154, Value.ref 155, Value.ref 156, Value.ref 157, Value.int (-16384), Value.int 16384, Value.int 0, Value.int 0, Value.int 0, Value.ref 158, Value.ref 159, Value.int 0, Value.int 0, Value.int 0, Value.int 0, Value.int 0, Value.int 0, Value.int 0, Value.int 0]))) (hv : w[129]? = some (Sum.inr (13, [Value.ref 130, Value.int nn]))) (hq : w[135]? = some (Sum.inr (13, [Value.ref 136, Value.int 3]))) (hqw : w[136]? = some (Sum.inl (0, 4700, g))) (hg0 : g (0 : Int32).toInt.toNat = Value.int q0) (hg1 : g (1 : Int32).toInt.toNat = Value.int q1) (hg2 : g (2 : Int32).toInt.toNat = Value.int q2) (hn : w[156]? = some (Sum.inl (2, 17, xup (fun _ => Value.int 0) (xs 1).toInt.toNat (Value.int 0)))) (hbits : ∀ (d' : Nat) (w' : xW), w'[129]? = w[129]? → w'[130]? = w[130]? → xRun d' 181 [Value.ref 129] w' (.inl (some (Value.int B))) w') (hany0 : xPW m → ∀ (d' : Nat) (w' : xW), w'[129]? = w[129]? → w'[130]? = w[130]? → xRun d' 183 [Value.ref 129, Value.int (B - (1 : Int32))] w' (.inl (some (Value.int 0))) w') (hany1 : ¬ xPW m → ∀ (d' : Nat) (w' : xW), w'[129]? = w[129]? → w'[130]? = w[130]? → xRun d' 183 [Value.ref 129, Value.int (B - (1 : Int32))] w' (.inl (some (Value.int 1))) w') (c0 : 0 ≤ (xs 1).toInt) (c1 : (xs 1).toInt < 16) (c2 : (-40000) ≤ sc.toInt) (c3 : sc.toInt ≤ 40000) (c4 : 0 ≤ md.toInt) (c5 : md.toInt ≤ 4) (c6 : 1 ≤ B.toInt) (c7 : B.toInt ≤ 64) (c8 : E.toInt = B.toInt + sc.toInt) (c9 : U.toInt = E.toInt - 64) (c10 : 0 ≤ q2.toInt) (c11 : (xbn q2).toInt = 4) (c12 : 16384 < E.toInt) (c13 : md.toInt ≠ 0) (c14 : md.toInt = 4) : ∃ w2, xEv (d + 6) 180 207 [(14, Value.int 0), (13, Value.int E), (12, Value.int 1), (11, Value.int 0), (10, Value.int C), (9, Value.int U), (8, Value.int E), (7, Value.int 64), (0, Value.ref 128), (1, Value.int (xs 1)), (2, Value.ref 129), (3, Value.int sc), (4, Value.int 0), (5, Value.int 0), (6, Value.int md)] [] w (fun o' w' => o' = .inl (some (Value.int 1)) ∧ w' = w2) ∧ xKp w w2 xPM ∧ w2[128]? = some (Sum.inr (12, [Value.ref 129, Value.ref 131, Value.ref 133, Value.ref 135, Value.ref 137, Value.ref 139, Value.ref 141, Value.ref 143, Value.ref 145, Value.ref 147, Value.ref 149, Value.ref 151, Value.ref 153, Value.ref 154, Value.ref 155, Value.ref 156, Value.ref 157, Value.int (-16384), Value.int 16384, Value.int 3, Value.int 0, Value.int 0, Value.ref 158, Value.ref 159, Value.int 0, Value.int 0, Value.int 0, Value.int 0, Value.int 0, Value.int 0, Value.int 0, Value.int 0])) := by
  refine ⟨((((w.set 128 (Sum.inr (12, [Value.ref 129, Value.ref 131, Value.ref 133, Value.ref 135, Value.ref 137, Value.ref 139, Value.ref 141, Value.ref 143, Value.ref 145, Value.ref 147, Value.ref 149, Value.ref 151, Value.ref 153, Value.ref 154, Value.ref 155, Value.ref 156, Value.ref 157, Value.int (-16384), Value.int 16384, Value.int 2, Value.int 0, Value.int 0, Value.ref 158, Value.ref 159, Value.int 0, Value.int 0, Value.int 0, Value.int 0, Value.int 0, Value.int 0, Value.int 0, Value.int 0]))).set 154 (Sum.inl (0, 17, xup (fun _ => Value.int 0) (xs 1).toInt.toNat (Value.int 1)))).set 156 (Sum.inl (2, 17, xup (xup (fun _ => Value.int 0) (xs 1).toInt.toNat (Value.int 0)) (xs 1).toInt.toNat (Value.int 0)))).set 128 (Sum.inr (12, [Value.ref 129, Value.ref 131, Value.ref 133, Value.ref 135, Value.ref 137, Value.ref 139, Value.ref 141, Value.ref 143, Value.ref 145, Value.ref 147, Value.ref 149, Value.ref 151, Value.ref 153, Value.ref 154, Value.ref 155, Value.ref 156, Value.ref 157, Value.int (-16384), Value.int 16384, Value.int 3, Value.int 0, Value.int 0, Value.ref 158, Value.ref 159, Value.int 0, Value.int 0, Value.int 0, Value.int 0, Value.int 0, Value.int 0, Value.int 0, Value.int 0]))), ?_, ?_, xgs (xgn (by decide) (xgn (by decide) (xgs hm)))⟩
  · refine i_180_207 (x := 128) rfl ?_
    refine i_180_208 (v := Value.int 0) hm rfl ?_
    refine i_180_211 (fun h => absurd h (by decide)) (fun _ => ?_)
    refine i_180_214 (x := 128) rfl ?_
    refine i_180_215 (v := Value.ref 135) hm rfl ?_
    refine i_180_218 (v := Value.int 3) hq rfl ?_
    refine i_180_221 (fun h => absurd h (by decide)) (fun _ => ?_)
    refine i_180_224 (x := E) rfl ?_
    refine i_180_226 (x := 128) rfl ?_
    refine i_180_227 (v := Value.int 16384) hm rfl ?_
    refine i_180_230 (fun h => absurd (show 16384 < E.toInt by omega) (Int.not_lt.mpr h)) (fun _ => ?_)
    refine i_180_233 (x := 128) rfl ?_
    refine i_180_234 rfl ?_
    refine i_180_235 (v := Value.int 0) hm rfl ?_
    refine i_180_238 ?_
    refine i_180_239 (c := 2) (by decide) ?_
    refine i_180_240 (fs2 := [Value.ref 129, Value.ref 131, Value.ref 133, Value.ref 135, Value.ref 137, Value.ref 139, Value.ref 141, Value.ref 143, Value.ref 145, Value.ref 147, Value.ref 149, Value.ref 151, Value.ref 153, Value.ref 154, Value.ref 155, Value.ref 156, Value.ref 157, Value.int (-16384), Value.int 16384, Value.int 2, Value.int 0, Value.int 0, Value.ref 158, Value.ref 159, Value.int 0, Value.int 0, Value.int 0, Value.int 0, Value.int 0, Value.int 0, Value.int 0, Value.int 0]) hm (Nat.le_of_ble_eq_true rfl) rfl (by omega) ?_
    refine i_180_243 (x := md) rfl ?_
    refine i_180_245 (fun h => absurd (show md.toInt ≠ 0 by omega) (fun g => g h)) (fun _ => ?_)
    refine i_180_248 (x := md) rfl ?_
    refine i_180_250 ?_
    refine i_180_251 (fun _ => ?_) (fun h => absurd (show md.toInt = 4 by omega) h)
    refine i_180_276 ?_
    refine i_180_277 ?_
    refine i_180_281 (lv2 := [(15, Value.int 1), (14, Value.int 0), (13, Value.int E), (12, Value.int 1), (11, Value.int 0), (10, Value.int C), (9, Value.int U), (8, Value.int E), (7, Value.int 64), (0, Value.ref 128), (1, Value.int (xs 1)), (2, Value.ref 129), (3, Value.int sc), (4, Value.int 0), (5, Value.int 0), (6, Value.int md)]) rfl ?_
    refine i_180_283 (x := 1) rfl ?_
    refine i_180_285 (fun h => absurd h (by decide)) (fun _ => ?_)
    refine i_180_288 (x := 128) rfl ?_
    refine i_180_289 (x := (xs 1)) rfl ?_
    refine i_180_290 ?_
    refine i_180_291 (x := 0) rfl ?_
    refine i_180_293 (xgs hm) (Nat.le_of_ble_eq_true rfl) (s_171_0 (xgs hm) (xgn (by decide) (((hk 154 (by decide) (by decide) (by decide) (by decide) (by decide)).trans W0_154))) (by omega) (by omega) (xgn (by decide) hn)) ?_
    refine i_180_296 rfl ?_
    refine i_180_297 ?_
    refine i_180_352 (x := 1) rfl ?_
    refine i_180_354 (fun h => absurd h (by decide)) (fun _ => ?_)
    refine i_180_357 ?_
    refine i_180_358 ?_
    refine i_180_362 (lv2 := [(14, Value.int 1), (15, Value.int 1), (13, Value.int E), (12, Value.int 1), (11, Value.int 0), (10, Value.int C), (9, Value.int U), (8, Value.int E), (7, Value.int 64), (0, Value.ref 128), (1, Value.int (xs 1)), (2, Value.ref 129), (3, Value.int sc), (4, Value.int 0), (5, Value.int 0), (6, Value.int md)]) rfl ?_
    refine i_180_364 ?_
    refine i_180_591 (x := 128) rfl ?_
    refine i_180_592 (v := Value.int 0) (xgn (by decide) (xgn (by decide) (xgs hm))) rfl ?_
    refine i_180_595 (fun h => absurd h (by decide)) (fun _ => ?_)
    refine i_180_598 (x := 128) rfl ?_
    refine i_180_599 (v := Value.int 0) (xgn (by decide) (xgn (by decide) (xgs hm))) rfl ?_
    refine i_180_602 (fun _ => ?_) (fun h => absurd h (by decide))
    refine i_180_629 (x := 1) rfl ?_
    refine i_180_631 (fun h => absurd h (by decide)) (fun _ => ?_)
    refine i_180_634 (x := 128) rfl ?_
    refine i_180_635 rfl ?_
    refine i_180_636 (v := Value.int 2) (xgn (by decide) (xgn (by decide) (xgs hm))) rfl ?_
    refine i_180_639 ?_
    refine i_180_640 (c := 3) (by decide) ?_
    refine i_180_641 (fs2 := [Value.ref 129, Value.ref 131, Value.ref 133, Value.ref 135, Value.ref 137, Value.ref 139, Value.ref 141, Value.ref 143, Value.ref 145, Value.ref 147, Value.ref 149, Value.ref 151, Value.ref 153, Value.ref 154, Value.ref 155, Value.ref 156, Value.ref 157, Value.int (-16384), Value.int 16384, Value.int 3, Value.int 0, Value.int 0, Value.ref 158, Value.ref 159, Value.int 0, Value.int 0, Value.int 0, Value.int 0, Value.int 0, Value.int 0, Value.int 0, Value.int 0]) (xgn (by decide) (xgn (by decide) (xgs hm))) (Nat.le_of_ble_eq_true rfl) rfl (by omega) ?_
    refine i_180_644 (x := 0) rfl ?_
    refine i_180_646 (fun _ => ?_) (fun h => absurd h (by decide))
    refine i_180_655 (x := 1) rfl ?_
    exact i_180_657 ⟨rfl, rfl⟩
  · refine xKp.set ?_ (fun h hh => by unfold xPM at hh; omega) (xgn (by decide) (xgn (by decide) (xgs hm))) xcs_o
    refine xKp.set ?_ (fun h hh => by unfold xPM at hh; omega) (xgn (by decide) (xgn (by decide) hn)) xcs_a
    refine xKp.set ?_ (fun h hh => by unfold xPM at hh; omega) (xgn (by decide) (((hk 154 (by decide) (by decide) (by decide) (by decide) (by decide)).trans W0_154))) xcs_a
    refine xKp.set ?_ (fun h hh => by unfold xPM at hh; omega) (hm) xcs_o
    exact xKp.refl
theorem sf0_2 {d : Nat} {xs : Nat → Int32} {m : Int64} {sc md : Int32} {w : xW} {B E U C q0 q1 q2 nn : Int32} {g : Nat → Value} (hk : ∀ h, 131 ≤ h → h < 194 → h ≠ 135 → h ≠ 136 → h ≠ 156 → w[h]? = (W0 6 xs)[h]?) (hm : w[128]? = some (Sum.inr (12, [Value.ref 129, Value.ref 131, Value.ref 133, Value.ref 135, Value.ref 137, Value.ref 139, Value.ref 141, Value.ref 143, Value.ref 145, Value.ref 147, Value.ref 149, Value.ref 151, Value.ref 153, Value.ref 154, Value.ref 155, Value.ref 156, Value.ref 157, Value.int (-16384), Value.int 16384, Value.int 0, Value.int 0, Value.int 0, Value.ref 158, Value.ref 159, Value.int 0, Value.int 0, Value.int 0, Value.int 0, Value.int 0, Value.int 0, Value.int 0, Value.int 0]))) (hv : w[129]? = some (Sum.inr (13, [Value.ref 130, Value.int nn]))) (hq : w[135]? = some (Sum.inr (13, [Value.ref 136, Value.int 3]))) (hqw : w[136]? = some (Sum.inl (0, 4700, g))) (hg0 : g (0 : Int32).toInt.toNat = Value.int q0) (hg1 : g (1 : Int32).toInt.toNat = Value.int q1) (hg2 : g (2 : Int32).toInt.toNat = Value.int q2) (hn : w[156]? = some (Sum.inl (2, 17, xup (fun _ => Value.int 0) (xs 1).toInt.toNat (Value.int 0)))) (hbits : ∀ (d' : Nat) (w' : xW), w'[129]? = w[129]? → w'[130]? = w[130]? → xRun d' 181 [Value.ref 129] w' (.inl (some (Value.int B))) w') (hany0 : xPW m → ∀ (d' : Nat) (w' : xW), w'[129]? = w[129]? → w'[130]? = w[130]? → xRun d' 183 [Value.ref 129, Value.int (B - (1 : Int32))] w' (.inl (some (Value.int 0))) w') (hany1 : ¬ xPW m → ∀ (d' : Nat) (w' : xW), w'[129]? = w[129]? → w'[130]? = w[130]? → xRun d' 183 [Value.ref 129, Value.int (B - (1 : Int32))] w' (.inl (some (Value.int 1))) w') (c0 : 0 ≤ (xs 1).toInt) (c1 : (xs 1).toInt < 16) (c2 : (-40000) ≤ sc.toInt) (c3 : sc.toInt ≤ 40000) (c4 : 0 ≤ md.toInt) (c5 : md.toInt ≤ 4) (c6 : 1 ≤ B.toInt) (c7 : B.toInt ≤ 64) (c8 : E.toInt = B.toInt + sc.toInt) (c9 : U.toInt = E.toInt - 64) (c10 : 0 ≤ q2.toInt) (c11 : (xbn q2).toInt = 4) (c12 : 16384 < E.toInt) (c13 : md.toInt ≠ 0) (c14 : md.toInt ≠ 4) (c15 : md.toInt = 2) : ∃ w2, xEv (d + 6) 180 207 [(14, Value.int 0), (13, Value.int E), (12, Value.int 1), (11, Value.int 0), (10, Value.int C), (9, Value.int U), (8, Value.int E), (7, Value.int 64), (0, Value.ref 128), (1, Value.int (xs 1)), (2, Value.ref 129), (3, Value.int sc), (4, Value.int 0), (5, Value.int 0), (6, Value.int md)] [] w (fun o' w' => o' = .inl (some (Value.int 1)) ∧ w' = w2) ∧ xKp w w2 xPM ∧ w2[128]? = some (Sum.inr (12, [Value.ref 129, Value.ref 131, Value.ref 133, Value.ref 135, Value.ref 137, Value.ref 139, Value.ref 141, Value.ref 143, Value.ref 145, Value.ref 147, Value.ref 149, Value.ref 151, Value.ref 153, Value.ref 154, Value.ref 155, Value.ref 156, Value.ref 157, Value.int (-16384), Value.int 16384, Value.int 3, Value.int 0, Value.int 0, Value.ref 158, Value.ref 159, Value.int 0, Value.int 0, Value.int 0, Value.int 0, Value.int 0, Value.int 0, Value.int 0, Value.int 0])) := by
  refine ⟨((((w.set 128 (Sum.inr (12, [Value.ref 129, Value.ref 131, Value.ref 133, Value.ref 135, Value.ref 137, Value.ref 139, Value.ref 141, Value.ref 143, Value.ref 145, Value.ref 147, Value.ref 149, Value.ref 151, Value.ref 153, Value.ref 154, Value.ref 155, Value.ref 156, Value.ref 157, Value.int (-16384), Value.int 16384, Value.int 2, Value.int 0, Value.int 0, Value.ref 158, Value.ref 159, Value.int 0, Value.int 0, Value.int 0, Value.int 0, Value.int 0, Value.int 0, Value.int 0, Value.int 0]))).set 154 (Sum.inl (0, 17, xup (fun _ => Value.int 0) (xs 1).toInt.toNat (Value.int 1)))).set 156 (Sum.inl (2, 17, xup (xup (fun _ => Value.int 0) (xs 1).toInt.toNat (Value.int 0)) (xs 1).toInt.toNat (Value.int 0)))).set 128 (Sum.inr (12, [Value.ref 129, Value.ref 131, Value.ref 133, Value.ref 135, Value.ref 137, Value.ref 139, Value.ref 141, Value.ref 143, Value.ref 145, Value.ref 147, Value.ref 149, Value.ref 151, Value.ref 153, Value.ref 154, Value.ref 155, Value.ref 156, Value.ref 157, Value.int (-16384), Value.int 16384, Value.int 3, Value.int 0, Value.int 0, Value.ref 158, Value.ref 159, Value.int 0, Value.int 0, Value.int 0, Value.int 0, Value.int 0, Value.int 0, Value.int 0, Value.int 0]))), ?_, ?_, xgs (xgn (by decide) (xgn (by decide) (xgs hm)))⟩
  · refine i_180_207 (x := 128) rfl ?_
    refine i_180_208 (v := Value.int 0) hm rfl ?_
    refine i_180_211 (fun h => absurd h (by decide)) (fun _ => ?_)
    refine i_180_214 (x := 128) rfl ?_
    refine i_180_215 (v := Value.ref 135) hm rfl ?_
    refine i_180_218 (v := Value.int 3) hq rfl ?_
    refine i_180_221 (fun h => absurd h (by decide)) (fun _ => ?_)
    refine i_180_224 (x := E) rfl ?_
    refine i_180_226 (x := 128) rfl ?_
    refine i_180_227 (v := Value.int 16384) hm rfl ?_
    refine i_180_230 (fun h => absurd (show 16384 < E.toInt by omega) (Int.not_lt.mpr h)) (fun _ => ?_)
    refine i_180_233 (x := 128) rfl ?_
    refine i_180_234 rfl ?_
    refine i_180_235 (v := Value.int 0) hm rfl ?_
    refine i_180_238 ?_
    refine i_180_239 (c := 2) (by decide) ?_
    refine i_180_240 (fs2 := [Value.ref 129, Value.ref 131, Value.ref 133, Value.ref 135, Value.ref 137, Value.ref 139, Value.ref 141, Value.ref 143, Value.ref 145, Value.ref 147, Value.ref 149, Value.ref 151, Value.ref 153, Value.ref 154, Value.ref 155, Value.ref 156, Value.ref 157, Value.int (-16384), Value.int 16384, Value.int 2, Value.int 0, Value.int 0, Value.ref 158, Value.ref 159, Value.int 0, Value.int 0, Value.int 0, Value.int 0, Value.int 0, Value.int 0, Value.int 0, Value.int 0]) hm (Nat.le_of_ble_eq_true rfl) rfl (by omega) ?_
    refine i_180_243 (x := md) rfl ?_
    refine i_180_245 (fun h => absurd (show md.toInt ≠ 0 by omega) (fun g => g h)) (fun _ => ?_)
    refine i_180_248 (x := md) rfl ?_
    refine i_180_250 ?_
    refine i_180_251 (fun h => absurd (show md.toInt ≠ 4 by omega) (fun g => g h)) (fun _ => ?_)
    refine i_180_254 (x := md) rfl ?_
    refine i_180_256 ?_
    refine i_180_257 (fun h => absurd (show md.toInt = 2 by omega) h) (fun _ => ?_)
    refine i_180_260 (x := 0) rfl ?_
    refine i_180_262 (fun _ => ?_) (fun h => absurd h (by decide))
    refine i_180_276 ?_
    refine i_180_277 ?_
    refine i_180_281 (lv2 := [(15, Value.int 1), (14, Value.int 0), (13, Value.int E), (12, Value.int 1), (11, Value.int 0), (10, Value.int C), (9, Value.int U), (8, Value.int E), (7, Value.int 64), (0, Value.ref 128), (1, Value.int (xs 1)), (2, Value.ref 129), (3, Value.int sc), (4, Value.int 0), (5, Value.int 0), (6, Value.int md)]) rfl ?_
    refine i_180_283 (x := 1) rfl ?_
    refine i_180_285 (fun h => absurd h (by decide)) (fun _ => ?_)
    refine i_180_288 (x := 128) rfl ?_
    refine i_180_289 (x := (xs 1)) rfl ?_
    refine i_180_290 ?_
    refine i_180_291 (x := 0) rfl ?_
    refine i_180_293 (xgs hm) (Nat.le_of_ble_eq_true rfl) (s_171_0 (xgs hm) (xgn (by decide) (((hk 154 (by decide) (by decide) (by decide) (by decide) (by decide)).trans W0_154))) (by omega) (by omega) (xgn (by decide) hn)) ?_
    refine i_180_296 rfl ?_
    refine i_180_297 ?_
    refine i_180_352 (x := 1) rfl ?_
    refine i_180_354 (fun h => absurd h (by decide)) (fun _ => ?_)
    refine i_180_357 ?_
    refine i_180_358 ?_
    refine i_180_362 (lv2 := [(14, Value.int 1), (15, Value.int 1), (13, Value.int E), (12, Value.int 1), (11, Value.int 0), (10, Value.int C), (9, Value.int U), (8, Value.int E), (7, Value.int 64), (0, Value.ref 128), (1, Value.int (xs 1)), (2, Value.ref 129), (3, Value.int sc), (4, Value.int 0), (5, Value.int 0), (6, Value.int md)]) rfl ?_
    refine i_180_364 ?_
    refine i_180_591 (x := 128) rfl ?_
    refine i_180_592 (v := Value.int 0) (xgn (by decide) (xgn (by decide) (xgs hm))) rfl ?_
    refine i_180_595 (fun h => absurd h (by decide)) (fun _ => ?_)
    refine i_180_598 (x := 128) rfl ?_
    refine i_180_599 (v := Value.int 0) (xgn (by decide) (xgn (by decide) (xgs hm))) rfl ?_
    refine i_180_602 (fun _ => ?_) (fun h => absurd h (by decide))
    refine i_180_629 (x := 1) rfl ?_
    refine i_180_631 (fun h => absurd h (by decide)) (fun _ => ?_)
    refine i_180_634 (x := 128) rfl ?_
    refine i_180_635 rfl ?_
    refine i_180_636 (v := Value.int 2) (xgn (by decide) (xgn (by decide) (xgs hm))) rfl ?_
    refine i_180_639 ?_
    refine i_180_640 (c := 3) (by decide) ?_
    refine i_180_641 (fs2 := [Value.ref 129, Value.ref 131, Value.ref 133, Value.ref 135, Value.ref 137, Value.ref 139, Value.ref 141, Value.ref 143, Value.ref 145, Value.ref 147, Value.ref 149, Value.ref 151, Value.ref 153, Value.ref 154, Value.ref 155, Value.ref 156, Value.ref 157, Value.int (-16384), Value.int 16384, Value.int 3, Value.int 0, Value.int 0, Value.ref 158, Value.ref 159, Value.int 0, Value.int 0, Value.int 0, Value.int 0, Value.int 0, Value.int 0, Value.int 0, Value.int 0]) (xgn (by decide) (xgn (by decide) (xgs hm))) (Nat.le_of_ble_eq_true rfl) rfl (by omega) ?_
    refine i_180_644 (x := 0) rfl ?_
    refine i_180_646 (fun _ => ?_) (fun h => absurd h (by decide))
    refine i_180_655 (x := 1) rfl ?_
    exact i_180_657 ⟨rfl, rfl⟩
  · refine xKp.set ?_ (fun h hh => by unfold xPM at hh; omega) (xgn (by decide) (xgn (by decide) (xgs hm))) xcs_o
    refine xKp.set ?_ (fun h hh => by unfold xPM at hh; omega) (xgn (by decide) (xgn (by decide) hn)) xcs_a
    refine xKp.set ?_ (fun h hh => by unfold xPM at hh; omega) (xgn (by decide) (((hk 154 (by decide) (by decide) (by decide) (by decide) (by decide)).trans W0_154))) xcs_a
    refine xKp.set ?_ (fun h hh => by unfold xPM at hh; omega) (hm) xcs_o
    exact xKp.refl
theorem s_280_1 {d : Nat} {w : xW} : xRun d 280 [Value.int 4700, Value.int 0, Value.int 2] w (.inl none) w := by
  refine xRun.of ?_
  refine i_280_0 (x := 0) rfl ?_
  refine i_280_1 (x := 2) rfl ?_
  refine i_280_2 (fun _ => ?_) (fun h => absurd h (by decide))
  refine i_280_46 (x := 0) rfl ?_
  refine i_280_47 (fun _ => ?_) (fun h => absurd h (by decide))
  refine i_280_59 (x := 2) rfl ?_
  refine i_280_60 (x := 4700) rfl ?_
  refine i_280_61 (fun _ => ?_) (fun h => absurd h (by decide))
  exact i_280_73 ⟨rfl, rfl⟩
theorem s_279_2 {d : Nat} {w : xW} (hw0 : w[152]? = some (Sum.inl (0, 4700, fun _ => Value.int 0))) : xRun (d + 1) 279 [Value.ref 152, Value.int 0, Value.int 2, Value.int 0] w (.inl none) (w.set 152 (Sum.inl (0, 4700, xup (xup (fun _ => Value.int 0) (0 : Int32).toInt.toNat (Value.int 0)) (1 : Int32).toInt.toNat (Value.int 0)))) := by
  refine xRun.of ?_
  refine i_279_0 (x := 152) rfl ?_
  refine i_279_1 (c := 4700) hw0 (by decide) ?_
  refine i_279_2 (x := 0) rfl ?_
  refine i_279_3 (x := 2) rfl ?_
  refine i_279_4 (Nat.le_of_ble_eq_true rfl) (s_280_1) ?_
  refine i_279_7 (x := 0) rfl ?_
  refine i_279_8 (lv2 := [(4, Value.int 0), (0, Value.ref 152), (1, Value.int 0), (2, Value.int 2), (3, Value.int 0)]) rfl ?_
  refine i_279_10 (x := 0) rfl ?_
  refine i_279_12 (x := 2) rfl ?_
  refine i_279_13 (fun h => absurd h (by decide)) (fun _ => ?_)
  refine i_279_16 (x := 152) rfl ?_
  refine i_279_17 (x := 0) rfl ?_
  refine i_279_19 (x := 0) rfl ?_
  refine i_279_20 (v := Value.int 0) hw0 (by decide) (by decide) (by decide) rfl ?_
  refine i_279_21 (x := 0) (c := 1) (lv2 := [(4, Value.int 1), (0, Value.ref 152), (1, Value.int 0), (2, Value.int 2), (3, Value.int 0)]) rfl (by decide) rfl ?_
  refine i_279_24 ?_
  refine i_279_10 (x := 1) rfl ?_
  refine i_279_12 (x := 2) rfl ?_
  refine i_279_13 (fun h => absurd h (by decide)) (fun _ => ?_)
  refine i_279_16 (x := 152) rfl ?_
  refine i_279_17 (x := 1) rfl ?_
  refine i_279_19 (x := 0) rfl ?_
  refine i_279_20 (v := Value.int 0) (xgs hw0) (by decide) (by decide) (by decide) rfl ?_
  refine xEv.world (List.set_set _) ?_
  refine i_279_21 (x := 1) (c := 2) (lv2 := [(4, Value.int 2), (0, Value.ref 152), (1, Value.int 0), (2, Value.int 2), (3, Value.int 0)]) rfl (by decide) rfl ?_
  refine i_279_24 ?_
  refine i_279_10 (x := 2) rfl ?_
  refine i_279_12 (x := 2) rfl ?_
  refine i_279_13 (fun _ => ?_) (fun h => absurd h (by decide))
  exact i_279_27 ⟨rfl, rfl⟩
theorem s_190_0 {d : Nat} {w : xW} (hw0 : w[151]? = some (Sum.inr (13, [Value.ref 152, Value.int 0]))) (hw1 : w[152]? = some (Sum.inl (0, 4700, fun _ => Value.int 0))) : xRun (d + 2) 190 [Value.ref 151, Value.int 64] w (.inl none) ((w.set 152 (Sum.inl (0, 4700, xup (xup (xup (fun _ => Value.int 0) (0 : Int32).toInt.toNat (Value.int 0)) (1 : Int32).toInt.toNat (Value.int 0)) (2 : Int32).toInt.toNat (Value.int 16)))).set 151 (Sum.inr (13, [Value.ref 152, Value.int 3]))) := by
  refine xRun.of ?_
  refine i_190_0 (x := 151) rfl ?_
  refine i_190_1 (v := Value.ref 152) hw0 rfl ?_
  refine i_190_4 ?_
  refine i_190_5 (x := 64) rfl ?_
  refine i_190_6 ?_
  refine i_190_8 (x := 64) (z := 30) (c := 2) (by decide) (by decide) ?_
  refine i_190_9 ?_
  refine i_190_10 (Nat.le_of_ble_eq_true rfl) (s_279_2 hw1) ?_
  refine i_190_13 (x := 151) rfl ?_
  refine i_190_14 (v := Value.ref 152) (xgn (by decide) hw0) rfl ?_
  refine i_190_17 (x := 64) rfl ?_
  refine i_190_18 ?_
  refine i_190_20 (x := 64) (z := 30) (c := 2) (by decide) (by decide) ?_
  refine i_190_21 ?_
  refine i_190_22 (x := 64) rfl ?_
  refine i_190_23 ?_
  refine i_190_25 (x := 64) (z := 30) (c := 4) (by decide) (by decide) ?_
  refine i_190_26 (c := 16) (by decide) ?_
  refine i_190_27 (v := Value.int 16) (xgs hw1) (by decide) (by decide) (by decide) rfl ?_
  refine xEv.world (List.set_set _) ?_
  refine i_190_28 (x := 151) rfl ?_
  refine i_190_29 (x := 64) rfl ?_
  refine i_190_30 ?_
  refine i_190_32 (x := 64) (z := 30) (c := 2) (by decide) (by decide) ?_
  refine i_190_33 ?_
  refine i_190_34 (c := 3) (by decide) ?_
  refine i_190_35 (fs2 := [Value.ref 152, Value.int 3]) (xgn (by decide) hw0) (Nat.le_of_ble_eq_true rfl) rfl (by decide) ?_
  exact i_190_38 ⟨rfl, rfl⟩
theorem s_179_0 {d : Nat} {w : xW} (hw0 : w[143]? = some (Sum.inr (13, [Value.ref 144, Value.int 0]))) (hw1 : w[144]? = some (Sum.inl (0, 4700, fun _ => Value.int 0))) : xRun d 179 [Value.ref 143, Value.long 1] w (.inl none) (((w.set 143 (Sum.inr (13, [Value.ref 144, Value.int 0]))).set 144 (Sum.inl (0, 4700, xup (fun _ => Value.int 0) (0 : Int32).toInt.toNat (Value.int 1)))).set 143 (Sum.inr (13, [Value.ref 144, Value.int 1]))) := by
  refine xRun.of ?_
  refine i_179_0 (x := 143) rfl ?_
  refine i_179_1 ?_
  refine i_179_2 (fs2 := [Value.ref 144, Value.int 0]) hw0 (Nat.le_of_ble_eq_true rfl) rfl (by decide) ?_
  refine i_179_5 (x := 1) rfl ?_
  refine i_179_6 (lv2 := [(3, Value.long 1), (0, Value.ref 143), (1, Value.long 1)]) rfl ?_
  refine i_179_7 (x := 1) rfl ?_
  refine i_179_8 ?_
  refine i_179_9 (c := 1) (by decide) ?_
  refine i_179_10 (fun h => absurd h (by decide)) (fun _ => ?_)
  refine i_179_13 (x := 143) rfl ?_
  refine i_179_14 (v := Value.ref 144) (xgs hw0) rfl ?_
  refine i_179_17 (x := 143) rfl ?_
  refine i_179_18 (v := Value.int 0) (xgs hw0) rfl ?_
  refine i_179_21 (x := 1) rfl ?_
  refine i_179_22 (c := 1) (by decide) ?_
  refine i_179_23 ?_
  refine i_179_25 (c := 1) (by decide) ?_
  refine i_179_26 (v := Value.int 1) (xgn (by decide) hw1) (by decide) (by decide) (by decide) rfl ?_
  refine i_179_27 (x := 143) rfl ?_
  refine i_179_28 rfl ?_
  refine i_179_29 (v := Value.int 0) (xgn (by decide) (xgs hw0)) rfl ?_
  refine i_179_32 ?_
  refine i_179_33 (c := 1) (by decide) ?_
  refine i_179_34 (fs2 := [Value.ref 144, Value.int 1]) (xgn (by decide) (xgs hw0)) (Nat.le_of_ble_eq_true rfl) rfl (by decide) ?_
  refine i_179_37 (x := 1) rfl ?_
  refine i_179_38 ?_
  refine i_179_40 (c := 0) (by decide) ?_
  refine i_179_41 (lv2 := [(3, Value.long 0), (0, Value.ref 143), (1, Value.long 1)]) rfl ?_
  refine i_179_42 ?_
  refine i_179_7 (x := 0) rfl ?_
  refine i_179_8 ?_
  refine i_179_9 (c := 0) (by decide) ?_
  refine i_179_10 (fun _ => ?_) (fun h => absurd h (by decide))
  exact i_179_45 ⟨rfl, rfl⟩
theorem s_187_5 {d : Nat} {w : xW} {g0 : Nat → Value} (hw0 : w[151]? = some (Sum.inr (13, [Value.ref 152, Value.int 3]))) (hw1 : w[152]? = some (Sum.inl (0, 4700, g0))) (hg2 : g0 (2 : Int32).toInt.toNat = Value.int 15) : xRun d 187 [Value.ref 151, Value.int 3] w (.inl none) (w.set 151 (Sum.inr (13, [Value.ref 152, Value.int 3]))) := by
  refine xRun.of ?_
  refine i_187_0 (x := 151) rfl ?_
  refine i_187_1 (x := 3) rfl ?_
  refine i_187_2 (fs2 := [Value.ref 152, Value.int 3]) hw0 (Nat.le_of_ble_eq_true rfl) rfl (by decide) ?_
  refine i_187_5 (x := 151) rfl ?_
  refine i_187_6 (v := Value.int 3) (xgs hw0) rfl ?_
  refine i_187_9 (fun h => absurd h (by decide)) (fun _ => ?_)
  refine i_187_12 (x := 151) rfl ?_
  refine i_187_13 (v := Value.ref 152) (xgs hw0) rfl ?_
  refine i_187_16 (x := 151) rfl ?_
  refine i_187_17 (v := Value.int 3) (xgs hw0) rfl ?_
  refine i_187_20 ?_
  refine i_187_21 (c := 2) (by decide) ?_
  refine i_187_22 (v := Value.int 15) (xgn (by decide) hw1) (by decide) (by decide) hg2 ?_
  refine i_187_23 (fun _ => ?_) (fun h => absurd h (by decide))
  exact i_187_39 ⟨rfl, rfl⟩
theorem s_191_0 {d : Nat} {w : xW} {g0 : Nat → Value} {g1 : Nat → Value} (hw0 : w[151]? = some (Sum.inr (13, [Value.ref 152, Value.int 3]))) (hw1 : w[152]? = some (Sum.inl (0, 4700, g0))) (hg2 : g0 (0 : Int32).toInt.toNat = Value.int 0) (hw3 : w[143]? = some (Sum.inr (13, [Value.ref 144, Value.int 1]))) (hw4 : w[144]? = some (Sum.inl (0, 4700, g1))) (hg5 : g1 (0 : Int32).toInt.toNat = Value.int 1) (hg6 : g0 (1 : Int32).toInt.toNat = Value.int 0) (hg7 : g0 (2 : Int32).toInt.toNat = Value.int 16) : xRun (d + 1) 191 [Value.ref 151, Value.ref 143] w (.inl none) ((w.set 152 (Sum.inl (0, 4700, xup (xup (xup g0 (0 : Int32).toInt.toNat (Value.int 1073741823)) (1 : Int32).toInt.toNat (Value.int 1073741823)) (2 : Int32).toInt.toNat (Value.int 15)))).set 151 (Sum.inr (13, [Value.ref 152, Value.int 3]))) := by
  refine xRun.of ?_
  refine i_191_0 ?_
  refine i_191_1 (lv2 := [(2, Value.int 0), (0, Value.ref 151), (1, Value.ref 143)]) rfl ?_
  refine i_191_2 ?_
  refine i_191_3 (lv2 := [(3, Value.int 0), (2, Value.int 0), (0, Value.ref 151), (1, Value.ref 143)]) rfl ?_
  refine i_191_4 (x := 0) rfl ?_
  refine i_191_5 (x := 151) rfl ?_
  refine i_191_6 (v := Value.int 3) hw0 rfl ?_
  refine i_191_9 (fun h => absurd h (by decide)) (fun _ => ?_)
  refine i_191_12 (x := 151) rfl ?_
  refine i_191_13 (v := Value.ref 152) hw0 rfl ?_
  refine i_191_16 (x := 0) rfl ?_
  refine i_191_17 (v := Value.int 0) hw1 (by decide) (by decide) hg2 ?_
  refine i_191_18 (x := 0) rfl ?_
  refine i_191_19 (x := 143) rfl ?_
  refine i_191_20 (v := Value.int 1) hw3 rfl ?_
  refine i_191_23 (fun h => absurd h (by decide)) (fun _ => ?_)
  refine i_191_26 (x := 143) rfl ?_
  refine i_191_27 (v := Value.ref 144) hw3 rfl ?_
  refine i_191_30 (x := 0) rfl ?_
  refine i_191_31 (v := Value.int 1) hw4 (by decide) (by decide) hg5 ?_
  refine i_191_32 ?_
  refine i_191_36 (c := (-1)) (by decide) ?_
  refine i_191_37 (x := 0) rfl ?_
  refine i_191_38 (c := (-1)) (by decide) ?_
  refine i_191_39 (lv2 := [(4, Value.int (-1)), (3, Value.int 0), (2, Value.int 0), (0, Value.ref 151), (1, Value.ref 143)]) rfl ?_
  refine i_191_41 (x := 151) rfl ?_
  refine i_191_42 (v := Value.ref 152) hw0 rfl ?_
  refine i_191_45 (x := 0) rfl ?_
  refine i_191_46 (x := (-1)) rfl ?_
  refine i_191_48 ?_
  refine i_191_50 (c := 1073741823) (by decide) ?_
  refine i_191_51 (v := Value.int 1073741823) hw1 (by decide) (by decide) (by decide) rfl ?_
  refine i_191_52 (x := (-1)) rfl ?_
  refine i_191_54 (fun h => absurd h (by decide)) (fun _ => ?_)
  refine i_191_57 ?_
  refine i_191_58 ?_
  refine i_191_62 (lv2 := [(2, Value.int 1), (4, Value.int (-1)), (3, Value.int 0), (0, Value.ref 151), (1, Value.ref 143)]) rfl ?_
  refine i_191_63 (x := 0) (c := 1) (lv2 := [(3, Value.int 1), (2, Value.int 1), (4, Value.int (-1)), (0, Value.ref 151), (1, Value.ref 143)]) rfl (by decide) rfl ?_
  refine i_191_66 ?_
  refine i_191_4 (x := 1) rfl ?_
  refine i_191_5 (x := 151) rfl ?_
  refine i_191_6 (v := Value.int 3) (xgn (by decide) hw0) rfl ?_
  refine i_191_9 (fun h => absurd h (by decide)) (fun _ => ?_)
  refine i_191_12 (x := 151) rfl ?_
  refine i_191_13 (v := Value.ref 152) (xgn (by decide) hw0) rfl ?_
  refine i_191_16 (x := 1) rfl ?_
  refine i_191_17 (v := Value.int 0) (xgs hw1) (by decide) (by decide) (xup_n (by decide) hg6) ?_
  refine i_191_18 (x := 1) rfl ?_
  refine i_191_19 (x := 143) rfl ?_
  refine i_191_20 (v := Value.int 1) (xgn (by decide) hw3) rfl ?_
  refine i_191_23 (fun _ => ?_) (fun h => absurd h (by decide))
  refine i_191_35 ?_
  refine i_191_36 (c := 0) (by decide) ?_
  refine i_191_37 (x := 1) rfl ?_
  refine i_191_38 (c := (-1)) (by decide) ?_
  refine i_191_39 (lv2 := [(4, Value.int (-1)), (3, Value.int 1), (2, Value.int 1), (0, Value.ref 151), (1, Value.ref 143)]) rfl ?_
  refine i_191_41 (x := 151) rfl ?_
  refine i_191_42 (v := Value.ref 152) (xgn (by decide) hw0) rfl ?_
  refine i_191_45 (x := 1) rfl ?_
  refine i_191_46 (x := (-1)) rfl ?_
  refine i_191_48 ?_
  refine i_191_50 (c := 1073741823) (by decide) ?_
  refine i_191_51 (v := Value.int 1073741823) (xgs hw1) (by decide) (by decide) (by decide) rfl ?_
  refine xEv.world (List.set_set _) ?_
  refine i_191_52 (x := (-1)) rfl ?_
  refine i_191_54 (fun h => absurd h (by decide)) (fun _ => ?_)
  refine i_191_57 ?_
  refine i_191_58 ?_
  refine i_191_62 (lv2 := [(2, Value.int 1), (4, Value.int (-1)), (3, Value.int 1), (0, Value.ref 151), (1, Value.ref 143)]) rfl ?_
  refine i_191_63 (x := 1) (c := 2) (lv2 := [(3, Value.int 2), (2, Value.int 1), (4, Value.int (-1)), (0, Value.ref 151), (1, Value.ref 143)]) rfl (by decide) rfl ?_
  refine i_191_66 ?_
  refine i_191_4 (x := 2) rfl ?_
  refine i_191_5 (x := 151) rfl ?_
  refine i_191_6 (v := Value.int 3) (xgn (by decide) hw0) rfl ?_
  refine i_191_9 (fun h => absurd h (by decide)) (fun _ => ?_)
  refine i_191_12 (x := 151) rfl ?_
  refine i_191_13 (v := Value.ref 152) (xgn (by decide) hw0) rfl ?_
  refine i_191_16 (x := 2) rfl ?_
  refine i_191_17 (v := Value.int 16) (xgs hw1) (by decide) (by decide) (xup_n (by decide) (xup_n (by decide) hg7)) ?_
  refine i_191_18 (x := 2) rfl ?_
  refine i_191_19 (x := 143) rfl ?_
  refine i_191_20 (v := Value.int 1) (xgn (by decide) hw3) rfl ?_
  refine i_191_23 (fun _ => ?_) (fun h => absurd h (by decide))
  refine i_191_35 ?_
  refine i_191_36 (c := 16) (by decide) ?_
  refine i_191_37 (x := 1) rfl ?_
  refine i_191_38 (c := 15) (by decide) ?_
  refine i_191_39 (lv2 := [(4, Value.int 15), (3, Value.int 2), (2, Value.int 1), (0, Value.ref 151), (1, Value.ref 143)]) rfl ?_
  refine i_191_41 (x := 151) rfl ?_
  refine i_191_42 (v := Value.ref 152) (xgn (by decide) hw0) rfl ?_
  refine i_191_45 (x := 2) rfl ?_
  refine i_191_46 (x := 15) rfl ?_
  refine i_191_48 ?_
  refine i_191_50 (c := 15) (by decide) ?_
  refine i_191_51 (v := Value.int 15) (xgs hw1) (by decide) (by decide) (by decide) rfl ?_
  refine xEv.world (List.set_set _) ?_
  refine i_191_52 (x := 15) rfl ?_
  refine i_191_54 (fun _ => ?_) (fun h => absurd h (by decide))
  refine i_191_61 ?_
  refine i_191_62 (lv2 := [(2, Value.int 0), (4, Value.int 15), (3, Value.int 2), (0, Value.ref 151), (1, Value.ref 143)]) rfl ?_
  refine i_191_63 (x := 2) (c := 3) (lv2 := [(3, Value.int 3), (2, Value.int 0), (4, Value.int 15), (0, Value.ref 151), (1, Value.ref 143)]) rfl (by decide) rfl ?_
  refine i_191_66 ?_
  refine i_191_4 (x := 3) rfl ?_
  refine i_191_5 (x := 151) rfl ?_
  refine i_191_6 (v := Value.int 3) (xgn (by decide) hw0) rfl ?_
  refine i_191_9 (fun _ => ?_) (fun h => absurd h (by decide))
  refine i_191_69 (x := 151) rfl ?_
  refine i_191_70 (x := 151) rfl ?_
  refine i_191_71 (v := Value.int 3) (xgn (by decide) hw0) rfl ?_
  refine i_191_74 (xgn (by decide) hw0) (Nat.le_of_ble_eq_true rfl) (s_187_5 (xgn (by decide) hw0) (xgs hw1) xup_s) ?_
  exact i_191_77 ⟨rfl, rfl⟩
theorem s_181_0 {d : Nat} {w : xW} {g0 : Nat → Value} (hw0 : w[151]? = some (Sum.inr (13, [Value.ref 152, Value.int 3]))) (hw1 : w[152]? = some (Sum.inl (0, 4700, g0))) (hg2 : g0 (2 : Int32).toInt.toNat = Value.int 15) : xRun d 181 [Value.ref 151] w (.inl (some (Value.int 64))) w := by
  refine xRun.of ?_
  refine i_181_0 (x := 151) rfl ?_
  refine i_181_1 (v := Value.int 3) hw0 rfl ?_
  refine i_181_4 (fun _ => ?_) (fun h => absurd h (by decide))
  refine i_181_9 ?_
  refine i_181_11 (x := 151) rfl ?_
  refine i_181_12 (v := Value.int 3) hw0 rfl ?_
  refine i_181_15 ?_
  refine i_181_16 (c := 2) (by decide) ?_
  refine i_181_17 (c := 60) (by decide) ?_
  refine i_181_18 (lv2 := [(1, Value.int 60), (0, Value.ref 151)]) rfl ?_
  refine i_181_19 (x := 151) rfl ?_
  refine i_181_20 (v := Value.ref 152) hw0 rfl ?_
  refine i_181_23 (x := 151) rfl ?_
  refine i_181_24 (v := Value.int 3) hw0 rfl ?_
  refine i_181_27 ?_
  refine i_181_28 (c := 2) (by decide) ?_
  refine i_181_29 (v := Value.int 15) hw1 (by decide) (by decide) hg2 ?_
  refine i_181_30 (lv2 := [(2, Value.int 15), (1, Value.int 60), (0, Value.ref 151)]) rfl ?_
  refine i_181_31 (x := 15) rfl ?_
  refine i_181_32 (fun h => absurd h (by decide)) (fun _ => ?_)
  refine i_181_35 (x := 60) (c := 61) (lv2 := [(1, Value.int 61), (2, Value.int 15), (0, Value.ref 151)]) rfl (by decide) rfl ?_
  refine i_181_38 (x := 15) rfl ?_
  refine i_181_39 ?_
  refine i_181_40 (c := 7) (by decide) ?_
  refine i_181_41 (lv2 := [(2, Value.int 7), (1, Value.int 61), (0, Value.ref 151)]) rfl ?_
  refine i_181_42 ?_
  refine i_181_31 (x := 7) rfl ?_
  refine i_181_32 (fun h => absurd h (by decide)) (fun _ => ?_)
  refine i_181_35 (x := 61) (c := 62) (lv2 := [(1, Value.int 62), (2, Value.int 7), (0, Value.ref 151)]) rfl (by decide) rfl ?_
  refine i_181_38 (x := 7) rfl ?_
  refine i_181_39 ?_
  refine i_181_40 (c := 3) (by decide) ?_
  refine i_181_41 (lv2 := [(2, Value.int 3), (1, Value.int 62), (0, Value.ref 151)]) rfl ?_
  refine i_181_42 ?_
  refine i_181_31 (x := 3) rfl ?_
  refine i_181_32 (fun h => absurd h (by decide)) (fun _ => ?_)
  refine i_181_35 (x := 62) (c := 63) (lv2 := [(1, Value.int 63), (2, Value.int 3), (0, Value.ref 151)]) rfl (by decide) rfl ?_
  refine i_181_38 (x := 3) rfl ?_
  refine i_181_39 ?_
  refine i_181_40 (c := 1) (by decide) ?_
  refine i_181_41 (lv2 := [(2, Value.int 1), (1, Value.int 63), (0, Value.ref 151)]) rfl ?_
  refine i_181_42 ?_
  refine i_181_31 (x := 1) rfl ?_
  refine i_181_32 (fun h => absurd h (by decide)) (fun _ => ?_)
  refine i_181_35 (x := 63) (c := 64) (lv2 := [(1, Value.int 64), (2, Value.int 1), (0, Value.ref 151)]) rfl (by decide) rfl ?_
  refine i_181_38 (x := 1) rfl ?_
  refine i_181_39 ?_
  refine i_181_40 (c := 0) (by decide) ?_
  refine i_181_41 (lv2 := [(2, Value.int 0), (1, Value.int 64), (0, Value.ref 151)]) rfl ?_
  refine i_181_42 ?_
  refine i_181_31 (x := 0) rfl ?_
  refine i_181_32 (fun _ => ?_) (fun h => absurd h (by decide))
  refine i_181_45 (x := 64) rfl ?_
  exact i_181_46 ⟨rfl, rfl⟩
theorem s_179_1 {d : Nat} {w : xW} {h0 : Nat} {h1 : Nat} (hw0 : w[h0]? = some (Sum.inr (13, [Value.ref h1, Value.int 0]))) (e1 : 7 ≤ h0) : xRun d 179 [Value.ref h0, Value.long 0] w (.inl none) (w.set h0 (Sum.inr (13, [Value.ref h1, Value.int 0]))) := by
  refine xRun.of ?_
  refine i_179_0 (x := h0) rfl ?_
  refine i_179_1 ?_
  refine i_179_2 (fs2 := [Value.ref h1, Value.int 0]) hw0 (Nat.le_of_ble_eq_true rfl) rfl e1 ?_
  refine i_179_5 (x := 0) rfl ?_
  refine i_179_6 (lv2 := [(3, Value.long 0), (0, Value.ref h0), (1, Value.long 0)]) rfl ?_
  refine i_179_7 (x := 0) rfl ?_
  refine i_179_8 ?_
  refine i_179_9 (c := 0) (by decide) ?_
  refine i_179_10 (fun _ => ?_) (fun h => absurd h (by decide))
  exact i_179_45 ⟨rfl, rfl⟩
theorem s_182_3 {d : Nat} {w : xW} {g0 : Nat → Value} (hw0 : w[151]? = some (Sum.inr (13, [Value.ref 152, Value.int 3]))) (hw1 : w[137]? = some (Sum.inr (13, [Value.ref 138, Value.int 0]))) (hw2 : w[152]? = some (Sum.inl (0, 4700, g0))) (hw3 : w[138]? = some (Sum.inl (0, 4700, fun _ => Value.int 0))) (hg4 : g0 (0 : Int32).toInt.toNat = Value.int 1073741823) (hg5 : g0 (1 : Int32).toInt.toNat = Value.int 1073741823) (hg6 : g0 (2 : Int32).toInt.toNat = Value.int 15) : xRun (d + 1) 182 [Value.ref 137, Value.ref 151] w (.inl none) ((w.set 138 (Sum.inl (0, 4700, xcp g0 (fun _ => Value.int 0) (0 : Int32).toInt.toNat (0 : Int32).toInt.toNat (3 : Int32).toInt.toNat))).set 137 (Sum.inr (13, [Value.ref 138, Value.int 3]))) := by
  refine xRun.of ?_
  refine i_182_0 (x := 151) rfl ?_
  refine i_182_1 (v := Value.ref 152) hw0 rfl ?_
  refine i_182_4 ?_
  refine i_182_5 (x := 137) rfl ?_
  refine i_182_6 (v := Value.ref 138) hw1 rfl ?_
  refine i_182_9 ?_
  refine i_182_10 (x := 151) rfl ?_
  refine i_182_11 (v := Value.int 3) hw0 rfl ?_
  refine i_182_14 hw2 hw3 (by decide) (by decide) (by decide) (by decide) (by decide) (by decide) (xci3 hg4 hg5 hg6) (Nat.le_of_ble_eq_true rfl) ?_
  refine i_182_17 (x := 137) rfl ?_
  refine i_182_18 (x := 151) rfl ?_
  refine i_182_19 (v := Value.int 3) (xgn (by decide) hw0) rfl ?_
  refine i_182_22 (fs2 := [Value.ref 138, Value.int 3]) (xgn (by decide) hw1) (Nat.le_of_ble_eq_true rfl) rfl (by decide) ?_
  exact i_182_25 ⟨rfl, rfl⟩
theorem s_188_6 {d : Nat} {w : xW} (hw0 : w[137]? = some (Sum.inr (13, [Value.ref 138, Value.int 3]))) : xRun d 188 [Value.ref 137, Value.int 0] w (.inl none) w := by
  refine xRun.of ?_
  refine i_188_0 (x := 137) rfl ?_
  refine i_188_1 (v := Value.int 3) hw0 rfl ?_
  refine i_188_4 (fun h => absurd h (by decide)) (fun _ => ?_)
  refine i_188_7 (x := 0) rfl ?_
  refine i_188_8 (fun h => absurd h (by decide)) (fun _ => ?_)
  exact i_188_11 ⟨rfl, rfl⟩
theorem s_182_4 {d : Nat} {w : xW} {h0 : Nat} {h1 : Nat} {g0 : Nat → Value} (hw0 : w[137]? = some (Sum.inr (13, [Value.ref 138, Value.int 3]))) (hw1 : w[h0]? = some (Sum.inr (13, [Value.ref h1, Value.int 0]))) (hw2 : w[138]? = some (Sum.inl (0, 4700, g0))) (hw3 : w[h1]? = some (Sum.inl (0, 140, fun _ => Value.int 0))) (hg4 : g0 (0 : Int32).toInt.toNat = Value.int 1073741823) (hg5 : g0 (1 : Int32).toInt.toNat = Value.int 1073741823) (hg6 : g0 (2 : Int32).toInt.toNat = Value.int 15) (e7 : 7 ≤ h1) (e8 : h1 ≠ 137) (e9 : h1 ≠ h0) (e10 : 7 ≤ h0) : xRun (d + 1) 182 [Value.ref h0, Value.ref 137] w (.inl none) ((w.set h1 (Sum.inl (0, 140, xcp g0 (fun _ => Value.int 0) (0 : Int32).toInt.toNat (0 : Int32).toInt.toNat (3 : Int32).toInt.toNat))).set h0 (Sum.inr (13, [Value.ref h1, Value.int 3]))) := by
  refine xRun.of ?_
  refine i_182_0 (x := 137) rfl ?_
  refine i_182_1 (v := Value.ref 138) hw0 rfl ?_
  refine i_182_4 ?_
  refine i_182_5 (x := h0) rfl ?_
  refine i_182_6 (v := Value.ref h1) hw1 rfl ?_
  refine i_182_9 ?_
  refine i_182_10 (x := 137) rfl ?_
  refine i_182_11 (v := Value.int 3) hw0 rfl ?_
  refine i_182_14 hw2 hw3 (by decide) (by decide) (by decide) (by decide) (by decide) e7 (xci3 hg4 hg5 hg6) (Nat.le_of_ble_eq_true rfl) ?_
  refine i_182_17 (x := h0) rfl ?_
  refine i_182_18 (x := 137) rfl ?_
  refine i_182_19 (v := Value.int 3) (xgn e8 hw0) rfl ?_
  refine i_182_22 (fs2 := [Value.ref h1, Value.int 3]) (xgn e9 hw1) (Nat.le_of_ble_eq_true rfl) rfl e10 ?_
  exact i_182_25 ⟨rfl, rfl⟩
theorem s_192_0 {d : Nat} {w : xW} {a0 : Int32} {g0 : Nat → Value} {g1 : Nat → Value} {g2 : Nat → Value} {h0 : Nat} {h1 : Nat} (hw0 : w[128]? = some (Sum.inr (12, [Value.ref 129, Value.ref 131, Value.ref 133, Value.ref 135, Value.ref 137, Value.ref 139, Value.ref 141, Value.ref 143, Value.ref 145, Value.ref 147, Value.ref 149, Value.ref 151, Value.ref 153, Value.ref 154, Value.ref 155, Value.ref 156, Value.ref 157, Value.int (-16384), Value.int 16384, Value.int 2, Value.int 0, Value.int 0, Value.ref 158, Value.ref 159, Value.int 0, Value.int 0, Value.int 0, Value.int 0, Value.int 0, Value.int 0, Value.int 0, Value.int 0]))) (hw1 : w[153]? = some (Sum.inl (0, 17, g0))) (e2 : 0 ≤ a0.toInt) (e3 : a0.toInt < 17) (hg4 : g0 a0.toInt.toNat = Value.int 64) (hw5 : w[151]? = some (Sum.inr (13, [Value.ref 152, Value.int 3]))) (hw6 : w[152]? = some (Sum.inl (0, 4700, g1))) (hg7 : g1 (2 : Int32).toInt.toNat = Value.int 15) (hw8 : w[157]? = some (Sum.inl (5, 17, g2))) (hg9 : g2 a0.toInt.toNat = Value.ref h0) (hw10 : w[h0]? = some (Sum.inr (13, [Value.ref h1, Value.int 0]))) (e11 : 7 ≤ h0) (e12 : h0 ≠ 128) (e13 : h0 ≠ 137) (hw14 : w[137]? = some (Sum.inr (13, [Value.ref 138, Value.int 0]))) (e15 : h0 ≠ 151) (e16 : h0 ≠ 152) (e17 : h0 ≠ 138) (hw18 : w[138]? = some (Sum.inl (0, 4700, fun _ => Value.int 0))) (hg19 : g1 (0 : Int32).toInt.toNat = Value.int 1073741823) (hg20 : g1 (1 : Int32).toInt.toNat = Value.int 1073741823) (e21 : h0 ≠ 157) (e22 : 137 ≠ h0) (e23 : 138 ≠ h0) (e24 : 137 ≠ h1) (e25 : 138 ≠ h1) (e26 : h0 ≠ h1) (hw27 : w[h1]? = some (Sum.inl (0, 140, fun _ => Value.int 0))) (e28 : 7 ≤ h1) (e29 : h1 ≠ 137) (e30 : h1 ≠ h0) (e31 : h1 ≠ 128) (e32 : h0 ≠ 154) (e33 : h1 ≠ 154) (hw34 : w[154]? = some (Sum.inl (0, 17, fun _ => Value.int 0))) (e35 : h0 ≠ 155) (e36 : h1 ≠ 155) (hw37 : w[155]? = some (Sum.inl (0, 17, fun _ => Value.int 0))) : xRun (d + 2) 192 [Value.ref 128, Value.int a0, Value.ref 151, Value.int 16320] w (.inl none) (((((((w.set h0 (Sum.inr (13, [Value.ref h1, Value.int 0]))).set 138 (Sum.inl (0, 4700, xcp g1 (fun _ => Value.int 0) (0 : Int32).toInt.toNat (0 : Int32).toInt.toNat (3 : Int32).toInt.toNat))).set 137 (Sum.inr (13, [Value.ref 138, Value.int 3]))).set h1 (Sum.inl (0, 140, xcp (xcp g1 (fun _ => Value.int 0) (0 : Int32).toInt.toNat (0 : Int32).toInt.toNat (3 : Int32).toInt.toNat) (fun _ => Value.int 0) (0 : Int32).toInt.toNat (0 : Int32).toInt.toNat (3 : Int32).toInt.toNat))).set h0 (Sum.inr (13, [Value.ref h1, Value.int 3]))).set 154 (Sum.inl (0, 17, xup (fun _ => Value.int 0) a0.toInt.toNat (Value.int 3)))).set 155 (Sum.inl (0, 17, xup (fun _ => Value.int 0) a0.toInt.toNat (Value.int 16384)))) := by
  refine xRun.of ?_
  refine i_192_0 (x := 128) rfl ?_
  refine i_192_1 (v := Value.ref 153) hw0 rfl ?_
  refine i_192_4 (x := a0) rfl ?_
  refine i_192_5 (v := Value.int 64) hw1 e2 e3 hg4 ?_
  refine i_192_6 (lv2 := [(4, Value.int 64), (0, Value.ref 128), (1, Value.int a0), (2, Value.ref 151), (3, Value.int 16320)]) rfl ?_
  refine i_192_8 (x := 151) rfl ?_
  refine i_192_9 hw5 (Nat.le_of_ble_eq_true rfl) (s_181_0 hw5 hw6 hg7) ?_
  refine i_192_12 (lv2 := [(5, Value.int 64), (4, Value.int 64), (0, Value.ref 128), (1, Value.int a0), (2, Value.ref 151), (3, Value.int 16320)]) rfl ?_
  refine i_192_14 (x := 128) rfl ?_
  refine i_192_15 (v := Value.ref 157) hw0 rfl ?_
  refine i_192_18 (x := a0) rfl ?_
  refine i_192_19 (v := Value.ref h0) hw8 e2 e3 hg9 ?_
  refine i_192_20 ?_
  refine i_192_21 hw10 (Nat.le_of_ble_eq_true rfl) (s_179_1 hw10 e11) ?_
  refine i_192_24 (x := 64) rfl ?_
  refine i_192_26 (x := 64) rfl ?_
  refine i_192_28 (fun _ => ?_) (fun h => absurd h (by decide))
  refine i_192_67 (x := 128) rfl ?_
  refine i_192_68 (v := Value.ref 137) (xgn e12 hw0) rfl ?_
  refine i_192_71 (x := 151) rfl ?_
  refine i_192_72 (xgn e13 hw14) (Nat.le_of_ble_eq_true rfl) (s_182_3 (xgn e15 hw5) (xgn e13 hw14) (xgn e16 hw6) (xgn e17 hw18) hg19 hg20 hg7) ?_
  refine i_192_75 (x := 128) rfl ?_
  refine i_192_76 (v := Value.ref 137) (xgn (by decide) (xgn (by decide) (xgn e12 hw0))) rfl ?_
  refine i_192_79 (x := 64) rfl ?_
  refine i_192_81 (x := 64) rfl ?_
  refine i_192_83 (c := 0) (by decide) ?_
  refine i_192_84 (xgs (xgn (by decide) (xgn e13 hw14))) (Nat.le_of_ble_eq_true rfl) (s_188_6 (xgs (xgn (by decide) (xgn e13 hw14)))) ?_
  refine i_192_87 (x := 128) rfl ?_
  refine i_192_88 (v := Value.ref 157) (xgn (by decide) (xgn (by decide) (xgn e12 hw0))) rfl ?_
  refine i_192_91 (x := a0) rfl ?_
  refine i_192_92 (v := Value.ref h0) (xgn (by decide) (xgn (by decide) (xgn e21 hw8))) e2 e3 hg9 ?_
  refine i_192_93 (x := 128) rfl ?_
  refine i_192_94 (v := Value.ref 137) (xgn (by decide) (xgn (by decide) (xgn e12 hw0))) rfl ?_
  refine i_192_97 (xgn e22 (xgn e23 (xgs hw10))) (Nat.le_of_ble_eq_true rfl) (s_182_4 (xgs (xgn (by decide) (xgn e13 hw14))) (xgn e22 (xgn e23 (xgs hw10))) (xgn (by decide) (xgs (xgn e17 hw18))) (xgn e24 (xgn e25 (xgn e26 hw27))) (xcp_i rfl hg19) (xcp_i rfl hg20) (xcp_i rfl hg7) e28 e29 e30 e11) ?_
  refine i_192_100 (x := 128) rfl ?_
  refine i_192_101 (v := Value.ref 154) (xgn e12 (xgn e31 (xgn (by decide) (xgn (by decide) (xgn e12 hw0))))) rfl ?_
  refine i_192_104 (x := a0) rfl ?_
  refine i_192_105 ?_
  refine i_192_106 (v := Value.int 3) (xgn e32 (xgn e33 (xgn (by decide) (xgn (by decide) (xgn e32 hw34))))) e2 e3 (by decide) rfl ?_
  refine i_192_107 (x := 128) rfl ?_
  refine i_192_108 (v := Value.ref 155) (xgn (by decide) (xgn e12 (xgn e31 (xgn (by decide) (xgn (by decide) (xgn e12 hw0)))))) rfl ?_
  refine i_192_111 (x := a0) rfl ?_
  refine i_192_112 (x := 64) rfl ?_
  refine i_192_114 (x := 16320) rfl ?_
  refine i_192_115 (c := 16384) (by decide) ?_
  refine i_192_116 (v := Value.int 16384) (xgn (by decide) (xgn e35 (xgn e36 (xgn (by decide) (xgn (by decide) (xgn e35 hw37)))))) e2 e3 (by decide) rfl ?_
  exact i_192_117 ⟨rfl, rfl⟩
theorem sf0_3 {d : Nat} {xs : Nat → Int32} {m : Int64} {sc md : Int32} {w : xW} {B E U C q0 q1 q2 nn : Int32} {g : Nat → Value} (hk : ∀ h, 131 ≤ h → h < 194 → h ≠ 135 → h ≠ 136 → h ≠ 156 → w[h]? = (W0 6 xs)[h]?) (hm : w[128]? = some (Sum.inr (12, [Value.ref 129, Value.ref 131, Value.ref 133, Value.ref 135, Value.ref 137, Value.ref 139, Value.ref 141, Value.ref 143, Value.ref 145, Value.ref 147, Value.ref 149, Value.ref 151, Value.ref 153, Value.ref 154, Value.ref 155, Value.ref 156, Value.ref 157, Value.int (-16384), Value.int 16384, Value.int 0, Value.int 0, Value.int 0, Value.ref 158, Value.ref 159, Value.int 0, Value.int 0, Value.int 0, Value.int 0, Value.int 0, Value.int 0, Value.int 0, Value.int 0]))) (hv : w[129]? = some (Sum.inr (13, [Value.ref 130, Value.int nn]))) (hq : w[135]? = some (Sum.inr (13, [Value.ref 136, Value.int 3]))) (hqw : w[136]? = some (Sum.inl (0, 4700, g))) (hg0 : g (0 : Int32).toInt.toNat = Value.int q0) (hg1 : g (1 : Int32).toInt.toNat = Value.int q1) (hg2 : g (2 : Int32).toInt.toNat = Value.int q2) (hn : w[156]? = some (Sum.inl (2, 17, xup (fun _ => Value.int 0) (xs 1).toInt.toNat (Value.int 0)))) (hbits : ∀ (d' : Nat) (w' : xW), w'[129]? = w[129]? → w'[130]? = w[130]? → xRun d' 181 [Value.ref 129] w' (.inl (some (Value.int B))) w') (hany0 : xPW m → ∀ (d' : Nat) (w' : xW), w'[129]? = w[129]? → w'[130]? = w[130]? → xRun d' 183 [Value.ref 129, Value.int (B - (1 : Int32))] w' (.inl (some (Value.int 0))) w') (hany1 : ¬ xPW m → ∀ (d' : Nat) (w' : xW), w'[129]? = w[129]? → w'[130]? = w[130]? → xRun d' 183 [Value.ref 129, Value.int (B - (1 : Int32))] w' (.inl (some (Value.int 1))) w') (c0 : 0 ≤ (xs 1).toInt) (c1 : (xs 1).toInt < 16) (c2 : (-40000) ≤ sc.toInt) (c3 : sc.toInt ≤ 40000) (c4 : 0 ≤ md.toInt) (c5 : md.toInt ≤ 4) (c6 : 1 ≤ B.toInt) (c7 : B.toInt ≤ 64) (c8 : E.toInt = B.toInt + sc.toInt) (c9 : U.toInt = E.toInt - 64) (c10 : 0 ≤ q2.toInt) (c11 : (xbn q2).toInt = 4) (c12 : 16384 < E.toInt) (c13 : md.toInt ≠ 0) (c14 : md.toInt ≠ 4) (c15 : md.toInt ≠ 2) (c16 : md.toInt = 3) : ∃ w2, xEv (d + 6) 180 207 [(14, Value.int 0), (13, Value.int E), (12, Value.int 1), (11, Value.int 0), (10, Value.int C), (9, Value.int U), (8, Value.int E), (7, Value.int 64), (0, Value.ref 128), (1, Value.int (xs 1)), (2, Value.ref 129), (3, Value.int sc), (4, Value.int 0), (5, Value.int 0), (6, Value.int md)] [] w (fun o' w' => o' = .inl (some (Value.int (-1))) ∧ w' = w2) ∧ xKp w w2 xPM ∧ w2[128]? = some (Sum.inr (12, [Value.ref 129, Value.ref 131, Value.ref 133, Value.ref 135, Value.ref 137, Value.ref 139, Value.ref 141, Value.ref 143, Value.ref 145, Value.ref 147, Value.ref 149, Value.ref 151, Value.ref 153, Value.ref 154, Value.ref 155, Value.ref 156, Value.ref 157, Value.int (-16384), Value.int 16384, Value.int 3, Value.int 0, Value.int 0, Value.ref 158, Value.ref 159, Value.int 0, Value.int 0, Value.int 0, Value.int 0, Value.int 0, Value.int 0, Value.int 0, Value.int 0])) := by
  refine ⟨(((((((((((((((((w.set 128 (Sum.inr (12, [Value.ref 129, Value.ref 131, Value.ref 133, Value.ref 135, Value.ref 137, Value.ref 139, Value.ref 141, Value.ref 143, Value.ref 145, Value.ref 147, Value.ref 149, Value.ref 151, Value.ref 153, Value.ref 154, Value.ref 155, Value.ref 156, Value.ref 157, Value.int (-16384), Value.int 16384, Value.int 2, Value.int 0, Value.int 0, Value.ref 158, Value.ref 159, Value.int 0, Value.int 0, Value.int 0, Value.int 0, Value.int 0, Value.int 0, Value.int 0, Value.int 0]))).set 152 (Sum.inl (0, 4700, xup (xup (xup (fun _ => Value.int 0) (0 : Int32).toInt.toNat (Value.int 0)) (1 : Int32).toInt.toNat (Value.int 0)) (2 : Int32).toInt.toNat (Value.int 16)))).set 151 (Sum.inr (13, [Value.ref 152, Value.int 3]))).set 143 (Sum.inr (13, [Value.ref 144, Value.int 0]))).set 144 (Sum.inl (0, 4700, xup (fun _ => Value.int 0) (0 : Int32).toInt.toNat (Value.int 1)))).set 143 (Sum.inr (13, [Value.ref 144, Value.int 1]))).set 152 (Sum.inl (0, 4700, xup (xup (xup (xup (xup (xup (fun _ => Value.int 0) (0 : Int32).toInt.toNat (Value.int 0)) (1 : Int32).toInt.toNat (Value.int 0)) (2 : Int32).toInt.toNat (Value.int 16)) (0 : Int32).toInt.toNat (Value.int 1073741823)) (1 : Int32).toInt.toNat (Value.int 1073741823)) (2 : Int32).toInt.toNat (Value.int 15)))).set 151 (Sum.inr (13, [Value.ref 152, Value.int 3]))).set (160 + 2 * (xs 1).toInt.toNat) (Sum.inr (13, [Value.ref (161 + 2 * (xs 1).toInt.toNat), Value.int 0]))).set 138 (Sum.inl (0, 4700, xcp (xup (xup (xup (xup (xup (xup (fun _ => Value.int 0) (0 : Int32).toInt.toNat (Value.int 0)) (1 : Int32).toInt.toNat (Value.int 0)) (2 : Int32).toInt.toNat (Value.int 16)) (0 : Int32).toInt.toNat (Value.int 1073741823)) (1 : Int32).toInt.toNat (Value.int 1073741823)) (2 : Int32).toInt.toNat (Value.int 15)) (fun _ => Value.int 0) (0 : Int32).toInt.toNat (0 : Int32).toInt.toNat (3 : Int32).toInt.toNat))).set 137 (Sum.inr (13, [Value.ref 138, Value.int 3]))).set (161 + 2 * (xs 1).toInt.toNat) (Sum.inl (0, 140, xcp (xcp (xup (xup (xup (xup (xup (xup (fun _ => Value.int 0) (0 : Int32).toInt.toNat (Value.int 0)) (1 : Int32).toInt.toNat (Value.int 0)) (2 : Int32).toInt.toNat (Value.int 16)) (0 : Int32).toInt.toNat (Value.int 1073741823)) (1 : Int32).toInt.toNat (Value.int 1073741823)) (2 : Int32).toInt.toNat (Value.int 15)) (fun _ => Value.int 0) (0 : Int32).toInt.toNat (0 : Int32).toInt.toNat (3 : Int32).toInt.toNat) (fun _ => Value.int 0) (0 : Int32).toInt.toNat (0 : Int32).toInt.toNat (3 : Int32).toInt.toNat))).set (160 + 2 * (xs 1).toInt.toNat) (Sum.inr (13, [Value.ref (161 + 2 * (xs 1).toInt.toNat), Value.int 3]))).set 154 (Sum.inl (0, 17, xup (fun _ => Value.int 0) (xs 1).toInt.toNat (Value.int 3)))).set 155 (Sum.inl (0, 17, xup (fun _ => Value.int 0) (xs 1).toInt.toNat (Value.int 16384)))).set 156 (Sum.inl (2, 17, xup (xup (fun _ => Value.int 0) (xs 1).toInt.toNat (Value.int 0)) (xs 1).toInt.toNat (Value.int 0)))).set 128 (Sum.inr (12, [Value.ref 129, Value.ref 131, Value.ref 133, Value.ref 135, Value.ref 137, Value.ref 139, Value.ref 141, Value.ref 143, Value.ref 145, Value.ref 147, Value.ref 149, Value.ref 151, Value.ref 153, Value.ref 154, Value.ref 155, Value.ref 156, Value.ref 157, Value.int (-16384), Value.int 16384, Value.int 3, Value.int 0, Value.int 0, Value.ref 158, Value.ref 159, Value.int 0, Value.int 0, Value.int 0, Value.int 0, Value.int 0, Value.int 0, Value.int 0, Value.int 0]))), ?_, ?_, xgs (xgn (by decide) (xgn (by decide) (xgn (by decide) (xgn (by omega) (xgn (by omega) (xgn (by decide) (xgn (by decide) (xgn (by omega) (xgn (by decide) (xgn (by decide) (xgn (by decide) (xgn (by decide) (xgn (by decide) (xgn (by decide) (xgn (by decide) (xgs hm))))))))))))))))⟩
  · refine i_180_207 (x := 128) rfl ?_
    refine i_180_208 (v := Value.int 0) hm rfl ?_
    refine i_180_211 (fun h => absurd h (by decide)) (fun _ => ?_)
    refine i_180_214 (x := 128) rfl ?_
    refine i_180_215 (v := Value.ref 135) hm rfl ?_
    refine i_180_218 (v := Value.int 3) hq rfl ?_
    refine i_180_221 (fun h => absurd h (by decide)) (fun _ => ?_)
    refine i_180_224 (x := E) rfl ?_
    refine i_180_226 (x := 128) rfl ?_
    refine i_180_227 (v := Value.int 16384) hm rfl ?_
    refine i_180_230 (fun h => absurd (show 16384 < E.toInt by omega) (Int.not_lt.mpr h)) (fun _ => ?_)
    refine i_180_233 (x := 128) rfl ?_
    refine i_180_234 rfl ?_
    refine i_180_235 (v := Value.int 0) hm rfl ?_
    refine i_180_238 ?_
    refine i_180_239 (c := 2) (by decide) ?_
    refine i_180_240 (fs2 := [Value.ref 129, Value.ref 131, Value.ref 133, Value.ref 135, Value.ref 137, Value.ref 139, Value.ref 141, Value.ref 143, Value.ref 145, Value.ref 147, Value.ref 149, Value.ref 151, Value.ref 153, Value.ref 154, Value.ref 155, Value.ref 156, Value.ref 157, Value.int (-16384), Value.int 16384, Value.int 2, Value.int 0, Value.int 0, Value.ref 158, Value.ref 159, Value.int 0, Value.int 0, Value.int 0, Value.int 0, Value.int 0, Value.int 0, Value.int 0, Value.int 0]) hm (Nat.le_of_ble_eq_true rfl) rfl (by omega) ?_
    refine i_180_243 (x := md) rfl ?_
    refine i_180_245 (fun h => absurd (show md.toInt ≠ 0 by omega) (fun g => g h)) (fun _ => ?_)
    refine i_180_248 (x := md) rfl ?_
    refine i_180_250 ?_
    refine i_180_251 (fun h => absurd (show md.toInt ≠ 4 by omega) (fun g => g h)) (fun _ => ?_)
    refine i_180_254 (x := md) rfl ?_
    refine i_180_256 ?_
    refine i_180_257 (fun _ => ?_) (fun h => absurd (show md.toInt ≠ 2 by omega) (fun g => g h))
    refine i_180_265 (x := md) rfl ?_
    refine i_180_267 ?_
    refine i_180_268 (fun h => absurd (show md.toInt = 3 by omega) h) (fun _ => ?_)
    refine i_180_271 (x := 0) rfl ?_
    refine i_180_273 (fun _ => ?_) (fun h => absurd h (by decide))
    refine i_180_280 ?_
    refine i_180_281 (lv2 := [(15, Value.int 0), (14, Value.int 0), (13, Value.int E), (12, Value.int 1), (11, Value.int 0), (10, Value.int C), (9, Value.int U), (8, Value.int E), (7, Value.int 64), (0, Value.ref 128), (1, Value.int (xs 1)), (2, Value.ref 129), (3, Value.int sc), (4, Value.int 0), (5, Value.int 0), (6, Value.int md)]) rfl ?_
    refine i_180_283 (x := 0) rfl ?_
    refine i_180_285 (fun _ => ?_) (fun h => absurd h (by decide))
    refine i_180_300 (x := 128) rfl ?_
    refine i_180_301 (v := Value.ref 151) (xgs hm) rfl ?_
    refine i_180_304 (x := 64) rfl ?_
    refine i_180_306 (xgn (by decide) (((hk 151 (by decide) (by decide) (by decide) (by decide) (by decide)).trans W0_151))) (Nat.le_of_ble_eq_true rfl) (s_190_0 (xgn (by decide) (((hk 151 (by decide) (by decide) (by decide) (by decide) (by decide)).trans W0_151))) (xgn (by decide) (((hk 152 (by decide) (by decide) (by decide) (by decide) (by decide)).trans W0_152)))) ?_
    refine i_180_309 (x := 128) rfl ?_
    refine i_180_310 (v := Value.ref 143) (xgn (by decide) (xgn (by decide) (xgs hm))) rfl ?_
    refine i_180_313 ?_
    refine i_180_314 (xgn (by decide) (xgn (by decide) (xgn (by decide) (((hk 143 (by decide) (by decide) (by decide) (by decide) (by decide)).trans W0_143))))) (Nat.le_of_ble_eq_true rfl) (s_179_0 (xgn (by decide) (xgn (by decide) (xgn (by decide) (((hk 143 (by decide) (by decide) (by decide) (by decide) (by decide)).trans W0_143))))) (xgn (by decide) (xgn (by decide) (xgn (by decide) (((hk 144 (by decide) (by decide) (by decide) (by decide) (by decide)).trans W0_144)))))) ?_
    refine i_180_317 (x := 128) rfl ?_
    refine i_180_318 (v := Value.ref 151) (xgn (by decide) (xgn (by decide) (xgn (by decide) (xgn (by decide) (xgn (by decide) (xgs hm)))))) rfl ?_
    refine i_180_321 (x := 128) rfl ?_
    refine i_180_322 (v := Value.ref 143) (xgn (by decide) (xgn (by decide) (xgn (by decide) (xgn (by decide) (xgn (by decide) (xgs hm)))))) rfl ?_
    refine i_180_325 (xgn (by decide) (xgn (by decide) (xgn (by decide) (xgs (xgn (by decide) (xgn (by decide) (((hk 151 (by decide) (by decide) (by decide) (by decide) (by decide)).trans W0_151)))))))) (Nat.le_of_ble_eq_true rfl) (s_191_0 (xgn (by decide) (xgn (by decide) (xgn (by decide) (xgs (xgn (by decide) (xgn (by decide) (((hk 151 (by decide) (by decide) (by decide) (by decide) (by decide)).trans W0_151)))))))) (xgn (by decide) (xgn (by decide) (xgn (by decide) (xgn (by decide) (xgs (xgn (by decide) (((hk 152 (by decide) (by decide) (by decide) (by decide) (by decide)).trans W0_152)))))))) (xup_n (by decide) (xup_n (by decide) xup_s)) (xgs (xgn (by decide) (xgs (xgn (by decide) (xgn (by decide) (xgn (by decide) (((hk 143 (by decide) (by decide) (by decide) (by decide) (by decide)).trans W0_143)))))))) (xgn (by decide) (xgs (xgn (by decide) (xgn (by decide) (xgn (by decide) (xgn (by decide) (((hk 144 (by decide) (by decide) (by decide) (by decide) (by decide)).trans W0_144)))))))) xup_s (xup_n (by decide) xup_s) xup_s) ?_
    refine i_180_328 (x := 128) rfl ?_
    refine i_180_329 (x := (xs 1)) rfl ?_
    refine i_180_330 (x := 128) rfl ?_
    refine i_180_331 (v := Value.ref 151) (xgn (by decide) (xgn (by decide) (xgn (by decide) (xgn (by decide) (xgn (by decide) (xgn (by decide) (xgn (by decide) (xgs hm)))))))) rfl ?_
    refine i_180_334 (x := 128) rfl ?_
    refine i_180_335 (v := Value.int 16384) (xgn (by decide) (xgn (by decide) (xgn (by decide) (xgn (by decide) (xgn (by decide) (xgn (by decide) (xgn (by decide) (xgs hm)))))))) rfl ?_
    refine i_180_338 (x := 64) rfl ?_
    refine i_180_340 (c := 16320) (by decide) ?_
    refine i_180_341 (xgn (by decide) (xgn (by decide) (xgn (by decide) (xgn (by decide) (xgn (by decide) (xgn (by decide) (xgn (by decide) (xgs hm)))))))) (Nat.le_of_ble_eq_true rfl) (s_192_0 (xgn (by decide) (xgn (by decide) (xgn (by decide) (xgn (by decide) (xgn (by decide) (xgn (by decide) (xgn (by decide) (xgs hm)))))))) (xgn (by decide) (xgn (by decide) (xgn (by decide) (xgn (by decide) (xgn (by decide) (xgn (by decide) (xgn (by decide) (xgn (by decide) (((hk 153 (by decide) (by decide) (by decide) (by decide) (by decide)).trans W0_153)))))))))) (by omega) (by omega) (gprec_at (by omega)) (xgs (xgn (by decide) (xgn (by decide) (xgn (by decide) (xgn (by decide) (xgs (xgn (by decide) (xgn (by decide) (((hk 151 (by decide) (by decide) (by decide) (by decide) (by decide)).trans W0_151)))))))))) (xgn (by decide) (xgs (xgn (by decide) (xgn (by decide) (xgn (by decide) (xgn (by decide) (xgs (xgn (by decide) (((hk 152 (by decide) (by decide) (by decide) (by decide) (by decide)).trans W0_152)))))))))) xup_s (xgn (by decide) (xgn (by decide) (xgn (by decide) (xgn (by decide) (xgn (by decide) (xgn (by decide) (xgn (by decide) (xgn (by decide) (((hk 157 (by decide) (by decide) (by decide) (by decide) (by decide)).trans W0_157)))))))))) (gpart_at (by omega)) (xgn (by omega) (xgn (by omega) (xgn (by omega) (xgn (by omega) (xgn (by omega) (xgn (by omega) (xgn (by omega) (xgn (by omega) (((hk _ (by omega) (by omega) (by omega) (by omega) (by omega)).trans (W0_part (by omega)))))))))))) (by omega) (by omega) (by omega) (xgn (by decide) (xgn (by decide) (xgn (by decide) (xgn (by decide) (xgn (by decide) (xgn (by decide) (xgn (by decide) (xgn (by decide) (((hk 137 (by decide) (by decide) (by decide) (by decide) (by decide)).trans W0_137)))))))))) (by omega) (by omega) (by omega) (xgn (by decide) (xgn (by decide) (xgn (by decide) (xgn (by decide) (xgn (by decide) (xgn (by decide) (xgn (by decide) (xgn (by decide) (((hk 138 (by decide) (by decide) (by decide) (by decide) (by decide)).trans W0_138)))))))))) (xup_n (by decide) (xup_n (by decide) xup_s)) (xup_n (by decide) xup_s) (by omega) (by omega) (by omega) (by omega) (by omega) (by omega) (xgn (by omega) (xgn (by omega) (xgn (by omega) (xgn (by omega) (xgn (by omega) (xgn (by omega) (xgn (by omega) (xgn (by omega) (((hk _ (by omega) (by omega) (by omega) (by omega) (by omega)).trans (W0_pw (by omega)))))))))))) (by omega) (by omega) (by omega) (by omega) (by omega) (by omega) (xgn (by decide) (xgn (by decide) (xgn (by decide) (xgn (by decide) (xgn (by decide) (xgn (by decide) (xgn (by decide) (xgn (by decide) (((hk 154 (by decide) (by decide) (by decide) (by decide) (by decide)).trans W0_154)))))))))) (by omega) (by omega) (xgn (by decide) (xgn (by decide) (xgn (by decide) (xgn (by decide) (xgn (by decide) (xgn (by decide) (xgn (by decide) (xgn (by decide) (((hk 155 (by decide) (by decide) (by decide) (by decide) (by decide)).trans W0_155))))))))))) ?_
    refine i_180_344 (x := 128) rfl ?_
    refine i_180_345 (v := Value.ref 156) (xgn (by decide) (xgn (by decide) (xgn (by omega) (xgn (by omega) (xgn (by decide) (xgn (by decide) (xgn (by omega) (xgn (by decide) (xgn (by decide) (xgn (by decide) (xgn (by decide) (xgn (by decide) (xgn (by decide) (xgn (by decide) (xgs hm))))))))))))))) rfl ?_
    refine i_180_348 (x := (xs 1)) rfl ?_
    refine i_180_349 (x := 0) rfl ?_
    refine i_180_351z (v := Value.int 0) (xgn (by decide) (xgn (by decide) (xgn (by omega) (xgn (by omega) (xgn (by decide) (xgn (by decide) (xgn (by omega) (xgn (by decide) (xgn (by decide) (xgn (by decide) (xgn (by decide) (xgn (by decide) (xgn (by decide) (xgn (by decide) (xgn (by decide) hn))))))))))))))) (by omega) (by omega) (by omega) rfl ?_
    refine i_180_352 (x := 0) rfl ?_
    refine i_180_354 (fun _ => ?_) (fun h => absurd h (by decide))
    refine i_180_361 ?_
    refine i_180_362 (lv2 := [(14, Value.int (-1)), (15, Value.int 0), (13, Value.int E), (12, Value.int 1), (11, Value.int 0), (10, Value.int C), (9, Value.int U), (8, Value.int E), (7, Value.int 64), (0, Value.ref 128), (1, Value.int (xs 1)), (2, Value.ref 129), (3, Value.int sc), (4, Value.int 0), (5, Value.int 0), (6, Value.int md)]) rfl ?_
    refine i_180_364 ?_
    refine i_180_591 (x := 128) rfl ?_
    refine i_180_592 (v := Value.int 0) (xgn (by decide) (xgn (by decide) (xgn (by decide) (xgn (by omega) (xgn (by omega) (xgn (by decide) (xgn (by decide) (xgn (by omega) (xgn (by decide) (xgn (by decide) (xgn (by decide) (xgn (by decide) (xgn (by decide) (xgn (by decide) (xgn (by decide) (xgs hm)))))))))))))))) rfl ?_
    refine i_180_595 (fun h => absurd h (by decide)) (fun _ => ?_)
    refine i_180_598 (x := 128) rfl ?_
    refine i_180_599 (v := Value.int 0) (xgn (by decide) (xgn (by decide) (xgn (by decide) (xgn (by omega) (xgn (by omega) (xgn (by decide) (xgn (by decide) (xgn (by omega) (xgn (by decide) (xgn (by decide) (xgn (by decide) (xgn (by decide) (xgn (by decide) (xgn (by decide) (xgn (by decide) (xgs hm)))))))))))))))) rfl ?_
    refine i_180_602 (fun _ => ?_) (fun h => absurd h (by decide))
    refine i_180_629 (x := (-1)) rfl ?_
    refine i_180_631 (fun h => absurd h (by decide)) (fun _ => ?_)
    refine i_180_634 (x := 128) rfl ?_
    refine i_180_635 rfl ?_
    refine i_180_636 (v := Value.int 2) (xgn (by decide) (xgn (by decide) (xgn (by decide) (xgn (by omega) (xgn (by omega) (xgn (by decide) (xgn (by decide) (xgn (by omega) (xgn (by decide) (xgn (by decide) (xgn (by decide) (xgn (by decide) (xgn (by decide) (xgn (by decide) (xgn (by decide) (xgs hm)))))))))))))))) rfl ?_
    refine i_180_639 ?_
    refine i_180_640 (c := 3) (by decide) ?_
    refine i_180_641 (fs2 := [Value.ref 129, Value.ref 131, Value.ref 133, Value.ref 135, Value.ref 137, Value.ref 139, Value.ref 141, Value.ref 143, Value.ref 145, Value.ref 147, Value.ref 149, Value.ref 151, Value.ref 153, Value.ref 154, Value.ref 155, Value.ref 156, Value.ref 157, Value.int (-16384), Value.int 16384, Value.int 3, Value.int 0, Value.int 0, Value.ref 158, Value.ref 159, Value.int 0, Value.int 0, Value.int 0, Value.int 0, Value.int 0, Value.int 0, Value.int 0, Value.int 0]) (xgn (by decide) (xgn (by decide) (xgn (by decide) (xgn (by omega) (xgn (by omega) (xgn (by decide) (xgn (by decide) (xgn (by omega) (xgn (by decide) (xgn (by decide) (xgn (by decide) (xgn (by decide) (xgn (by decide) (xgn (by decide) (xgn (by decide) (xgs hm)))))))))))))))) (Nat.le_of_ble_eq_true rfl) rfl (by omega) ?_
    refine i_180_644 (x := 0) rfl ?_
    refine i_180_646 (fun _ => ?_) (fun h => absurd h (by decide))
    refine i_180_655 (x := (-1)) rfl ?_
    exact i_180_657 ⟨rfl, rfl⟩
  · refine xKp.set ?_ (fun h hh => by unfold xPM at hh; omega) (xgn (by decide) (xgn (by decide) (xgn (by decide) (xgn (by omega) (xgn (by omega) (xgn (by decide) (xgn (by decide) (xgn (by omega) (xgn (by decide) (xgn (by decide) (xgn (by decide) (xgn (by decide) (xgn (by decide) (xgn (by decide) (xgn (by decide) (xgs hm)))))))))))))))) xcs_o
    refine xKp.set ?_ (fun h hh => by unfold xPM at hh; omega) (xgn (by decide) (xgn (by decide) (xgn (by omega) (xgn (by omega) (xgn (by decide) (xgn (by decide) (xgn (by omega) (xgn (by decide) (xgn (by decide) (xgn (by decide) (xgn (by decide) (xgn (by decide) (xgn (by decide) (xgn (by decide) (xgn (by decide) hn))))))))))))))) xcs_a
    refine xKp.set ?_ (fun h hh => by unfold xPM at hh; omega) (xgn (by decide) (xgn (by omega) (xgn (by omega) (xgn (by decide) (xgn (by decide) (xgn (by omega) (xgn (by decide) (xgn (by decide) (xgn (by decide) (xgn (by decide) (xgn (by decide) (xgn (by decide) (xgn (by decide) (xgn (by decide) (((hk 155 (by decide) (by decide) (by decide) (by decide) (by decide)).trans W0_155)))))))))))))))) xcs_a
    refine xKp.set ?_ (fun h hh => by unfold xPM at hh; omega) (xgn (by omega) (xgn (by omega) (xgn (by decide) (xgn (by decide) (xgn (by omega) (xgn (by decide) (xgn (by decide) (xgn (by decide) (xgn (by decide) (xgn (by decide) (xgn (by decide) (xgn (by decide) (xgn (by decide) (((hk 154 (by decide) (by decide) (by decide) (by decide) (by decide)).trans W0_154))))))))))))))) xcs_a
    refine xKp.set ?_ (fun h hh => by unfold xPM at hh; omega) (xgn (by omega) (xgn (by omega) (xgn (by omega) (xgs (xgn (by omega) (xgn (by omega) (xgn (by omega) (xgn (by omega) (xgn (by omega) (xgn (by omega) (xgn (by omega) (xgn (by omega) (((hk _ (by omega) (by omega) (by omega) (by omega) (by omega)).trans (W0_part (by omega)))))))))))))))) xcs_o
    refine xKp.set ?_ (fun h hh => by unfold xPM at hh; omega) (xgn (by omega) (xgn (by omega) (xgn (by omega) (xgn (by omega) (xgn (by omega) (xgn (by omega) (xgn (by omega) (xgn (by omega) (xgn (by omega) (xgn (by omega) (xgn (by omega) (((hk _ (by omega) (by omega) (by omega) (by omega) (by omega)).trans (W0_pw (by omega))))))))))))))) xcs_a
    refine xKp.set ?_ (fun h hh => by unfold xPM at hh; omega) (xgn (by decide) (xgn (by omega) (xgn (by decide) (xgn (by decide) (xgn (by decide) (xgn (by decide) (xgn (by decide) (xgn (by decide) (xgn (by decide) (xgn (by decide) (((hk 137 (by decide) (by decide) (by decide) (by decide) (by decide)).trans W0_137)))))))))))) xcs_o
    refine xKp.set ?_ (fun h hh => by unfold xPM at hh; omega) (xgn (by omega) (xgn (by decide) (xgn (by decide) (xgn (by decide) (xgn (by decide) (xgn (by decide) (xgn (by decide) (xgn (by decide) (xgn (by decide) (((hk 138 (by decide) (by decide) (by decide) (by decide) (by decide)).trans W0_138))))))))))) xcs_a
    refine xKp.set ?_ (fun h hh => by unfold xPM at hh; omega) (xgn (by omega) (xgn (by omega) (xgn (by omega) (xgn (by omega) (xgn (by omega) (xgn (by omega) (xgn (by omega) (xgn (by omega) (((hk _ (by omega) (by omega) (by omega) (by omega) (by omega)).trans (W0_part (by omega)))))))))))) xcs_o
    refine xKp.set ?_ (fun h hh => by unfold xPM at hh; omega) (xgn (by decide) (xgn (by decide) (xgn (by decide) (xgn (by decide) (xgs (xgn (by decide) (xgn (by decide) (((hk 151 (by decide) (by decide) (by decide) (by decide) (by decide)).trans W0_151))))))))) xcs_o
    refine xKp.set ?_ (fun h hh => by unfold xPM at hh; omega) (xgn (by decide) (xgn (by decide) (xgn (by decide) (xgn (by decide) (xgs (xgn (by decide) (((hk 152 (by decide) (by decide) (by decide) (by decide) (by decide)).trans W0_152)))))))) xcs_a
    refine xKp.set ?_ (fun h hh => by unfold xPM at hh; omega) (xgn (by decide) (xgs (xgn (by decide) (xgn (by decide) (xgn (by decide) (((hk 143 (by decide) (by decide) (by decide) (by decide) (by decide)).trans W0_143))))))) xcs_o
    refine xKp.set ?_ (fun h hh => by unfold xPM at hh; omega) (xgn (by decide) (xgn (by decide) (xgn (by decide) (xgn (by decide) (((hk 144 (by decide) (by decide) (by decide) (by decide) (by decide)).trans W0_144)))))) xcs_a
    refine xKp.set ?_ (fun h hh => by unfold xPM at hh; omega) (xgn (by decide) (xgn (by decide) (xgn (by decide) (((hk 143 (by decide) (by decide) (by decide) (by decide) (by decide)).trans W0_143))))) xcs_o
    refine xKp.set ?_ (fun h hh => by unfold xPM at hh; omega) (xgn (by decide) (xgn (by decide) (((hk 151 (by decide) (by decide) (by decide) (by decide) (by decide)).trans W0_151)))) xcs_o
    refine xKp.set ?_ (fun h hh => by unfold xPM at hh; omega) (xgn (by decide) (((hk 152 (by decide) (by decide) (by decide) (by decide) (by decide)).trans W0_152))) xcs_a
    refine xKp.set ?_ (fun h hh => by unfold xPM at hh; omega) (hm) xcs_o
    exact xKp.refl
theorem sf0_4 {d : Nat} {xs : Nat → Int32} {m : Int64} {sc md : Int32} {w : xW} {B E U C q0 q1 q2 nn : Int32} {g : Nat → Value} (hk : ∀ h, 131 ≤ h → h < 194 → h ≠ 135 → h ≠ 136 → h ≠ 156 → w[h]? = (W0 6 xs)[h]?) (hm : w[128]? = some (Sum.inr (12, [Value.ref 129, Value.ref 131, Value.ref 133, Value.ref 135, Value.ref 137, Value.ref 139, Value.ref 141, Value.ref 143, Value.ref 145, Value.ref 147, Value.ref 149, Value.ref 151, Value.ref 153, Value.ref 154, Value.ref 155, Value.ref 156, Value.ref 157, Value.int (-16384), Value.int 16384, Value.int 0, Value.int 0, Value.int 0, Value.ref 158, Value.ref 159, Value.int 0, Value.int 0, Value.int 0, Value.int 0, Value.int 0, Value.int 0, Value.int 0, Value.int 0]))) (hv : w[129]? = some (Sum.inr (13, [Value.ref 130, Value.int nn]))) (hq : w[135]? = some (Sum.inr (13, [Value.ref 136, Value.int 3]))) (hqw : w[136]? = some (Sum.inl (0, 4700, g))) (hg0 : g (0 : Int32).toInt.toNat = Value.int q0) (hg1 : g (1 : Int32).toInt.toNat = Value.int q1) (hg2 : g (2 : Int32).toInt.toNat = Value.int q2) (hn : w[156]? = some (Sum.inl (2, 17, xup (fun _ => Value.int 0) (xs 1).toInt.toNat (Value.int 0)))) (hbits : ∀ (d' : Nat) (w' : xW), w'[129]? = w[129]? → w'[130]? = w[130]? → xRun d' 181 [Value.ref 129] w' (.inl (some (Value.int B))) w') (hany0 : xPW m → ∀ (d' : Nat) (w' : xW), w'[129]? = w[129]? → w'[130]? = w[130]? → xRun d' 183 [Value.ref 129, Value.int (B - (1 : Int32))] w' (.inl (some (Value.int 0))) w') (hany1 : ¬ xPW m → ∀ (d' : Nat) (w' : xW), w'[129]? = w[129]? → w'[130]? = w[130]? → xRun d' 183 [Value.ref 129, Value.int (B - (1 : Int32))] w' (.inl (some (Value.int 1))) w') (c0 : 0 ≤ (xs 1).toInt) (c1 : (xs 1).toInt < 16) (c2 : (-40000) ≤ sc.toInt) (c3 : sc.toInt ≤ 40000) (c4 : 0 ≤ md.toInt) (c5 : md.toInt ≤ 4) (c6 : 1 ≤ B.toInt) (c7 : B.toInt ≤ 64) (c8 : E.toInt = B.toInt + sc.toInt) (c9 : U.toInt = E.toInt - 64) (c10 : 0 ≤ q2.toInt) (c11 : (xbn q2).toInt = 4) (c12 : 16384 < E.toInt) (c13 : md.toInt ≠ 0) (c14 : md.toInt ≠ 4) (c15 : md.toInt ≠ 2) (c16 : md.toInt ≠ 3) : ∃ w2, xEv (d + 6) 180 207 [(14, Value.int 0), (13, Value.int E), (12, Value.int 1), (11, Value.int 0), (10, Value.int C), (9, Value.int U), (8, Value.int E), (7, Value.int 64), (0, Value.ref 128), (1, Value.int (xs 1)), (2, Value.ref 129), (3, Value.int sc), (4, Value.int 0), (5, Value.int 0), (6, Value.int md)] [] w (fun o' w' => o' = .inl (some (Value.int (-1))) ∧ w' = w2) ∧ xKp w w2 xPM ∧ w2[128]? = some (Sum.inr (12, [Value.ref 129, Value.ref 131, Value.ref 133, Value.ref 135, Value.ref 137, Value.ref 139, Value.ref 141, Value.ref 143, Value.ref 145, Value.ref 147, Value.ref 149, Value.ref 151, Value.ref 153, Value.ref 154, Value.ref 155, Value.ref 156, Value.ref 157, Value.int (-16384), Value.int 16384, Value.int 3, Value.int 0, Value.int 0, Value.ref 158, Value.ref 159, Value.int 0, Value.int 0, Value.int 0, Value.int 0, Value.int 0, Value.int 0, Value.int 0, Value.int 0])) := by
  refine ⟨(((((((((((((((((w.set 128 (Sum.inr (12, [Value.ref 129, Value.ref 131, Value.ref 133, Value.ref 135, Value.ref 137, Value.ref 139, Value.ref 141, Value.ref 143, Value.ref 145, Value.ref 147, Value.ref 149, Value.ref 151, Value.ref 153, Value.ref 154, Value.ref 155, Value.ref 156, Value.ref 157, Value.int (-16384), Value.int 16384, Value.int 2, Value.int 0, Value.int 0, Value.ref 158, Value.ref 159, Value.int 0, Value.int 0, Value.int 0, Value.int 0, Value.int 0, Value.int 0, Value.int 0, Value.int 0]))).set 152 (Sum.inl (0, 4700, xup (xup (xup (fun _ => Value.int 0) (0 : Int32).toInt.toNat (Value.int 0)) (1 : Int32).toInt.toNat (Value.int 0)) (2 : Int32).toInt.toNat (Value.int 16)))).set 151 (Sum.inr (13, [Value.ref 152, Value.int 3]))).set 143 (Sum.inr (13, [Value.ref 144, Value.int 0]))).set 144 (Sum.inl (0, 4700, xup (fun _ => Value.int 0) (0 : Int32).toInt.toNat (Value.int 1)))).set 143 (Sum.inr (13, [Value.ref 144, Value.int 1]))).set 152 (Sum.inl (0, 4700, xup (xup (xup (xup (xup (xup (fun _ => Value.int 0) (0 : Int32).toInt.toNat (Value.int 0)) (1 : Int32).toInt.toNat (Value.int 0)) (2 : Int32).toInt.toNat (Value.int 16)) (0 : Int32).toInt.toNat (Value.int 1073741823)) (1 : Int32).toInt.toNat (Value.int 1073741823)) (2 : Int32).toInt.toNat (Value.int 15)))).set 151 (Sum.inr (13, [Value.ref 152, Value.int 3]))).set (160 + 2 * (xs 1).toInt.toNat) (Sum.inr (13, [Value.ref (161 + 2 * (xs 1).toInt.toNat), Value.int 0]))).set 138 (Sum.inl (0, 4700, xcp (xup (xup (xup (xup (xup (xup (fun _ => Value.int 0) (0 : Int32).toInt.toNat (Value.int 0)) (1 : Int32).toInt.toNat (Value.int 0)) (2 : Int32).toInt.toNat (Value.int 16)) (0 : Int32).toInt.toNat (Value.int 1073741823)) (1 : Int32).toInt.toNat (Value.int 1073741823)) (2 : Int32).toInt.toNat (Value.int 15)) (fun _ => Value.int 0) (0 : Int32).toInt.toNat (0 : Int32).toInt.toNat (3 : Int32).toInt.toNat))).set 137 (Sum.inr (13, [Value.ref 138, Value.int 3]))).set (161 + 2 * (xs 1).toInt.toNat) (Sum.inl (0, 140, xcp (xcp (xup (xup (xup (xup (xup (xup (fun _ => Value.int 0) (0 : Int32).toInt.toNat (Value.int 0)) (1 : Int32).toInt.toNat (Value.int 0)) (2 : Int32).toInt.toNat (Value.int 16)) (0 : Int32).toInt.toNat (Value.int 1073741823)) (1 : Int32).toInt.toNat (Value.int 1073741823)) (2 : Int32).toInt.toNat (Value.int 15)) (fun _ => Value.int 0) (0 : Int32).toInt.toNat (0 : Int32).toInt.toNat (3 : Int32).toInt.toNat) (fun _ => Value.int 0) (0 : Int32).toInt.toNat (0 : Int32).toInt.toNat (3 : Int32).toInt.toNat))).set (160 + 2 * (xs 1).toInt.toNat) (Sum.inr (13, [Value.ref (161 + 2 * (xs 1).toInt.toNat), Value.int 3]))).set 154 (Sum.inl (0, 17, xup (fun _ => Value.int 0) (xs 1).toInt.toNat (Value.int 3)))).set 155 (Sum.inl (0, 17, xup (fun _ => Value.int 0) (xs 1).toInt.toNat (Value.int 16384)))).set 156 (Sum.inl (2, 17, xup (xup (fun _ => Value.int 0) (xs 1).toInt.toNat (Value.int 0)) (xs 1).toInt.toNat (Value.int 0)))).set 128 (Sum.inr (12, [Value.ref 129, Value.ref 131, Value.ref 133, Value.ref 135, Value.ref 137, Value.ref 139, Value.ref 141, Value.ref 143, Value.ref 145, Value.ref 147, Value.ref 149, Value.ref 151, Value.ref 153, Value.ref 154, Value.ref 155, Value.ref 156, Value.ref 157, Value.int (-16384), Value.int 16384, Value.int 3, Value.int 0, Value.int 0, Value.ref 158, Value.ref 159, Value.int 0, Value.int 0, Value.int 0, Value.int 0, Value.int 0, Value.int 0, Value.int 0, Value.int 0]))), ?_, ?_, xgs (xgn (by decide) (xgn (by decide) (xgn (by decide) (xgn (by omega) (xgn (by omega) (xgn (by decide) (xgn (by decide) (xgn (by omega) (xgn (by decide) (xgn (by decide) (xgn (by decide) (xgn (by decide) (xgn (by decide) (xgn (by decide) (xgn (by decide) (xgs hm))))))))))))))))⟩
  · refine i_180_207 (x := 128) rfl ?_
    refine i_180_208 (v := Value.int 0) hm rfl ?_
    refine i_180_211 (fun h => absurd h (by decide)) (fun _ => ?_)
    refine i_180_214 (x := 128) rfl ?_
    refine i_180_215 (v := Value.ref 135) hm rfl ?_
    refine i_180_218 (v := Value.int 3) hq rfl ?_
    refine i_180_221 (fun h => absurd h (by decide)) (fun _ => ?_)
    refine i_180_224 (x := E) rfl ?_
    refine i_180_226 (x := 128) rfl ?_
    refine i_180_227 (v := Value.int 16384) hm rfl ?_
    refine i_180_230 (fun h => absurd (show 16384 < E.toInt by omega) (Int.not_lt.mpr h)) (fun _ => ?_)
    refine i_180_233 (x := 128) rfl ?_
    refine i_180_234 rfl ?_
    refine i_180_235 (v := Value.int 0) hm rfl ?_
    refine i_180_238 ?_
    refine i_180_239 (c := 2) (by decide) ?_
    refine i_180_240 (fs2 := [Value.ref 129, Value.ref 131, Value.ref 133, Value.ref 135, Value.ref 137, Value.ref 139, Value.ref 141, Value.ref 143, Value.ref 145, Value.ref 147, Value.ref 149, Value.ref 151, Value.ref 153, Value.ref 154, Value.ref 155, Value.ref 156, Value.ref 157, Value.int (-16384), Value.int 16384, Value.int 2, Value.int 0, Value.int 0, Value.ref 158, Value.ref 159, Value.int 0, Value.int 0, Value.int 0, Value.int 0, Value.int 0, Value.int 0, Value.int 0, Value.int 0]) hm (Nat.le_of_ble_eq_true rfl) rfl (by omega) ?_
    refine i_180_243 (x := md) rfl ?_
    refine i_180_245 (fun h => absurd (show md.toInt ≠ 0 by omega) (fun g => g h)) (fun _ => ?_)
    refine i_180_248 (x := md) rfl ?_
    refine i_180_250 ?_
    refine i_180_251 (fun h => absurd (show md.toInt ≠ 4 by omega) (fun g => g h)) (fun _ => ?_)
    refine i_180_254 (x := md) rfl ?_
    refine i_180_256 ?_
    refine i_180_257 (fun _ => ?_) (fun h => absurd (show md.toInt ≠ 2 by omega) (fun g => g h))
    refine i_180_265 (x := md) rfl ?_
    refine i_180_267 ?_
    refine i_180_268 (fun _ => ?_) (fun h => absurd (show md.toInt ≠ 3 by omega) (fun g => g h))
    refine i_180_280 ?_
    refine i_180_281 (lv2 := [(15, Value.int 0), (14, Value.int 0), (13, Value.int E), (12, Value.int 1), (11, Value.int 0), (10, Value.int C), (9, Value.int U), (8, Value.int E), (7, Value.int 64), (0, Value.ref 128), (1, Value.int (xs 1)), (2, Value.ref 129), (3, Value.int sc), (4, Value.int 0), (5, Value.int 0), (6, Value.int md)]) rfl ?_
    refine i_180_283 (x := 0) rfl ?_
    refine i_180_285 (fun _ => ?_) (fun h => absurd h (by decide))
    refine i_180_300 (x := 128) rfl ?_
    refine i_180_301 (v := Value.ref 151) (xgs hm) rfl ?_
    refine i_180_304 (x := 64) rfl ?_
    refine i_180_306 (xgn (by decide) (((hk 151 (by decide) (by decide) (by decide) (by decide) (by decide)).trans W0_151))) (Nat.le_of_ble_eq_true rfl) (s_190_0 (xgn (by decide) (((hk 151 (by decide) (by decide) (by decide) (by decide) (by decide)).trans W0_151))) (xgn (by decide) (((hk 152 (by decide) (by decide) (by decide) (by decide) (by decide)).trans W0_152)))) ?_
    refine i_180_309 (x := 128) rfl ?_
    refine i_180_310 (v := Value.ref 143) (xgn (by decide) (xgn (by decide) (xgs hm))) rfl ?_
    refine i_180_313 ?_
    refine i_180_314 (xgn (by decide) (xgn (by decide) (xgn (by decide) (((hk 143 (by decide) (by decide) (by decide) (by decide) (by decide)).trans W0_143))))) (Nat.le_of_ble_eq_true rfl) (s_179_0 (xgn (by decide) (xgn (by decide) (xgn (by decide) (((hk 143 (by decide) (by decide) (by decide) (by decide) (by decide)).trans W0_143))))) (xgn (by decide) (xgn (by decide) (xgn (by decide) (((hk 144 (by decide) (by decide) (by decide) (by decide) (by decide)).trans W0_144)))))) ?_
    refine i_180_317 (x := 128) rfl ?_
    refine i_180_318 (v := Value.ref 151) (xgn (by decide) (xgn (by decide) (xgn (by decide) (xgn (by decide) (xgn (by decide) (xgs hm)))))) rfl ?_
    refine i_180_321 (x := 128) rfl ?_
    refine i_180_322 (v := Value.ref 143) (xgn (by decide) (xgn (by decide) (xgn (by decide) (xgn (by decide) (xgn (by decide) (xgs hm)))))) rfl ?_
    refine i_180_325 (xgn (by decide) (xgn (by decide) (xgn (by decide) (xgs (xgn (by decide) (xgn (by decide) (((hk 151 (by decide) (by decide) (by decide) (by decide) (by decide)).trans W0_151)))))))) (Nat.le_of_ble_eq_true rfl) (s_191_0 (xgn (by decide) (xgn (by decide) (xgn (by decide) (xgs (xgn (by decide) (xgn (by decide) (((hk 151 (by decide) (by decide) (by decide) (by decide) (by decide)).trans W0_151)))))))) (xgn (by decide) (xgn (by decide) (xgn (by decide) (xgn (by decide) (xgs (xgn (by decide) (((hk 152 (by decide) (by decide) (by decide) (by decide) (by decide)).trans W0_152)))))))) (xup_n (by decide) (xup_n (by decide) xup_s)) (xgs (xgn (by decide) (xgs (xgn (by decide) (xgn (by decide) (xgn (by decide) (((hk 143 (by decide) (by decide) (by decide) (by decide) (by decide)).trans W0_143)))))))) (xgn (by decide) (xgs (xgn (by decide) (xgn (by decide) (xgn (by decide) (xgn (by decide) (((hk 144 (by decide) (by decide) (by decide) (by decide) (by decide)).trans W0_144)))))))) xup_s (xup_n (by decide) xup_s) xup_s) ?_
    refine i_180_328 (x := 128) rfl ?_
    refine i_180_329 (x := (xs 1)) rfl ?_
    refine i_180_330 (x := 128) rfl ?_
    refine i_180_331 (v := Value.ref 151) (xgn (by decide) (xgn (by decide) (xgn (by decide) (xgn (by decide) (xgn (by decide) (xgn (by decide) (xgn (by decide) (xgs hm)))))))) rfl ?_
    refine i_180_334 (x := 128) rfl ?_
    refine i_180_335 (v := Value.int 16384) (xgn (by decide) (xgn (by decide) (xgn (by decide) (xgn (by decide) (xgn (by decide) (xgn (by decide) (xgn (by decide) (xgs hm)))))))) rfl ?_
    refine i_180_338 (x := 64) rfl ?_
    refine i_180_340 (c := 16320) (by decide) ?_
    refine i_180_341 (xgn (by decide) (xgn (by decide) (xgn (by decide) (xgn (by decide) (xgn (by decide) (xgn (by decide) (xgn (by decide) (xgs hm)))))))) (Nat.le_of_ble_eq_true rfl) (s_192_0 (xgn (by decide) (xgn (by decide) (xgn (by decide) (xgn (by decide) (xgn (by decide) (xgn (by decide) (xgn (by decide) (xgs hm)))))))) (xgn (by decide) (xgn (by decide) (xgn (by decide) (xgn (by decide) (xgn (by decide) (xgn (by decide) (xgn (by decide) (xgn (by decide) (((hk 153 (by decide) (by decide) (by decide) (by decide) (by decide)).trans W0_153)))))))))) (by omega) (by omega) (gprec_at (by omega)) (xgs (xgn (by decide) (xgn (by decide) (xgn (by decide) (xgn (by decide) (xgs (xgn (by decide) (xgn (by decide) (((hk 151 (by decide) (by decide) (by decide) (by decide) (by decide)).trans W0_151)))))))))) (xgn (by decide) (xgs (xgn (by decide) (xgn (by decide) (xgn (by decide) (xgn (by decide) (xgs (xgn (by decide) (((hk 152 (by decide) (by decide) (by decide) (by decide) (by decide)).trans W0_152)))))))))) xup_s (xgn (by decide) (xgn (by decide) (xgn (by decide) (xgn (by decide) (xgn (by decide) (xgn (by decide) (xgn (by decide) (xgn (by decide) (((hk 157 (by decide) (by decide) (by decide) (by decide) (by decide)).trans W0_157)))))))))) (gpart_at (by omega)) (xgn (by omega) (xgn (by omega) (xgn (by omega) (xgn (by omega) (xgn (by omega) (xgn (by omega) (xgn (by omega) (xgn (by omega) (((hk _ (by omega) (by omega) (by omega) (by omega) (by omega)).trans (W0_part (by omega)))))))))))) (by omega) (by omega) (by omega) (xgn (by decide) (xgn (by decide) (xgn (by decide) (xgn (by decide) (xgn (by decide) (xgn (by decide) (xgn (by decide) (xgn (by decide) (((hk 137 (by decide) (by decide) (by decide) (by decide) (by decide)).trans W0_137)))))))))) (by omega) (by omega) (by omega) (xgn (by decide) (xgn (by decide) (xgn (by decide) (xgn (by decide) (xgn (by decide) (xgn (by decide) (xgn (by decide) (xgn (by decide) (((hk 138 (by decide) (by decide) (by decide) (by decide) (by decide)).trans W0_138)))))))))) (xup_n (by decide) (xup_n (by decide) xup_s)) (xup_n (by decide) xup_s) (by omega) (by omega) (by omega) (by omega) (by omega) (by omega) (xgn (by omega) (xgn (by omega) (xgn (by omega) (xgn (by omega) (xgn (by omega) (xgn (by omega) (xgn (by omega) (xgn (by omega) (((hk _ (by omega) (by omega) (by omega) (by omega) (by omega)).trans (W0_pw (by omega)))))))))))) (by omega) (by omega) (by omega) (by omega) (by omega) (by omega) (xgn (by decide) (xgn (by decide) (xgn (by decide) (xgn (by decide) (xgn (by decide) (xgn (by decide) (xgn (by decide) (xgn (by decide) (((hk 154 (by decide) (by decide) (by decide) (by decide) (by decide)).trans W0_154)))))))))) (by omega) (by omega) (xgn (by decide) (xgn (by decide) (xgn (by decide) (xgn (by decide) (xgn (by decide) (xgn (by decide) (xgn (by decide) (xgn (by decide) (((hk 155 (by decide) (by decide) (by decide) (by decide) (by decide)).trans W0_155))))))))))) ?_
    refine i_180_344 (x := 128) rfl ?_
    refine i_180_345 (v := Value.ref 156) (xgn (by decide) (xgn (by decide) (xgn (by omega) (xgn (by omega) (xgn (by decide) (xgn (by decide) (xgn (by omega) (xgn (by decide) (xgn (by decide) (xgn (by decide) (xgn (by decide) (xgn (by decide) (xgn (by decide) (xgn (by decide) (xgs hm))))))))))))))) rfl ?_
    refine i_180_348 (x := (xs 1)) rfl ?_
    refine i_180_349 (x := 0) rfl ?_
    refine i_180_351z (v := Value.int 0) (xgn (by decide) (xgn (by decide) (xgn (by omega) (xgn (by omega) (xgn (by decide) (xgn (by decide) (xgn (by omega) (xgn (by decide) (xgn (by decide) (xgn (by decide) (xgn (by decide) (xgn (by decide) (xgn (by decide) (xgn (by decide) (xgn (by decide) hn))))))))))))))) (by omega) (by omega) (by omega) rfl ?_
    refine i_180_352 (x := 0) rfl ?_
    refine i_180_354 (fun _ => ?_) (fun h => absurd h (by decide))
    refine i_180_361 ?_
    refine i_180_362 (lv2 := [(14, Value.int (-1)), (15, Value.int 0), (13, Value.int E), (12, Value.int 1), (11, Value.int 0), (10, Value.int C), (9, Value.int U), (8, Value.int E), (7, Value.int 64), (0, Value.ref 128), (1, Value.int (xs 1)), (2, Value.ref 129), (3, Value.int sc), (4, Value.int 0), (5, Value.int 0), (6, Value.int md)]) rfl ?_
    refine i_180_364 ?_
    refine i_180_591 (x := 128) rfl ?_
    refine i_180_592 (v := Value.int 0) (xgn (by decide) (xgn (by decide) (xgn (by decide) (xgn (by omega) (xgn (by omega) (xgn (by decide) (xgn (by decide) (xgn (by omega) (xgn (by decide) (xgn (by decide) (xgn (by decide) (xgn (by decide) (xgn (by decide) (xgn (by decide) (xgn (by decide) (xgs hm)))))))))))))))) rfl ?_
    refine i_180_595 (fun h => absurd h (by decide)) (fun _ => ?_)
    refine i_180_598 (x := 128) rfl ?_
    refine i_180_599 (v := Value.int 0) (xgn (by decide) (xgn (by decide) (xgn (by decide) (xgn (by omega) (xgn (by omega) (xgn (by decide) (xgn (by decide) (xgn (by omega) (xgn (by decide) (xgn (by decide) (xgn (by decide) (xgn (by decide) (xgn (by decide) (xgn (by decide) (xgn (by decide) (xgs hm)))))))))))))))) rfl ?_
    refine i_180_602 (fun _ => ?_) (fun h => absurd h (by decide))
    refine i_180_629 (x := (-1)) rfl ?_
    refine i_180_631 (fun h => absurd h (by decide)) (fun _ => ?_)
    refine i_180_634 (x := 128) rfl ?_
    refine i_180_635 rfl ?_
    refine i_180_636 (v := Value.int 2) (xgn (by decide) (xgn (by decide) (xgn (by decide) (xgn (by omega) (xgn (by omega) (xgn (by decide) (xgn (by decide) (xgn (by omega) (xgn (by decide) (xgn (by decide) (xgn (by decide) (xgn (by decide) (xgn (by decide) (xgn (by decide) (xgn (by decide) (xgs hm)))))))))))))))) rfl ?_
    refine i_180_639 ?_
    refine i_180_640 (c := 3) (by decide) ?_
    refine i_180_641 (fs2 := [Value.ref 129, Value.ref 131, Value.ref 133, Value.ref 135, Value.ref 137, Value.ref 139, Value.ref 141, Value.ref 143, Value.ref 145, Value.ref 147, Value.ref 149, Value.ref 151, Value.ref 153, Value.ref 154, Value.ref 155, Value.ref 156, Value.ref 157, Value.int (-16384), Value.int 16384, Value.int 3, Value.int 0, Value.int 0, Value.ref 158, Value.ref 159, Value.int 0, Value.int 0, Value.int 0, Value.int 0, Value.int 0, Value.int 0, Value.int 0, Value.int 0]) (xgn (by decide) (xgn (by decide) (xgn (by decide) (xgn (by omega) (xgn (by omega) (xgn (by decide) (xgn (by decide) (xgn (by omega) (xgn (by decide) (xgn (by decide) (xgn (by decide) (xgn (by decide) (xgn (by decide) (xgn (by decide) (xgn (by decide) (xgs hm)))))))))))))))) (Nat.le_of_ble_eq_true rfl) rfl (by omega) ?_
    refine i_180_644 (x := 0) rfl ?_
    refine i_180_646 (fun _ => ?_) (fun h => absurd h (by decide))
    refine i_180_655 (x := (-1)) rfl ?_
    exact i_180_657 ⟨rfl, rfl⟩
  · refine xKp.set ?_ (fun h hh => by unfold xPM at hh; omega) (xgn (by decide) (xgn (by decide) (xgn (by decide) (xgn (by omega) (xgn (by omega) (xgn (by decide) (xgn (by decide) (xgn (by omega) (xgn (by decide) (xgn (by decide) (xgn (by decide) (xgn (by decide) (xgn (by decide) (xgn (by decide) (xgn (by decide) (xgs hm)))))))))))))))) xcs_o
    refine xKp.set ?_ (fun h hh => by unfold xPM at hh; omega) (xgn (by decide) (xgn (by decide) (xgn (by omega) (xgn (by omega) (xgn (by decide) (xgn (by decide) (xgn (by omega) (xgn (by decide) (xgn (by decide) (xgn (by decide) (xgn (by decide) (xgn (by decide) (xgn (by decide) (xgn (by decide) (xgn (by decide) hn))))))))))))))) xcs_a
    refine xKp.set ?_ (fun h hh => by unfold xPM at hh; omega) (xgn (by decide) (xgn (by omega) (xgn (by omega) (xgn (by decide) (xgn (by decide) (xgn (by omega) (xgn (by decide) (xgn (by decide) (xgn (by decide) (xgn (by decide) (xgn (by decide) (xgn (by decide) (xgn (by decide) (xgn (by decide) (((hk 155 (by decide) (by decide) (by decide) (by decide) (by decide)).trans W0_155)))))))))))))))) xcs_a
    refine xKp.set ?_ (fun h hh => by unfold xPM at hh; omega) (xgn (by omega) (xgn (by omega) (xgn (by decide) (xgn (by decide) (xgn (by omega) (xgn (by decide) (xgn (by decide) (xgn (by decide) (xgn (by decide) (xgn (by decide) (xgn (by decide) (xgn (by decide) (xgn (by decide) (((hk 154 (by decide) (by decide) (by decide) (by decide) (by decide)).trans W0_154))))))))))))))) xcs_a
    refine xKp.set ?_ (fun h hh => by unfold xPM at hh; omega) (xgn (by omega) (xgn (by omega) (xgn (by omega) (xgs (xgn (by omega) (xgn (by omega) (xgn (by omega) (xgn (by omega) (xgn (by omega) (xgn (by omega) (xgn (by omega) (xgn (by omega) (((hk _ (by omega) (by omega) (by omega) (by omega) (by omega)).trans (W0_part (by omega)))))))))))))))) xcs_o
    refine xKp.set ?_ (fun h hh => by unfold xPM at hh; omega) (xgn (by omega) (xgn (by omega) (xgn (by omega) (xgn (by omega) (xgn (by omega) (xgn (by omega) (xgn (by omega) (xgn (by omega) (xgn (by omega) (xgn (by omega) (xgn (by omega) (((hk _ (by omega) (by omega) (by omega) (by omega) (by omega)).trans (W0_pw (by omega))))))))))))))) xcs_a
    refine xKp.set ?_ (fun h hh => by unfold xPM at hh; omega) (xgn (by decide) (xgn (by omega) (xgn (by decide) (xgn (by decide) (xgn (by decide) (xgn (by decide) (xgn (by decide) (xgn (by decide) (xgn (by decide) (xgn (by decide) (((hk 137 (by decide) (by decide) (by decide) (by decide) (by decide)).trans W0_137)))))))))))) xcs_o
    refine xKp.set ?_ (fun h hh => by unfold xPM at hh; omega) (xgn (by omega) (xgn (by decide) (xgn (by decide) (xgn (by decide) (xgn (by decide) (xgn (by decide) (xgn (by decide) (xgn (by decide) (xgn (by decide) (((hk 138 (by decide) (by decide) (by decide) (by decide) (by decide)).trans W0_138))))))))))) xcs_a
    refine xKp.set ?_ (fun h hh => by unfold xPM at hh; omega) (xgn (by omega) (xgn (by omega) (xgn (by omega) (xgn (by omega) (xgn (by omega) (xgn (by omega) (xgn (by omega) (xgn (by omega) (((hk _ (by omega) (by omega) (by omega) (by omega) (by omega)).trans (W0_part (by omega)))))))))))) xcs_o
    refine xKp.set ?_ (fun h hh => by unfold xPM at hh; omega) (xgn (by decide) (xgn (by decide) (xgn (by decide) (xgn (by decide) (xgs (xgn (by decide) (xgn (by decide) (((hk 151 (by decide) (by decide) (by decide) (by decide) (by decide)).trans W0_151))))))))) xcs_o
    refine xKp.set ?_ (fun h hh => by unfold xPM at hh; omega) (xgn (by decide) (xgn (by decide) (xgn (by decide) (xgn (by decide) (xgs (xgn (by decide) (((hk 152 (by decide) (by decide) (by decide) (by decide) (by decide)).trans W0_152)))))))) xcs_a
    refine xKp.set ?_ (fun h hh => by unfold xPM at hh; omega) (xgn (by decide) (xgs (xgn (by decide) (xgn (by decide) (xgn (by decide) (((hk 143 (by decide) (by decide) (by decide) (by decide) (by decide)).trans W0_143))))))) xcs_o
    refine xKp.set ?_ (fun h hh => by unfold xPM at hh; omega) (xgn (by decide) (xgn (by decide) (xgn (by decide) (xgn (by decide) (((hk 144 (by decide) (by decide) (by decide) (by decide) (by decide)).trans W0_144)))))) xcs_a
    refine xKp.set ?_ (fun h hh => by unfold xPM at hh; omega) (xgn (by decide) (xgn (by decide) (xgn (by decide) (((hk 143 (by decide) (by decide) (by decide) (by decide) (by decide)).trans W0_143))))) xcs_o
    refine xKp.set ?_ (fun h hh => by unfold xPM at hh; omega) (xgn (by decide) (xgn (by decide) (((hk 151 (by decide) (by decide) (by decide) (by decide) (by decide)).trans W0_151)))) xcs_o
    refine xKp.set ?_ (fun h hh => by unfold xPM at hh; omega) (xgn (by decide) (((hk 152 (by decide) (by decide) (by decide) (by decide) (by decide)).trans W0_152))) xcs_a
    refine xKp.set ?_ (fun h hh => by unfold xPM at hh; omega) (hm) xcs_o
    exact xKp.refl
theorem s_179_2 {d : Nat} {w : xW} (hw0 : w[151]? = some (Sum.inr (13, [Value.ref 152, Value.int 0]))) (hw1 : w[152]? = some (Sum.inl (0, 4700, fun _ => Value.int 0))) : xRun d 179 [Value.ref 151, Value.long 1] w (.inl none) (((w.set 151 (Sum.inr (13, [Value.ref 152, Value.int 0]))).set 152 (Sum.inl (0, 4700, xup (fun _ => Value.int 0) (0 : Int32).toInt.toNat (Value.int 1)))).set 151 (Sum.inr (13, [Value.ref 152, Value.int 1]))) := by
  refine xRun.of ?_
  refine i_179_0 (x := 151) rfl ?_
  refine i_179_1 ?_
  refine i_179_2 (fs2 := [Value.ref 152, Value.int 0]) hw0 (Nat.le_of_ble_eq_true rfl) rfl (by decide) ?_
  refine i_179_5 (x := 1) rfl ?_
  refine i_179_6 (lv2 := [(3, Value.long 1), (0, Value.ref 151), (1, Value.long 1)]) rfl ?_
  refine i_179_7 (x := 1) rfl ?_
  refine i_179_8 ?_
  refine i_179_9 (c := 1) (by decide) ?_
  refine i_179_10 (fun h => absurd h (by decide)) (fun _ => ?_)
  refine i_179_13 (x := 151) rfl ?_
  refine i_179_14 (v := Value.ref 152) (xgs hw0) rfl ?_
  refine i_179_17 (x := 151) rfl ?_
  refine i_179_18 (v := Value.int 0) (xgs hw0) rfl ?_
  refine i_179_21 (x := 1) rfl ?_
  refine i_179_22 (c := 1) (by decide) ?_
  refine i_179_23 ?_
  refine i_179_25 (c := 1) (by decide) ?_
  refine i_179_26 (v := Value.int 1) (xgn (by decide) hw1) (by decide) (by decide) (by decide) rfl ?_
  refine i_179_27 (x := 151) rfl ?_
  refine i_179_28 rfl ?_
  refine i_179_29 (v := Value.int 0) (xgn (by decide) (xgs hw0)) rfl ?_
  refine i_179_32 ?_
  refine i_179_33 (c := 1) (by decide) ?_
  refine i_179_34 (fs2 := [Value.ref 152, Value.int 1]) (xgn (by decide) (xgs hw0)) (Nat.le_of_ble_eq_true rfl) rfl (by decide) ?_
  refine i_179_37 (x := 1) rfl ?_
  refine i_179_38 ?_
  refine i_179_40 (c := 0) (by decide) ?_
  refine i_179_41 (lv2 := [(3, Value.long 0), (0, Value.ref 151), (1, Value.long 1)]) rfl ?_
  refine i_179_42 ?_
  refine i_179_7 (x := 0) rfl ?_
  refine i_179_8 ?_
  refine i_179_9 (c := 0) (by decide) ?_
  refine i_179_10 (fun _ => ?_) (fun h => absurd h (by decide))
  exact i_179_45 ⟨rfl, rfl⟩
theorem s_181_1 {d : Nat} {w : xW} {g0 : Nat → Value} (hw0 : w[151]? = some (Sum.inr (13, [Value.ref 152, Value.int 1]))) (hw1 : w[152]? = some (Sum.inl (0, 4700, g0))) (hg2 : g0 (0 : Int32).toInt.toNat = Value.int 1) : xRun d 181 [Value.ref 151] w (.inl (some (Value.int 1))) w := by
  refine xRun.of ?_
  refine i_181_0 (x := 151) rfl ?_
  refine i_181_1 (v := Value.int 1) hw0 rfl ?_
  refine i_181_4 (fun _ => ?_) (fun h => absurd h (by decide))
  refine i_181_9 ?_
  refine i_181_11 (x := 151) rfl ?_
  refine i_181_12 (v := Value.int 1) hw0 rfl ?_
  refine i_181_15 ?_
  refine i_181_16 (c := 0) (by decide) ?_
  refine i_181_17 (c := 0) (by decide) ?_
  refine i_181_18 (lv2 := [(1, Value.int 0), (0, Value.ref 151)]) rfl ?_
  refine i_181_19 (x := 151) rfl ?_
  refine i_181_20 (v := Value.ref 152) hw0 rfl ?_
  refine i_181_23 (x := 151) rfl ?_
  refine i_181_24 (v := Value.int 1) hw0 rfl ?_
  refine i_181_27 ?_
  refine i_181_28 (c := 0) (by decide) ?_
  refine i_181_29 (v := Value.int 1) hw1 (by decide) (by decide) hg2 ?_
  refine i_181_30 (lv2 := [(2, Value.int 1), (1, Value.int 0), (0, Value.ref 151)]) rfl ?_
  refine i_181_31 (x := 1) rfl ?_
  refine i_181_32 (fun h => absurd h (by decide)) (fun _ => ?_)
  refine i_181_35 (x := 0) (c := 1) (lv2 := [(1, Value.int 1), (2, Value.int 1), (0, Value.ref 151)]) rfl (by decide) rfl ?_
  refine i_181_38 (x := 1) rfl ?_
  refine i_181_39 ?_
  refine i_181_40 (c := 0) (by decide) ?_
  refine i_181_41 (lv2 := [(2, Value.int 0), (1, Value.int 1), (0, Value.ref 151)]) rfl ?_
  refine i_181_42 ?_
  refine i_181_31 (x := 0) rfl ?_
  refine i_181_32 (fun _ => ?_) (fun h => absurd h (by decide))
  refine i_181_45 (x := 1) rfl ?_
  exact i_181_46 ⟨rfl, rfl⟩
theorem s_182_5 {d : Nat} {w : xW} {g0 : Nat → Value} (hw0 : w[151]? = some (Sum.inr (13, [Value.ref 152, Value.int 1]))) (hw1 : w[137]? = some (Sum.inr (13, [Value.ref 138, Value.int 0]))) (hw2 : w[152]? = some (Sum.inl (0, 4700, g0))) (hw3 : w[138]? = some (Sum.inl (0, 4700, fun _ => Value.int 0))) (hg4 : g0 (0 : Int32).toInt.toNat = Value.int 1) : xRun (d + 1) 182 [Value.ref 137, Value.ref 151] w (.inl none) ((w.set 138 (Sum.inl (0, 4700, xcp g0 (fun _ => Value.int 0) (0 : Int32).toInt.toNat (0 : Int32).toInt.toNat (1 : Int32).toInt.toNat))).set 137 (Sum.inr (13, [Value.ref 138, Value.int 1]))) := by
  refine xRun.of ?_
  refine i_182_0 (x := 151) rfl ?_
  refine i_182_1 (v := Value.ref 152) hw0 rfl ?_
  refine i_182_4 ?_
  refine i_182_5 (x := 137) rfl ?_
  refine i_182_6 (v := Value.ref 138) hw1 rfl ?_
  refine i_182_9 ?_
  refine i_182_10 (x := 151) rfl ?_
  refine i_182_11 (v := Value.int 1) hw0 rfl ?_
  refine i_182_14 hw2 hw3 (by decide) (by decide) (by decide) (by decide) (by decide) (by decide) (xci1 hg4) (Nat.le_of_ble_eq_true rfl) ?_
  refine i_182_17 (x := 137) rfl ?_
  refine i_182_18 (x := 151) rfl ?_
  refine i_182_19 (v := Value.int 1) (xgn (by decide) hw0) rfl ?_
  refine i_182_22 (fs2 := [Value.ref 138, Value.int 1]) (xgn (by decide) hw1) (Nat.le_of_ble_eq_true rfl) rfl (by decide) ?_
  exact i_182_25 ⟨rfl, rfl⟩
theorem s_187_6 {d : Nat} {w : xW} {g0 : Nat → Value} (hw0 : w[137]? = some (Sum.inr (13, [Value.ref 138, Value.int 1]))) (hw1 : w[138]? = some (Sum.inl (0, 4700, g0))) (hg2 : g0 (3 : Int32).toInt.toNat = Value.int 0) (hg3 : g0 (2 : Int32).toInt.toNat = Value.int 8) : xRun d 187 [Value.ref 137, Value.int 4] w (.inl none) (w.set 137 (Sum.inr (13, [Value.ref 138, Value.int 3]))) := by
  refine xRun.of ?_
  refine i_187_0 (x := 137) rfl ?_
  refine i_187_1 (x := 4) rfl ?_
  refine i_187_2 (fs2 := [Value.ref 138, Value.int 4]) hw0 (Nat.le_of_ble_eq_true rfl) rfl (by decide) ?_
  refine i_187_5 (x := 137) rfl ?_
  refine i_187_6 (v := Value.int 4) (xgs hw0) rfl ?_
  refine i_187_9 (fun h => absurd h (by decide)) (fun _ => ?_)
  refine i_187_12 (x := 137) rfl ?_
  refine i_187_13 (v := Value.ref 138) (xgs hw0) rfl ?_
  refine i_187_16 (x := 137) rfl ?_
  refine i_187_17 (v := Value.int 4) (xgs hw0) rfl ?_
  refine i_187_20 ?_
  refine i_187_21 (c := 3) (by decide) ?_
  refine i_187_22 (v := Value.int 0) (xgn (by decide) hw1) (by decide) (by decide) hg2 ?_
  refine i_187_23 (fun h => absurd h (by decide)) (fun _ => ?_)
  refine i_187_26 (x := 137) rfl ?_
  refine i_187_27 rfl ?_
  refine i_187_28 (v := Value.int 4) (xgs hw0) rfl ?_
  refine i_187_31 ?_
  refine i_187_32 (c := 3) (by decide) ?_
  refine i_187_33 (fs2 := [Value.ref 138, Value.int 3]) (xgs hw0) (Nat.le_of_ble_eq_true rfl) rfl (by decide) ?_
  refine xEv.world (List.set_set _) ?_
  refine i_187_36 ?_
  refine i_187_5 (x := 137) rfl ?_
  refine i_187_6 (v := Value.int 3) (xgs hw0) rfl ?_
  refine i_187_9 (fun h => absurd h (by decide)) (fun _ => ?_)
  refine i_187_12 (x := 137) rfl ?_
  refine i_187_13 (v := Value.ref 138) (xgs hw0) rfl ?_
  refine i_187_16 (x := 137) rfl ?_
  refine i_187_17 (v := Value.int 3) (xgs hw0) rfl ?_
  refine i_187_20 ?_
  refine i_187_21 (c := 2) (by decide) ?_
  refine i_187_22 (v := Value.int 8) (xgn (by decide) hw1) (by decide) (by decide) hg3 ?_
  refine i_187_23 (fun _ => ?_) (fun h => absurd h (by decide))
  exact i_187_39 ⟨rfl, rfl⟩
theorem s_188_7 {d : Nat} {w : xW} {g0 : Nat → Value} (hw0 : w[137]? = some (Sum.inr (13, [Value.ref 138, Value.int 1]))) (hw1 : w[138]? = some (Sum.inl (0, 4700, g0))) (hg2 : g0 (0 : Int32).toInt.toNat = Value.int 1) : xRun (d + 1) 188 [Value.ref 137, Value.int 63] w (.inl none) ((w.set 138 (Sum.inl (0, 4700, xup (xup (xup (xup (xup g0 (3 : Int32).toInt.toNat (Value.int 0)) (3 : Int32).toInt.toNat (Value.int 0)) (2 : Int32).toInt.toNat (Value.int 8)) (0 : Int32).toInt.toNat (Value.int 0)) (1 : Int32).toInt.toNat (Value.int 0)))).set 137 (Sum.inr (13, [Value.ref 138, Value.int 3]))) := by
  refine xRun.of ?_
  refine i_188_0 (x := 137) rfl ?_
  refine i_188_1 (v := Value.int 1) hw0 rfl ?_
  refine i_188_4 (fun h => absurd h (by decide)) (fun _ => ?_)
  refine i_188_7 (x := 63) rfl ?_
  refine i_188_8 (fun _ => ?_) (fun h => absurd h (by decide))
  refine i_188_12 (x := 63) rfl ?_
  refine i_188_13 ?_
  refine i_188_15 (x := 63) (z := 30) (c := 2) (by decide) (by decide) ?_
  refine i_188_16 (lv2 := [(2, Value.int 2), (0, Value.ref 137), (1, Value.int 63)]) rfl ?_
  refine i_188_17 (x := 63) rfl ?_
  refine i_188_18 ?_
  refine i_188_20 (x := 63) (z := 30) (c := 3) (by decide) (by decide) ?_
  refine i_188_21 (lv2 := [(3, Value.int 3), (2, Value.int 2), (0, Value.ref 137), (1, Value.int 63)]) rfl ?_
  refine i_188_22 (x := 137) rfl ?_
  refine i_188_23 (v := Value.ref 138) hw0 rfl ?_
  refine i_188_26 (x := 137) rfl ?_
  refine i_188_27 (v := Value.int 1) hw0 rfl ?_
  refine i_188_30 (x := 2) rfl ?_
  refine i_188_31 (c := 3) (by decide) ?_
  refine i_188_32 ?_
  refine i_188_33 (v := Value.int 0) hw1 (by decide) (by decide) (by decide) rfl ?_
  refine i_188_34 (x := 137) rfl ?_
  refine i_188_35 (v := Value.int 1) (xgn (by decide) hw0) rfl ?_
  refine i_188_38 ?_
  refine i_188_39 (c := 0) (by decide) ?_
  refine i_188_40 (lv2 := [(4, Value.int 0), (3, Value.int 3), (2, Value.int 2), (0, Value.ref 137), (1, Value.int 63)]) rfl ?_
  refine i_188_42 (x := 0) rfl ?_
  refine i_188_44 (fun h => absurd h (by decide)) (fun _ => ?_)
  refine i_188_47 (x := 137) rfl ?_
  refine i_188_48 (v := Value.ref 138) (xgn (by decide) hw0) rfl ?_
  refine i_188_51 (x := 0) rfl ?_
  refine i_188_53 (v := Value.int 1) (xgs hw1) (by decide) (by decide) (xup_n (by decide) hg2) ?_
  refine i_188_54 (c := 1) (by decide) ?_
  refine i_188_55 (x := 3) rfl ?_
  refine i_188_56 (c := 8) (by decide) ?_
  refine i_188_57 (lv2 := [(5, Value.long 8), (4, Value.int 0), (3, Value.int 3), (2, Value.int 2), (0, Value.ref 137), (1, Value.int 63)]) rfl ?_
  refine i_188_59 (x := 137) rfl ?_
  refine i_188_60 (v := Value.ref 138) (xgn (by decide) hw0) rfl ?_
  refine i_188_63 (x := 0) rfl ?_
  refine i_188_65 (x := 2) rfl ?_
  refine i_188_66 (c := 2) (by decide) ?_
  refine i_188_67 ?_
  refine i_188_68 (c := 3) (by decide) ?_
  refine i_188_69 (x := 0) rfl ?_
  refine i_188_71 (x := 137) rfl ?_
  refine i_188_72 (v := Value.int 1) (xgn (by decide) hw0) rfl ?_
  refine i_188_75 ?_
  refine i_188_76 (c := 0) (by decide) ?_
  refine i_188_77 (fun h => absurd h (by decide)) (fun _ => ?_)
  refine i_188_80 ?_
  refine i_188_81 ?_
  refine i_188_95 (x := 8) rfl ?_
  refine i_188_97 ?_
  refine i_188_99 (c := 0) (by decide) ?_
  refine i_188_100 (c := 0) (by decide) ?_
  refine i_188_101 (c := 0) (by decide) ?_
  refine i_188_102 (v := Value.int 0) (xgs hw1) (by decide) (by decide) (by decide) rfl ?_
  refine xEv.world (List.set_set _) ?_
  refine i_188_103 (x := 137) rfl ?_
  refine i_188_104 (v := Value.ref 138) (xgn (by decide) hw0) rfl ?_
  refine i_188_107 (x := 0) rfl ?_
  refine i_188_109 (x := 2) rfl ?_
  refine i_188_110 (c := 2) (by decide) ?_
  refine i_188_111 (x := 8) rfl ?_
  refine i_188_113 (c := 8) (by decide) ?_
  refine i_188_114 ?_
  refine i_188_116 (c := 8) (by decide) ?_
  refine i_188_117 (v := Value.int 8) (xgs hw1) (by decide) (by decide) (by decide) rfl ?_
  refine xEv.world (List.set_set _) ?_
  refine i_188_118 (x := 0) (c := (-1)) (lv2 := [(4, Value.int (-1)), (5, Value.long 8), (3, Value.int 3), (2, Value.int 2), (0, Value.ref 137), (1, Value.int 63)]) rfl (by decide) rfl ?_
  refine i_188_121 ?_
  refine i_188_42 (x := (-1)) rfl ?_
  refine i_188_44 (fun _ => ?_) (fun h => absurd h (by decide))
  refine i_188_124 ?_
  refine i_188_125 (lv2 := [(4, Value.int 0), (5, Value.long 8), (3, Value.int 3), (2, Value.int 2), (0, Value.ref 137), (1, Value.int 63)]) rfl ?_
  refine i_188_127 (x := 0) rfl ?_
  refine i_188_129 (x := 2) rfl ?_
  refine i_188_130 (fun h => absurd h (by decide)) (fun _ => ?_)
  refine i_188_133 (x := 137) rfl ?_
  refine i_188_134 (v := Value.ref 138) (xgn (by decide) hw0) rfl ?_
  refine i_188_137 (x := 0) rfl ?_
  refine i_188_139 ?_
  refine i_188_140 (v := Value.int 0) (xgs hw1) (by decide) (by decide) (by decide) rfl ?_
  refine xEv.world (List.set_set _) ?_
  refine i_188_141 (x := 0) (c := 1) (lv2 := [(4, Value.int 1), (5, Value.long 8), (3, Value.int 3), (2, Value.int 2), (0, Value.ref 137), (1, Value.int 63)]) rfl (by decide) rfl ?_
  refine i_188_144 ?_
  refine i_188_127 (x := 1) rfl ?_
  refine i_188_129 (x := 2) rfl ?_
  refine i_188_130 (fun h => absurd h (by decide)) (fun _ => ?_)
  refine i_188_133 (x := 137) rfl ?_
  refine i_188_134 (v := Value.ref 138) (xgn (by decide) hw0) rfl ?_
  refine i_188_137 (x := 1) rfl ?_
  refine i_188_139 ?_
  refine i_188_140 (v := Value.int 0) (xgs hw1) (by decide) (by decide) (by decide) rfl ?_
  refine xEv.world (List.set_set _) ?_
  refine i_188_141 (x := 1) (c := 2) (lv2 := [(4, Value.int 2), (5, Value.long 8), (3, Value.int 3), (2, Value.int 2), (0, Value.ref 137), (1, Value.int 63)]) rfl (by decide) rfl ?_
  refine i_188_144 ?_
  refine i_188_127 (x := 2) rfl ?_
  refine i_188_129 (x := 2) rfl ?_
  refine i_188_130 (fun _ => ?_) (fun h => absurd h (by decide))
  refine i_188_147 (x := 137) rfl ?_
  refine i_188_148 (x := 137) rfl ?_
  refine i_188_149 (v := Value.int 1) (xgn (by decide) hw0) rfl ?_
  refine i_188_152 (x := 2) rfl ?_
  refine i_188_153 (c := 3) (by decide) ?_
  refine i_188_154 ?_
  refine i_188_155 (c := 4) (by decide) ?_
  refine i_188_156 (xgn (by decide) hw0) (Nat.le_of_ble_eq_true rfl) (s_187_6 (xgn (by decide) hw0) (xgs hw1) (xup_n (by decide) (xup_n (by decide) (xup_n (by decide) xup_s))) (xup_n (by decide) (xup_n (by decide) xup_s))) ?_
  exact i_188_159 ⟨rfl, rfl⟩
theorem s_182_6 {d : Nat} {w : xW} {h0 : Nat} {h1 : Nat} {g0 : Nat → Value} (hw0 : w[137]? = some (Sum.inr (13, [Value.ref 138, Value.int 3]))) (hw1 : w[h0]? = some (Sum.inr (13, [Value.ref h1, Value.int 0]))) (hw2 : w[138]? = some (Sum.inl (0, 4700, g0))) (hw3 : w[h1]? = some (Sum.inl (0, 140, fun _ => Value.int 0))) (hg4 : g0 (0 : Int32).toInt.toNat = Value.int 0) (hg5 : g0 (1 : Int32).toInt.toNat = Value.int 0) (hg6 : g0 (2 : Int32).toInt.toNat = Value.int 8) (e7 : 7 ≤ h1) (e8 : h1 ≠ 137) (e9 : h1 ≠ h0) (e10 : 7 ≤ h0) : xRun (d + 1) 182 [Value.ref h0, Value.ref 137] w (.inl none) ((w.set h1 (Sum.inl (0, 140, xcp g0 (fun _ => Value.int 0) (0 : Int32).toInt.toNat (0 : Int32).toInt.toNat (3 : Int32).toInt.toNat))).set h0 (Sum.inr (13, [Value.ref h1, Value.int 3]))) := by
  refine xRun.of ?_
  refine i_182_0 (x := 137) rfl ?_
  refine i_182_1 (v := Value.ref 138) hw0 rfl ?_
  refine i_182_4 ?_
  refine i_182_5 (x := h0) rfl ?_
  refine i_182_6 (v := Value.ref h1) hw1 rfl ?_
  refine i_182_9 ?_
  refine i_182_10 (x := 137) rfl ?_
  refine i_182_11 (v := Value.int 3) hw0 rfl ?_
  refine i_182_14 hw2 hw3 (by decide) (by decide) (by decide) (by decide) (by decide) e7 (xci3 hg4 hg5 hg6) (Nat.le_of_ble_eq_true rfl) ?_
  refine i_182_17 (x := h0) rfl ?_
  refine i_182_18 (x := 137) rfl ?_
  refine i_182_19 (v := Value.int 3) (xgn e8 hw0) rfl ?_
  refine i_182_22 (fs2 := [Value.ref h1, Value.int 3]) (xgn e9 hw1) (Nat.le_of_ble_eq_true rfl) rfl e10 ?_
  exact i_182_25 ⟨rfl, rfl⟩
theorem s_192_1 {d : Nat} {w : xW} {a0 : Int32} {g0 : Nat → Value} {g1 : Nat → Value} {g2 : Nat → Value} {h0 : Nat} {h1 : Nat} (hw0 : w[128]? = some (Sum.inr (12, [Value.ref 129, Value.ref 131, Value.ref 133, Value.ref 135, Value.ref 137, Value.ref 139, Value.ref 141, Value.ref 143, Value.ref 145, Value.ref 147, Value.ref 149, Value.ref 151, Value.ref 153, Value.ref 154, Value.ref 155, Value.ref 156, Value.ref 157, Value.int (-16384), Value.int 16384, Value.int 4, Value.int 0, Value.int 0, Value.ref 158, Value.ref 159, Value.int 0, Value.int 0, Value.int 0, Value.int 0, Value.int 0, Value.int 0, Value.int 0, Value.int 0]))) (hw1 : w[153]? = some (Sum.inl (0, 17, g0))) (e2 : 0 ≤ a0.toInt) (e3 : a0.toInt < 17) (hg4 : g0 a0.toInt.toNat = Value.int 64) (hw5 : w[151]? = some (Sum.inr (13, [Value.ref 152, Value.int 1]))) (hw6 : w[152]? = some (Sum.inl (0, 4700, g1))) (hg7 : g1 (0 : Int32).toInt.toNat = Value.int 1) (hw8 : w[157]? = some (Sum.inl (5, 17, g2))) (hg9 : g2 a0.toInt.toNat = Value.ref h0) (hw10 : w[h0]? = some (Sum.inr (13, [Value.ref h1, Value.int 0]))) (e11 : 7 ≤ h0) (e12 : h0 ≠ 128) (e13 : h0 ≠ 137) (hw14 : w[137]? = some (Sum.inr (13, [Value.ref 138, Value.int 0]))) (e15 : h0 ≠ 151) (e16 : h0 ≠ 152) (e17 : h0 ≠ 138) (hw18 : w[138]? = some (Sum.inl (0, 4700, fun _ => Value.int 0))) (e19 : h0 ≠ 157) (e20 : 137 ≠ h0) (e21 : 138 ≠ h0) (e22 : 137 ≠ h1) (e23 : 138 ≠ h1) (e24 : h0 ≠ h1) (hw25 : w[h1]? = some (Sum.inl (0, 140, fun _ => Value.int 0))) (e26 : 7 ≤ h1) (e27 : h1 ≠ 137) (e28 : h1 ≠ h0) (e29 : h1 ≠ 128) (e30 : h0 ≠ 154) (e31 : h1 ≠ 154) (hw32 : w[154]? = some (Sum.inl (0, 17, fun _ => Value.int 0))) (e33 : h0 ≠ 155) (e34 : h1 ≠ 155) (hw35 : w[155]? = some (Sum.inl (0, 17, fun _ => Value.int 0))) : xRun (d + 2) 192 [Value.ref 128, Value.int a0, Value.ref 151, Value.int (-16385)] w (.inl none) (((((((((w.set h0 (Sum.inr (13, [Value.ref h1, Value.int 0]))).set 138 (Sum.inl (0, 4700, xcp g1 (fun _ => Value.int 0) (0 : Int32).toInt.toNat (0 : Int32).toInt.toNat (1 : Int32).toInt.toNat))).set 137 (Sum.inr (13, [Value.ref 138, Value.int 1]))).set 138 (Sum.inl (0, 4700, xup (xup (xup (xup (xup (xcp g1 (fun _ => Value.int 0) (0 : Int32).toInt.toNat (0 : Int32).toInt.toNat (1 : Int32).toInt.toNat) (3 : Int32).toInt.toNat (Value.int 0)) (3 : Int32).toInt.toNat (Value.int 0)) (2 : Int32).toInt.toNat (Value.int 8)) (0 : Int32).toInt.toNat (Value.int 0)) (1 : Int32).toInt.toNat (Value.int 0)))).set 137 (Sum.inr (13, [Value.ref 138, Value.int 3]))).set h1 (Sum.inl (0, 140, xcp (xup (xup (xup (xup (xup (xcp g1 (fun _ => Value.int 0) (0 : Int32).toInt.toNat (0 : Int32).toInt.toNat (1 : Int32).toInt.toNat) (3 : Int32).toInt.toNat (Value.int 0)) (3 : Int32).toInt.toNat (Value.int 0)) (2 : Int32).toInt.toNat (Value.int 8)) (0 : Int32).toInt.toNat (Value.int 0)) (1 : Int32).toInt.toNat (Value.int 0)) (fun _ => Value.int 0) (0 : Int32).toInt.toNat (0 : Int32).toInt.toNat (3 : Int32).toInt.toNat))).set h0 (Sum.inr (13, [Value.ref h1, Value.int 3]))).set 154 (Sum.inl (0, 17, xup (fun _ => Value.int 0) a0.toInt.toNat (Value.int 3)))).set 155 (Sum.inl (0, 17, xup (fun _ => Value.int 0) a0.toInt.toNat (Value.int (-16384))))) := by
  refine xRun.of ?_
  refine i_192_0 (x := 128) rfl ?_
  refine i_192_1 (v := Value.ref 153) hw0 rfl ?_
  refine i_192_4 (x := a0) rfl ?_
  refine i_192_5 (v := Value.int 64) hw1 e2 e3 hg4 ?_
  refine i_192_6 (lv2 := [(4, Value.int 64), (0, Value.ref 128), (1, Value.int a0), (2, Value.ref 151), (3, Value.int (-16385))]) rfl ?_
  refine i_192_8 (x := 151) rfl ?_
  refine i_192_9 hw5 (Nat.le_of_ble_eq_true rfl) (s_181_1 hw5 hw6 hg7) ?_
  refine i_192_12 (lv2 := [(5, Value.int 1), (4, Value.int 64), (0, Value.ref 128), (1, Value.int a0), (2, Value.ref 151), (3, Value.int (-16385))]) rfl ?_
  refine i_192_14 (x := 128) rfl ?_
  refine i_192_15 (v := Value.ref 157) hw0 rfl ?_
  refine i_192_18 (x := a0) rfl ?_
  refine i_192_19 (v := Value.ref h0) hw8 e2 e3 hg9 ?_
  refine i_192_20 ?_
  refine i_192_21 hw10 (Nat.le_of_ble_eq_true rfl) (s_179_1 hw10 e11) ?_
  refine i_192_24 (x := 1) rfl ?_
  refine i_192_26 (x := 64) rfl ?_
  refine i_192_28 (fun _ => ?_) (fun h => absurd h (by decide))
  refine i_192_67 (x := 128) rfl ?_
  refine i_192_68 (v := Value.ref 137) (xgn e12 hw0) rfl ?_
  refine i_192_71 (x := 151) rfl ?_
  refine i_192_72 (xgn e13 hw14) (Nat.le_of_ble_eq_true rfl) (s_182_5 (xgn e15 hw5) (xgn e13 hw14) (xgn e16 hw6) (xgn e17 hw18) hg7) ?_
  refine i_192_75 (x := 128) rfl ?_
  refine i_192_76 (v := Value.ref 137) (xgn (by decide) (xgn (by decide) (xgn e12 hw0))) rfl ?_
  refine i_192_79 (x := 64) rfl ?_
  refine i_192_81 (x := 1) rfl ?_
  refine i_192_83 (c := 63) (by decide) ?_
  refine i_192_84 (xgs (xgn (by decide) (xgn e13 hw14))) (Nat.le_of_ble_eq_true rfl) (s_188_7 (xgs (xgn (by decide) (xgn e13 hw14))) (xgn (by decide) (xgs (xgn e17 hw18))) (xcp_i rfl hg7)) ?_
  refine i_192_87 (x := 128) rfl ?_
  refine i_192_88 (v := Value.ref 157) (xgn (by decide) (xgn (by decide) (xgn (by decide) (xgn (by decide) (xgn e12 hw0))))) rfl ?_
  refine i_192_91 (x := a0) rfl ?_
  refine i_192_92 (v := Value.ref h0) (xgn (by decide) (xgn (by decide) (xgn (by decide) (xgn (by decide) (xgn e19 hw8))))) e2 e3 hg9 ?_
  refine i_192_93 (x := 128) rfl ?_
  refine i_192_94 (v := Value.ref 137) (xgn (by decide) (xgn (by decide) (xgn (by decide) (xgn (by decide) (xgn e12 hw0))))) rfl ?_
  refine i_192_97 (xgn e20 (xgn e21 (xgn e20 (xgn e21 (xgs hw10))))) (Nat.le_of_ble_eq_true rfl) (s_182_6 (xgs (xgn (by decide) (xgs (xgn (by decide) (xgn e13 hw14))))) (xgn e20 (xgn e21 (xgn e20 (xgn e21 (xgs hw10))))) (xgn (by decide) (xgs (xgn (by decide) (xgs (xgn e17 hw18))))) (xgn e22 (xgn e23 (xgn e22 (xgn e23 (xgn e24 hw25))))) (xup_n (by decide) xup_s) xup_s (xup_n (by decide) (xup_n (by decide) xup_s)) e26 e27 e28 e11) ?_
  refine i_192_100 (x := 128) rfl ?_
  refine i_192_101 (v := Value.ref 154) (xgn e12 (xgn e29 (xgn (by decide) (xgn (by decide) (xgn (by decide) (xgn (by decide) (xgn e12 hw0))))))) rfl ?_
  refine i_192_104 (x := a0) rfl ?_
  refine i_192_105 ?_
  refine i_192_106 (v := Value.int 3) (xgn e30 (xgn e31 (xgn (by decide) (xgn (by decide) (xgn (by decide) (xgn (by decide) (xgn e30 hw32))))))) e2 e3 (by decide) rfl ?_
  refine i_192_107 (x := 128) rfl ?_
  refine i_192_108 (v := Value.ref 155) (xgn (by decide) (xgn e12 (xgn e29 (xgn (by decide) (xgn (by decide) (xgn (by decide) (xgn (by decide) (xgn e12 hw0)))))))) rfl ?_
  refine i_192_111 (x := a0) rfl ?_
  refine i_192_112 (x := 1) rfl ?_
  refine i_192_114 (x := (-16385)) rfl ?_
  refine i_192_115 (c := (-16384)) (by decide) ?_
  refine i_192_116 (v := Value.int (-16384)) (xgn (by decide) (xgn e33 (xgn e34 (xgn (by decide) (xgn (by decide) (xgn (by decide) (xgn (by decide) (xgn e33 hw35)))))))) e2 e3 (by decide) rfl ?_
  exact i_192_117 ⟨rfl, rfl⟩
theorem sf0_5 {d : Nat} {xs : Nat → Int32} {m : Int64} {sc md : Int32} {w : xW} {B E U C q0 q1 q2 nn : Int32} {g : Nat → Value} (hk : ∀ h, 131 ≤ h → h < 194 → h ≠ 135 → h ≠ 136 → h ≠ 156 → w[h]? = (W0 6 xs)[h]?) (hm : w[128]? = some (Sum.inr (12, [Value.ref 129, Value.ref 131, Value.ref 133, Value.ref 135, Value.ref 137, Value.ref 139, Value.ref 141, Value.ref 143, Value.ref 145, Value.ref 147, Value.ref 149, Value.ref 151, Value.ref 153, Value.ref 154, Value.ref 155, Value.ref 156, Value.ref 157, Value.int (-16384), Value.int 16384, Value.int 0, Value.int 0, Value.int 0, Value.ref 158, Value.ref 159, Value.int 0, Value.int 0, Value.int 0, Value.int 0, Value.int 0, Value.int 0, Value.int 0, Value.int 0]))) (hv : w[129]? = some (Sum.inr (13, [Value.ref 130, Value.int nn]))) (hq : w[135]? = some (Sum.inr (13, [Value.ref 136, Value.int 3]))) (hqw : w[136]? = some (Sum.inl (0, 4700, g))) (hg0 : g (0 : Int32).toInt.toNat = Value.int q0) (hg1 : g (1 : Int32).toInt.toNat = Value.int q1) (hg2 : g (2 : Int32).toInt.toNat = Value.int q2) (hn : w[156]? = some (Sum.inl (2, 17, xup (fun _ => Value.int 0) (xs 1).toInt.toNat (Value.int 0)))) (hbits : ∀ (d' : Nat) (w' : xW), w'[129]? = w[129]? → w'[130]? = w[130]? → xRun d' 181 [Value.ref 129] w' (.inl (some (Value.int B))) w') (hany0 : xPW m → ∀ (d' : Nat) (w' : xW), w'[129]? = w[129]? → w'[130]? = w[130]? → xRun d' 183 [Value.ref 129, Value.int (B - (1 : Int32))] w' (.inl (some (Value.int 0))) w') (hany1 : ¬ xPW m → ∀ (d' : Nat) (w' : xW), w'[129]? = w[129]? → w'[130]? = w[130]? → xRun d' 183 [Value.ref 129, Value.int (B - (1 : Int32))] w' (.inl (some (Value.int 1))) w') (c0 : 0 ≤ (xs 1).toInt) (c1 : (xs 1).toInt < 16) (c2 : (-40000) ≤ sc.toInt) (c3 : sc.toInt ≤ 40000) (c4 : 0 ≤ md.toInt) (c5 : md.toInt ≤ 4) (c6 : 1 ≤ B.toInt) (c7 : B.toInt ≤ 64) (c8 : E.toInt = B.toInt + sc.toInt) (c9 : U.toInt = E.toInt - 64) (c10 : 0 ≤ q2.toInt) (c11 : (xbn q2).toInt = 4) (c12 : E.toInt ≤ 16384) (c13 : E.toInt < (-16384)) (c14 : E.toInt = (-16385)) (c15 : xPW m) (c16 : md.toInt = 4) : ∃ w2, xEv (d + 6) 180 207 [(14, Value.int 0), (13, Value.int E), (12, Value.int 1), (11, Value.int 0), (10, Value.int C), (9, Value.int U), (8, Value.int E), (7, Value.int 64), (0, Value.ref 128), (1, Value.int (xs 1)), (2, Value.ref 129), (3, Value.int sc), (4, Value.int 0), (5, Value.int 0), (6, Value.int md)] [] w (fun o' w' => o' = .inl (some (Value.int 1)) ∧ w' = w2) ∧ xKp w w2 xPM ∧ w2[128]? = some (Sum.inr (12, [Value.ref 129, Value.ref 131, Value.ref 133, Value.ref 135, Value.ref 137, Value.ref 139, Value.ref 141, Value.ref 143, Value.ref 145, Value.ref 147, Value.ref 149, Value.ref 151, Value.ref 153, Value.ref 154, Value.ref 155, Value.ref 156, Value.ref 157, Value.int (-16384), Value.int 16384, Value.int 5, Value.int 0, Value.int 0, Value.ref 158, Value.ref 159, Value.int 0, Value.int 0, Value.int 0, Value.int 0, Value.int 0, Value.int 0, Value.int 0, Value.int 0])) := by
  refine ⟨(((((((((((((((w.set 128 (Sum.inr (12, [Value.ref 129, Value.ref 131, Value.ref 133, Value.ref 135, Value.ref 137, Value.ref 139, Value.ref 141, Value.ref 143, Value.ref 145, Value.ref 147, Value.ref 149, Value.ref 151, Value.ref 153, Value.ref 154, Value.ref 155, Value.ref 156, Value.ref 157, Value.int (-16384), Value.int 16384, Value.int 4, Value.int 0, Value.int 0, Value.ref 158, Value.ref 159, Value.int 0, Value.int 0, Value.int 0, Value.int 0, Value.int 0, Value.int 0, Value.int 0, Value.int 0]))).set 151 (Sum.inr (13, [Value.ref 152, Value.int 0]))).set 152 (Sum.inl (0, 4700, xup (fun _ => Value.int 0) (0 : Int32).toInt.toNat (Value.int 1)))).set 151 (Sum.inr (13, [Value.ref 152, Value.int 1]))).set (160 + 2 * (xs 1).toInt.toNat) (Sum.inr (13, [Value.ref (161 + 2 * (xs 1).toInt.toNat), Value.int 0]))).set 138 (Sum.inl (0, 4700, xcp (xup (fun _ => Value.int 0) (0 : Int32).toInt.toNat (Value.int 1)) (fun _ => Value.int 0) (0 : Int32).toInt.toNat (0 : Int32).toInt.toNat (1 : Int32).toInt.toNat))).set 137 (Sum.inr (13, [Value.ref 138, Value.int 1]))).set 138 (Sum.inl (0, 4700, xup (xup (xup (xup (xup (xcp (xup (fun _ => Value.int 0) (0 : Int32).toInt.toNat (Value.int 1)) (fun _ => Value.int 0) (0 : Int32).toInt.toNat (0 : Int32).toInt.toNat (1 : Int32).toInt.toNat) (3 : Int32).toInt.toNat (Value.int 0)) (3 : Int32).toInt.toNat (Value.int 0)) (2 : Int32).toInt.toNat (Value.int 8)) (0 : Int32).toInt.toNat (Value.int 0)) (1 : Int32).toInt.toNat (Value.int 0)))).set 137 (Sum.inr (13, [Value.ref 138, Value.int 3]))).set (161 + 2 * (xs 1).toInt.toNat) (Sum.inl (0, 140, xcp (xup (xup (xup (xup (xup (xcp (xup (fun _ => Value.int 0) (0 : Int32).toInt.toNat (Value.int 1)) (fun _ => Value.int 0) (0 : Int32).toInt.toNat (0 : Int32).toInt.toNat (1 : Int32).toInt.toNat) (3 : Int32).toInt.toNat (Value.int 0)) (3 : Int32).toInt.toNat (Value.int 0)) (2 : Int32).toInt.toNat (Value.int 8)) (0 : Int32).toInt.toNat (Value.int 0)) (1 : Int32).toInt.toNat (Value.int 0)) (fun _ => Value.int 0) (0 : Int32).toInt.toNat (0 : Int32).toInt.toNat (3 : Int32).toInt.toNat))).set (160 + 2 * (xs 1).toInt.toNat) (Sum.inr (13, [Value.ref (161 + 2 * (xs 1).toInt.toNat), Value.int 3]))).set 154 (Sum.inl (0, 17, xup (fun _ => Value.int 0) (xs 1).toInt.toNat (Value.int 3)))).set 155 (Sum.inl (0, 17, xup (fun _ => Value.int 0) (xs 1).toInt.toNat (Value.int (-16384))))).set 156 (Sum.inl (2, 17, xup (xup (fun _ => Value.int 0) (xs 1).toInt.toNat (Value.int 0)) (xs 1).toInt.toNat (Value.int 0)))).set 128 (Sum.inr (12, [Value.ref 129, Value.ref 131, Value.ref 133, Value.ref 135, Value.ref 137, Value.ref 139, Value.ref 141, Value.ref 143, Value.ref 145, Value.ref 147, Value.ref 149, Value.ref 151, Value.ref 153, Value.ref 154, Value.ref 155, Value.ref 156, Value.ref 157, Value.int (-16384), Value.int 16384, Value.int 5, Value.int 0, Value.int 0, Value.ref 158, Value.ref 159, Value.int 0, Value.int 0, Value.int 0, Value.int 0, Value.int 0, Value.int 0, Value.int 0, Value.int 0]))), ?_, ?_, xgs (xgn (by decide) (xgn (by decide) (xgn (by decide) (xgn (by omega) (xgn (by omega) (xgn (by decide) (xgn (by decide) (xgn (by decide) (xgn (by decide) (xgn (by omega) (xgn (by decide) (xgn (by decide) (xgn (by decide) (xgs hm))))))))))))))⟩
  · refine i_180_207 (x := 128) rfl ?_
    refine i_180_208 (v := Value.int 0) hm rfl ?_
    refine i_180_211 (fun h => absurd h (by decide)) (fun _ => ?_)
    refine i_180_214 (x := 128) rfl ?_
    refine i_180_215 (v := Value.ref 135) hm rfl ?_
    refine i_180_218 (v := Value.int 3) hq rfl ?_
    refine i_180_221 (fun h => absurd h (by decide)) (fun _ => ?_)
    refine i_180_224 (x := E) rfl ?_
    refine i_180_226 (x := 128) rfl ?_
    refine i_180_227 (v := Value.int 16384) hm rfl ?_
    refine i_180_230 (fun _ => ?_) (fun h => absurd (show E.toInt ≤ 16384 by omega) (Int.not_le.mpr h))
    refine i_180_367 (x := 128) rfl ?_
    refine i_180_368 (v := Value.ref 135) hm rfl ?_
    refine i_180_371 (v := Value.int 3) hq rfl ?_
    refine i_180_374 (fun _ => ?_) (fun h => absurd h (by decide))
    refine i_180_392 (x := 128) rfl ?_
    refine i_180_393 (v := Value.int 0) hm rfl ?_
    refine i_180_396 (fun h => absurd h (by decide)) (fun _ => ?_)
    refine i_180_399 (x := 128) rfl ?_
    refine i_180_400 (v := Value.int 0) hm rfl ?_
    refine i_180_403 (fun h => absurd h (by decide)) (fun _ => ?_)
    refine i_180_406 (x := E) rfl ?_
    refine i_180_408 (x := 128) rfl ?_
    refine i_180_409 (v := Value.int (-16384)) hm rfl ?_
    refine i_180_412 (fun h => absurd (show E.toInt < (-16384) by omega) (Int.not_lt.mpr h)) (fun _ => ?_)
    refine i_180_415 (x := 128) rfl ?_
    refine i_180_416 rfl ?_
    refine i_180_417 (v := Value.int 0) hm rfl ?_
    refine i_180_420 ?_
    refine i_180_421 (c := 4) (by decide) ?_
    refine i_180_422 (fs2 := [Value.ref 129, Value.ref 131, Value.ref 133, Value.ref 135, Value.ref 137, Value.ref 139, Value.ref 141, Value.ref 143, Value.ref 145, Value.ref 147, Value.ref 149, Value.ref 151, Value.ref 153, Value.ref 154, Value.ref 155, Value.ref 156, Value.ref 157, Value.int (-16384), Value.int 16384, Value.int 4, Value.int 0, Value.int 0, Value.ref 158, Value.ref 159, Value.int 0, Value.int 0, Value.int 0, Value.int 0, Value.int 0, Value.int 0, Value.int 0, Value.int 0]) hm (Nat.le_of_ble_eq_true rfl) rfl (by omega) ?_
    refine i_180_425 (x := E) rfl ?_
    refine i_180_427 (x := 128) rfl ?_
    refine i_180_428 (v := Value.int (-16384)) (xgs hm) rfl ?_
    refine i_180_431 ?_
    refine i_180_432 (c := (-16385)) (by decide) ?_
    refine i_180_433 (fun h => absurd (show E.toInt ≤ (-16385) by omega) (Int.not_le.mpr h)) (fun _ => ?_)
    refine i_180_436 (x := E) rfl ?_
    refine i_180_438 (x := 128) rfl ?_
    refine i_180_439 (v := Value.int (-16384)) (xgs hm) rfl ?_
    refine i_180_442 ?_
    refine i_180_443 (c := (-16385)) (by decide) ?_
    refine i_180_444 (fun h => absurd (show E.toInt = (-16385) by omega) h) (fun _ => ?_)
    refine i_180_447 (x := 0) rfl ?_
    refine i_180_449 (fun h => absurd h (by decide)) (fun _ => ?_)
    refine i_180_452 (x := 129) rfl ?_
    refine i_180_453 (x := 129) rfl ?_
    refine i_180_454 (xgn (by decide) hv) (Nat.le_of_ble_eq_true rfl) (hbits _ _ (xgn (by omega) (rfl)) (xgn (by omega) (rfl))) ?_
    refine i_180_457 ?_
    refine i_180_458 (c := (B - (1 : Int32))) rfl ?_
    refine i_180_459 (xgn (by decide) hv) (Nat.le_of_ble_eq_true rfl) (hany0 c15 _ _ (xgn (by omega) (rfl)) (xgn (by omega) (rfl))) ?_
    refine i_180_462 (fun _ => ?_) (fun h => absurd h (by decide))
    refine i_180_469 ?_
    refine i_180_470 (lv2 := [(15, Value.int 0), (14, Value.int 0), (13, Value.int E), (12, Value.int 1), (11, Value.int 0), (10, Value.int C), (9, Value.int U), (8, Value.int E), (7, Value.int 64), (0, Value.ref 128), (1, Value.int (xs 1)), (2, Value.ref 129), (3, Value.int sc), (4, Value.int 0), (5, Value.int 0), (6, Value.int md)]) rfl ?_
    refine i_180_472 (x := md) rfl ?_
    refine i_180_474 ?_
    refine i_180_475 (fun _ => ?_) (fun h => absurd (show md.toInt = 4 by omega) h)
    refine i_180_510 ?_
    refine i_180_511 ?_
    refine i_180_515 (lv2 := [(16, Value.int 1), (15, Value.int 0), (14, Value.int 0), (13, Value.int E), (12, Value.int 1), (11, Value.int 0), (10, Value.int C), (9, Value.int U), (8, Value.int E), (7, Value.int 64), (0, Value.ref 128), (1, Value.int (xs 1)), (2, Value.ref 129), (3, Value.int sc), (4, Value.int 0), (5, Value.int 0), (6, Value.int md)]) rfl ?_
    refine i_180_517 (x := 1) rfl ?_
    refine i_180_519 (fun h => absurd h (by decide)) (fun _ => ?_)
    refine i_180_522 (x := 128) rfl ?_
    refine i_180_523 (v := Value.ref 151) (xgs hm) rfl ?_
    refine i_180_526 ?_
    refine i_180_527 (xgn (by decide) (((hk 151 (by decide) (by decide) (by decide) (by decide) (by decide)).trans W0_151))) (Nat.le_of_ble_eq_true rfl) (s_179_2 (xgn (by decide) (((hk 151 (by decide) (by decide) (by decide) (by decide) (by decide)).trans W0_151))) (xgn (by decide) (((hk 152 (by decide) (by decide) (by decide) (by decide) (by decide)).trans W0_152)))) ?_
    refine i_180_530 (x := 128) rfl ?_
    refine i_180_531 (x := (xs 1)) rfl ?_
    refine i_180_532 (x := 128) rfl ?_
    refine i_180_533 (v := Value.ref 151) (xgn (by decide) (xgn (by decide) (xgn (by decide) (xgs hm)))) rfl ?_
    refine i_180_536 (x := 128) rfl ?_
    refine i_180_537 (v := Value.int (-16384)) (xgn (by decide) (xgn (by decide) (xgn (by decide) (xgs hm)))) rfl ?_
    refine i_180_540 ?_
    refine i_180_541 (c := (-16385)) (by decide) ?_
    refine i_180_542 (xgn (by decide) (xgn (by decide) (xgn (by decide) (xgs hm)))) (Nat.le_of_ble_eq_true rfl) (s_192_1 (xgn (by decide) (xgn (by decide) (xgn (by decide) (xgs hm)))) (xgn (by decide) (xgn (by decide) (xgn (by decide) (xgn (by decide) (((hk 153 (by decide) (by decide) (by decide) (by decide) (by decide)).trans W0_153)))))) (by omega) (by omega) (gprec_at (by omega)) (xgs (xgn (by decide) (xgs (xgn (by decide) (((hk 151 (by decide) (by decide) (by decide) (by decide) (by decide)).trans W0_151)))))) (xgn (by decide) (xgs (xgn (by decide) (xgn (by decide) (((hk 152 (by decide) (by decide) (by decide) (by decide) (by decide)).trans W0_152)))))) xup_s (xgn (by decide) (xgn (by decide) (xgn (by decide) (xgn (by decide) (((hk 157 (by decide) (by decide) (by decide) (by decide) (by decide)).trans W0_157)))))) (gpart_at (by omega)) (xgn (by omega) (xgn (by omega) (xgn (by omega) (xgn (by omega) (((hk _ (by omega) (by omega) (by omega) (by omega) (by omega)).trans (W0_part (by omega)))))))) (by omega) (by omega) (by omega) (xgn (by decide) (xgn (by decide) (xgn (by decide) (xgn (by decide) (((hk 137 (by decide) (by decide) (by decide) (by decide) (by decide)).trans W0_137)))))) (by omega) (by omega) (by omega) (xgn (by decide) (xgn (by decide) (xgn (by decide) (xgn (by decide) (((hk 138 (by decide) (by decide) (by decide) (by decide) (by decide)).trans W0_138)))))) (by omega) (by omega) (by omega) (by omega) (by omega) (by omega) (xgn (by omega) (xgn (by omega) (xgn (by omega) (xgn (by omega) (((hk _ (by omega) (by omega) (by omega) (by omega) (by omega)).trans (W0_pw (by omega)))))))) (by omega) (by omega) (by omega) (by omega) (by omega) (by omega) (xgn (by decide) (xgn (by decide) (xgn (by decide) (xgn (by decide) (((hk 154 (by decide) (by decide) (by decide) (by decide) (by decide)).trans W0_154)))))) (by omega) (by omega) (xgn (by decide) (xgn (by decide) (xgn (by decide) (xgn (by decide) (((hk 155 (by decide) (by decide) (by decide) (by decide) (by decide)).trans W0_155))))))) ?_
    refine i_180_545 (x := 128) rfl ?_
    refine i_180_546 (v := Value.ref 156) (xgn (by decide) (xgn (by decide) (xgn (by omega) (xgn (by omega) (xgn (by decide) (xgn (by decide) (xgn (by decide) (xgn (by decide) (xgn (by omega) (xgn (by decide) (xgn (by decide) (xgn (by decide) (xgs hm))))))))))))) rfl ?_
    refine i_180_549 (x := (xs 1)) rfl ?_
    refine i_180_550 (x := 0) rfl ?_
    refine i_180_552z (v := Value.int 0) (xgn (by decide) (xgn (by decide) (xgn (by omega) (xgn (by omega) (xgn (by decide) (xgn (by decide) (xgn (by decide) (xgn (by decide) (xgn (by omega) (xgn (by decide) (xgn (by decide) (xgn (by decide) (xgn (by decide) hn))))))))))))) (by omega) (by omega) (by omega) rfl ?_
    refine i_180_553 ?_
    refine i_180_565 (x := 1) rfl ?_
    refine i_180_567 (fun h => absurd h (by decide)) (fun _ => ?_)
    refine i_180_570 ?_
    refine i_180_571 ?_
    refine i_180_575 (lv2 := [(14, Value.int 1), (16, Value.int 1), (15, Value.int 0), (13, Value.int E), (12, Value.int 1), (11, Value.int 0), (10, Value.int C), (9, Value.int U), (8, Value.int E), (7, Value.int 64), (0, Value.ref 128), (1, Value.int (xs 1)), (2, Value.ref 129), (3, Value.int sc), (4, Value.int 0), (5, Value.int 0), (6, Value.int md)]) rfl ?_
    refine i_180_577 ?_
    refine i_180_591 (x := 128) rfl ?_
    refine i_180_592 (v := Value.int 0) (xgn (by decide) (xgn (by decide) (xgn (by decide) (xgn (by omega) (xgn (by omega) (xgn (by decide) (xgn (by decide) (xgn (by decide) (xgn (by decide) (xgn (by omega) (xgn (by decide) (xgn (by decide) (xgn (by decide) (xgs hm)))))))))))))) rfl ?_
    refine i_180_595 (fun h => absurd h (by decide)) (fun _ => ?_)
    refine i_180_598 (x := 128) rfl ?_
    refine i_180_599 (v := Value.int 0) (xgn (by decide) (xgn (by decide) (xgn (by decide) (xgn (by omega) (xgn (by omega) (xgn (by decide) (xgn (by decide) (xgn (by decide) (xgn (by decide) (xgn (by omega) (xgn (by decide) (xgn (by decide) (xgn (by decide) (xgs hm)))))))))))))) rfl ?_
    refine i_180_602 (fun _ => ?_) (fun h => absurd h (by decide))
    refine i_180_629 (x := 1) rfl ?_
    refine i_180_631 (fun h => absurd h (by decide)) (fun _ => ?_)
    refine i_180_634 (x := 128) rfl ?_
    refine i_180_635 rfl ?_
    refine i_180_636 (v := Value.int 4) (xgn (by decide) (xgn (by decide) (xgn (by decide) (xgn (by omega) (xgn (by omega) (xgn (by decide) (xgn (by decide) (xgn (by decide) (xgn (by decide) (xgn (by omega) (xgn (by decide) (xgn (by decide) (xgn (by decide) (xgs hm)))))))))))))) rfl ?_
    refine i_180_639 ?_
    refine i_180_640 (c := 5) (by decide) ?_
    refine i_180_641 (fs2 := [Value.ref 129, Value.ref 131, Value.ref 133, Value.ref 135, Value.ref 137, Value.ref 139, Value.ref 141, Value.ref 143, Value.ref 145, Value.ref 147, Value.ref 149, Value.ref 151, Value.ref 153, Value.ref 154, Value.ref 155, Value.ref 156, Value.ref 157, Value.int (-16384), Value.int 16384, Value.int 5, Value.int 0, Value.int 0, Value.ref 158, Value.ref 159, Value.int 0, Value.int 0, Value.int 0, Value.int 0, Value.int 0, Value.int 0, Value.int 0, Value.int 0]) (xgn (by decide) (xgn (by decide) (xgn (by decide) (xgn (by omega) (xgn (by omega) (xgn (by decide) (xgn (by decide) (xgn (by decide) (xgn (by decide) (xgn (by omega) (xgn (by decide) (xgn (by decide) (xgn (by decide) (xgs hm)))))))))))))) (Nat.le_of_ble_eq_true rfl) rfl (by omega) ?_
    refine i_180_644 (x := 0) rfl ?_
    refine i_180_646 (fun _ => ?_) (fun h => absurd h (by decide))
    refine i_180_655 (x := 1) rfl ?_
    exact i_180_657 ⟨rfl, rfl⟩
  · refine xKp.set ?_ (fun h hh => by unfold xPM at hh; omega) (xgn (by decide) (xgn (by decide) (xgn (by decide) (xgn (by omega) (xgn (by omega) (xgn (by decide) (xgn (by decide) (xgn (by decide) (xgn (by decide) (xgn (by omega) (xgn (by decide) (xgn (by decide) (xgn (by decide) (xgs hm)))))))))))))) xcs_o
    refine xKp.set ?_ (fun h hh => by unfold xPM at hh; omega) (xgn (by decide) (xgn (by decide) (xgn (by omega) (xgn (by omega) (xgn (by decide) (xgn (by decide) (xgn (by decide) (xgn (by decide) (xgn (by omega) (xgn (by decide) (xgn (by decide) (xgn (by decide) (xgn (by decide) hn))))))))))))) xcs_a
    refine xKp.set ?_ (fun h hh => by unfold xPM at hh; omega) (xgn (by decide) (xgn (by omega) (xgn (by omega) (xgn (by decide) (xgn (by decide) (xgn (by decide) (xgn (by decide) (xgn (by omega) (xgn (by decide) (xgn (by decide) (xgn (by decide) (xgn (by decide) (((hk 155 (by decide) (by decide) (by decide) (by decide) (by decide)).trans W0_155)))))))))))))) xcs_a
    refine xKp.set ?_ (fun h hh => by unfold xPM at hh; omega) (xgn (by omega) (xgn (by omega) (xgn (by decide) (xgn (by decide) (xgn (by decide) (xgn (by decide) (xgn (by omega) (xgn (by decide) (xgn (by decide) (xgn (by decide) (xgn (by decide) (((hk 154 (by decide) (by decide) (by decide) (by decide) (by decide)).trans W0_154))))))))))))) xcs_a
    refine xKp.set ?_ (fun h hh => by unfold xPM at hh; omega) (xgn (by omega) (xgn (by omega) (xgn (by omega) (xgn (by omega) (xgn (by omega) (xgs (xgn (by omega) (xgn (by omega) (xgn (by omega) (xgn (by omega) (((hk _ (by omega) (by omega) (by omega) (by omega) (by omega)).trans (W0_part (by omega)))))))))))))) xcs_o
    refine xKp.set ?_ (fun h hh => by unfold xPM at hh; omega) (xgn (by omega) (xgn (by omega) (xgn (by omega) (xgn (by omega) (xgn (by omega) (xgn (by omega) (xgn (by omega) (xgn (by omega) (xgn (by omega) (((hk _ (by omega) (by omega) (by omega) (by omega) (by omega)).trans (W0_pw (by omega))))))))))))) xcs_a
    refine xKp.set ?_ (fun h hh => by unfold xPM at hh; omega) (xgn (by decide) (xgs (xgn (by decide) (xgn (by omega) (xgn (by decide) (xgn (by decide) (xgn (by decide) (xgn (by decide) (((hk 137 (by decide) (by decide) (by decide) (by decide) (by decide)).trans W0_137)))))))))) xcs_o
    refine xKp.set ?_ (fun h hh => by unfold xPM at hh; omega) (xgn (by decide) (xgs (xgn (by omega) (xgn (by decide) (xgn (by decide) (xgn (by decide) (xgn (by decide) (((hk 138 (by decide) (by decide) (by decide) (by decide) (by decide)).trans W0_138))))))))) xcs_a
    refine xKp.set ?_ (fun h hh => by unfold xPM at hh; omega) (xgn (by decide) (xgn (by omega) (xgn (by decide) (xgn (by decide) (xgn (by decide) (xgn (by decide) (((hk 137 (by decide) (by decide) (by decide) (by decide) (by decide)).trans W0_137)))))))) xcs_o
    refine xKp.set ?_ (fun h hh => by unfold xPM at hh; omega) (xgn (by omega) (xgn (by decide) (xgn (by decide) (xgn (by decide) (xgn (by decide) (((hk 138 (by decide) (by decide) (by decide) (by decide) (by decide)).trans W0_138))))))) xcs_a
    refine xKp.set ?_ (fun h hh => by unfold xPM at hh; omega) (xgn (by omega) (xgn (by omega) (xgn (by omega) (xgn (by omega) (((hk _ (by omega) (by omega) (by omega) (by omega) (by omega)).trans (W0_part (by omega)))))))) xcs_o
    refine xKp.set ?_ (fun h hh => by unfold xPM at hh; omega) (xgn (by decide) (xgs (xgn (by decide) (((hk 151 (by decide) (by decide) (by decide) (by decide) (by decide)).trans W0_151))))) xcs_o
    refine xKp.set ?_ (fun h hh => by unfold xPM at hh; omega) (xgn (by decide) (xgn (by decide) (((hk 152 (by decide) (by decide) (by decide) (by decide) (by decide)).trans W0_152)))) xcs_a
    refine xKp.set ?_ (fun h hh => by unfold xPM at hh; omega) (xgn (by decide) (((hk 151 (by decide) (by decide) (by decide) (by decide) (by decide)).trans W0_151))) xcs_o
    refine xKp.set ?_ (fun h hh => by unfold xPM at hh; omega) (hm) xcs_o
    exact xKp.refl
theorem sf0_6 {d : Nat} {xs : Nat → Int32} {m : Int64} {sc md : Int32} {w : xW} {B E U C q0 q1 q2 nn : Int32} {g : Nat → Value} (hk : ∀ h, 131 ≤ h → h < 194 → h ≠ 135 → h ≠ 136 → h ≠ 156 → w[h]? = (W0 6 xs)[h]?) (hm : w[128]? = some (Sum.inr (12, [Value.ref 129, Value.ref 131, Value.ref 133, Value.ref 135, Value.ref 137, Value.ref 139, Value.ref 141, Value.ref 143, Value.ref 145, Value.ref 147, Value.ref 149, Value.ref 151, Value.ref 153, Value.ref 154, Value.ref 155, Value.ref 156, Value.ref 157, Value.int (-16384), Value.int 16384, Value.int 0, Value.int 0, Value.int 0, Value.ref 158, Value.ref 159, Value.int 0, Value.int 0, Value.int 0, Value.int 0, Value.int 0, Value.int 0, Value.int 0, Value.int 0]))) (hv : w[129]? = some (Sum.inr (13, [Value.ref 130, Value.int nn]))) (hq : w[135]? = some (Sum.inr (13, [Value.ref 136, Value.int 3]))) (hqw : w[136]? = some (Sum.inl (0, 4700, g))) (hg0 : g (0 : Int32).toInt.toNat = Value.int q0) (hg1 : g (1 : Int32).toInt.toNat = Value.int q1) (hg2 : g (2 : Int32).toInt.toNat = Value.int q2) (hn : w[156]? = some (Sum.inl (2, 17, xup (fun _ => Value.int 0) (xs 1).toInt.toNat (Value.int 0)))) (hbits : ∀ (d' : Nat) (w' : xW), w'[129]? = w[129]? → w'[130]? = w[130]? → xRun d' 181 [Value.ref 129] w' (.inl (some (Value.int B))) w') (hany0 : xPW m → ∀ (d' : Nat) (w' : xW), w'[129]? = w[129]? → w'[130]? = w[130]? → xRun d' 183 [Value.ref 129, Value.int (B - (1 : Int32))] w' (.inl (some (Value.int 0))) w') (hany1 : ¬ xPW m → ∀ (d' : Nat) (w' : xW), w'[129]? = w[129]? → w'[130]? = w[130]? → xRun d' 183 [Value.ref 129, Value.int (B - (1 : Int32))] w' (.inl (some (Value.int 1))) w') (c0 : 0 ≤ (xs 1).toInt) (c1 : (xs 1).toInt < 16) (c2 : (-40000) ≤ sc.toInt) (c3 : sc.toInt ≤ 40000) (c4 : 0 ≤ md.toInt) (c5 : md.toInt ≤ 4) (c6 : 1 ≤ B.toInt) (c7 : B.toInt ≤ 64) (c8 : E.toInt = B.toInt + sc.toInt) (c9 : U.toInt = E.toInt - 64) (c10 : 0 ≤ q2.toInt) (c11 : (xbn q2).toInt = 4) (c12 : E.toInt ≤ 16384) (c13 : E.toInt < (-16384)) (c14 : E.toInt = (-16385)) (c15 : xPW m) (c16 : md.toInt ≠ 4) (c17 : md.toInt = 2) : ∃ w2, xEv (d + 6) 180 207 [(14, Value.int 0), (13, Value.int E), (12, Value.int 1), (11, Value.int 0), (10, Value.int C), (9, Value.int U), (8, Value.int E), (7, Value.int 64), (0, Value.ref 128), (1, Value.int (xs 1)), (2, Value.ref 129), (3, Value.int sc), (4, Value.int 0), (5, Value.int 0), (6, Value.int md)] [] w (fun o' w' => o' = .inl (some (Value.int 1)) ∧ w' = w2) ∧ xKp w w2 xPM ∧ w2[128]? = some (Sum.inr (12, [Value.ref 129, Value.ref 131, Value.ref 133, Value.ref 135, Value.ref 137, Value.ref 139, Value.ref 141, Value.ref 143, Value.ref 145, Value.ref 147, Value.ref 149, Value.ref 151, Value.ref 153, Value.ref 154, Value.ref 155, Value.ref 156, Value.ref 157, Value.int (-16384), Value.int 16384, Value.int 5, Value.int 0, Value.int 0, Value.ref 158, Value.ref 159, Value.int 0, Value.int 0, Value.int 0, Value.int 0, Value.int 0, Value.int 0, Value.int 0, Value.int 0])) := by
  refine ⟨(((((((((((((((w.set 128 (Sum.inr (12, [Value.ref 129, Value.ref 131, Value.ref 133, Value.ref 135, Value.ref 137, Value.ref 139, Value.ref 141, Value.ref 143, Value.ref 145, Value.ref 147, Value.ref 149, Value.ref 151, Value.ref 153, Value.ref 154, Value.ref 155, Value.ref 156, Value.ref 157, Value.int (-16384), Value.int 16384, Value.int 4, Value.int 0, Value.int 0, Value.ref 158, Value.ref 159, Value.int 0, Value.int 0, Value.int 0, Value.int 0, Value.int 0, Value.int 0, Value.int 0, Value.int 0]))).set 151 (Sum.inr (13, [Value.ref 152, Value.int 0]))).set 152 (Sum.inl (0, 4700, xup (fun _ => Value.int 0) (0 : Int32).toInt.toNat (Value.int 1)))).set 151 (Sum.inr (13, [Value.ref 152, Value.int 1]))).set (160 + 2 * (xs 1).toInt.toNat) (Sum.inr (13, [Value.ref (161 + 2 * (xs 1).toInt.toNat), Value.int 0]))).set 138 (Sum.inl (0, 4700, xcp (xup (fun _ => Value.int 0) (0 : Int32).toInt.toNat (Value.int 1)) (fun _ => Value.int 0) (0 : Int32).toInt.toNat (0 : Int32).toInt.toNat (1 : Int32).toInt.toNat))).set 137 (Sum.inr (13, [Value.ref 138, Value.int 1]))).set 138 (Sum.inl (0, 4700, xup (xup (xup (xup (xup (xcp (xup (fun _ => Value.int 0) (0 : Int32).toInt.toNat (Value.int 1)) (fun _ => Value.int 0) (0 : Int32).toInt.toNat (0 : Int32).toInt.toNat (1 : Int32).toInt.toNat) (3 : Int32).toInt.toNat (Value.int 0)) (3 : Int32).toInt.toNat (Value.int 0)) (2 : Int32).toInt.toNat (Value.int 8)) (0 : Int32).toInt.toNat (Value.int 0)) (1 : Int32).toInt.toNat (Value.int 0)))).set 137 (Sum.inr (13, [Value.ref 138, Value.int 3]))).set (161 + 2 * (xs 1).toInt.toNat) (Sum.inl (0, 140, xcp (xup (xup (xup (xup (xup (xcp (xup (fun _ => Value.int 0) (0 : Int32).toInt.toNat (Value.int 1)) (fun _ => Value.int 0) (0 : Int32).toInt.toNat (0 : Int32).toInt.toNat (1 : Int32).toInt.toNat) (3 : Int32).toInt.toNat (Value.int 0)) (3 : Int32).toInt.toNat (Value.int 0)) (2 : Int32).toInt.toNat (Value.int 8)) (0 : Int32).toInt.toNat (Value.int 0)) (1 : Int32).toInt.toNat (Value.int 0)) (fun _ => Value.int 0) (0 : Int32).toInt.toNat (0 : Int32).toInt.toNat (3 : Int32).toInt.toNat))).set (160 + 2 * (xs 1).toInt.toNat) (Sum.inr (13, [Value.ref (161 + 2 * (xs 1).toInt.toNat), Value.int 3]))).set 154 (Sum.inl (0, 17, xup (fun _ => Value.int 0) (xs 1).toInt.toNat (Value.int 3)))).set 155 (Sum.inl (0, 17, xup (fun _ => Value.int 0) (xs 1).toInt.toNat (Value.int (-16384))))).set 156 (Sum.inl (2, 17, xup (xup (fun _ => Value.int 0) (xs 1).toInt.toNat (Value.int 0)) (xs 1).toInt.toNat (Value.int 0)))).set 128 (Sum.inr (12, [Value.ref 129, Value.ref 131, Value.ref 133, Value.ref 135, Value.ref 137, Value.ref 139, Value.ref 141, Value.ref 143, Value.ref 145, Value.ref 147, Value.ref 149, Value.ref 151, Value.ref 153, Value.ref 154, Value.ref 155, Value.ref 156, Value.ref 157, Value.int (-16384), Value.int 16384, Value.int 5, Value.int 0, Value.int 0, Value.ref 158, Value.ref 159, Value.int 0, Value.int 0, Value.int 0, Value.int 0, Value.int 0, Value.int 0, Value.int 0, Value.int 0]))), ?_, ?_, xgs (xgn (by decide) (xgn (by decide) (xgn (by decide) (xgn (by omega) (xgn (by omega) (xgn (by decide) (xgn (by decide) (xgn (by decide) (xgn (by decide) (xgn (by omega) (xgn (by decide) (xgn (by decide) (xgn (by decide) (xgs hm))))))))))))))⟩
  · refine i_180_207 (x := 128) rfl ?_
    refine i_180_208 (v := Value.int 0) hm rfl ?_
    refine i_180_211 (fun h => absurd h (by decide)) (fun _ => ?_)
    refine i_180_214 (x := 128) rfl ?_
    refine i_180_215 (v := Value.ref 135) hm rfl ?_
    refine i_180_218 (v := Value.int 3) hq rfl ?_
    refine i_180_221 (fun h => absurd h (by decide)) (fun _ => ?_)
    refine i_180_224 (x := E) rfl ?_
    refine i_180_226 (x := 128) rfl ?_
    refine i_180_227 (v := Value.int 16384) hm rfl ?_
    refine i_180_230 (fun _ => ?_) (fun h => absurd (show E.toInt ≤ 16384 by omega) (Int.not_le.mpr h))
    refine i_180_367 (x := 128) rfl ?_
    refine i_180_368 (v := Value.ref 135) hm rfl ?_
    refine i_180_371 (v := Value.int 3) hq rfl ?_
    refine i_180_374 (fun _ => ?_) (fun h => absurd h (by decide))
    refine i_180_392 (x := 128) rfl ?_
    refine i_180_393 (v := Value.int 0) hm rfl ?_
    refine i_180_396 (fun h => absurd h (by decide)) (fun _ => ?_)
    refine i_180_399 (x := 128) rfl ?_
    refine i_180_400 (v := Value.int 0) hm rfl ?_
    refine i_180_403 (fun h => absurd h (by decide)) (fun _ => ?_)
    refine i_180_406 (x := E) rfl ?_
    refine i_180_408 (x := 128) rfl ?_
    refine i_180_409 (v := Value.int (-16384)) hm rfl ?_
    refine i_180_412 (fun h => absurd (show E.toInt < (-16384) by omega) (Int.not_lt.mpr h)) (fun _ => ?_)
    refine i_180_415 (x := 128) rfl ?_
    refine i_180_416 rfl ?_
    refine i_180_417 (v := Value.int 0) hm rfl ?_
    refine i_180_420 ?_
    refine i_180_421 (c := 4) (by decide) ?_
    refine i_180_422 (fs2 := [Value.ref 129, Value.ref 131, Value.ref 133, Value.ref 135, Value.ref 137, Value.ref 139, Value.ref 141, Value.ref 143, Value.ref 145, Value.ref 147, Value.ref 149, Value.ref 151, Value.ref 153, Value.ref 154, Value.ref 155, Value.ref 156, Value.ref 157, Value.int (-16384), Value.int 16384, Value.int 4, Value.int 0, Value.int 0, Value.ref 158, Value.ref 159, Value.int 0, Value.int 0, Value.int 0, Value.int 0, Value.int 0, Value.int 0, Value.int 0, Value.int 0]) hm (Nat.le_of_ble_eq_true rfl) rfl (by omega) ?_
    refine i_180_425 (x := E) rfl ?_
    refine i_180_427 (x := 128) rfl ?_
    refine i_180_428 (v := Value.int (-16384)) (xgs hm) rfl ?_
    refine i_180_431 ?_
    refine i_180_432 (c := (-16385)) (by decide) ?_
    refine i_180_433 (fun h => absurd (show E.toInt ≤ (-16385) by omega) (Int.not_le.mpr h)) (fun _ => ?_)
    refine i_180_436 (x := E) rfl ?_
    refine i_180_438 (x := 128) rfl ?_
    refine i_180_439 (v := Value.int (-16384)) (xgs hm) rfl ?_
    refine i_180_442 ?_
    refine i_180_443 (c := (-16385)) (by decide) ?_
    refine i_180_444 (fun h => absurd (show E.toInt = (-16385) by omega) h) (fun _ => ?_)
    refine i_180_447 (x := 0) rfl ?_
    refine i_180_449 (fun h => absurd h (by decide)) (fun _ => ?_)
    refine i_180_452 (x := 129) rfl ?_
    refine i_180_453 (x := 129) rfl ?_
    refine i_180_454 (xgn (by decide) hv) (Nat.le_of_ble_eq_true rfl) (hbits _ _ (xgn (by omega) (rfl)) (xgn (by omega) (rfl))) ?_
    refine i_180_457 ?_
    refine i_180_458 (c := (B - (1 : Int32))) rfl ?_
    refine i_180_459 (xgn (by decide) hv) (Nat.le_of_ble_eq_true rfl) (hany0 c15 _ _ (xgn (by omega) (rfl)) (xgn (by omega) (rfl))) ?_
    refine i_180_462 (fun _ => ?_) (fun h => absurd h (by decide))
    refine i_180_469 ?_
    refine i_180_470 (lv2 := [(15, Value.int 0), (14, Value.int 0), (13, Value.int E), (12, Value.int 1), (11, Value.int 0), (10, Value.int C), (9, Value.int U), (8, Value.int E), (7, Value.int 64), (0, Value.ref 128), (1, Value.int (xs 1)), (2, Value.ref 129), (3, Value.int sc), (4, Value.int 0), (5, Value.int 0), (6, Value.int md)]) rfl ?_
    refine i_180_472 (x := md) rfl ?_
    refine i_180_474 ?_
    refine i_180_475 (fun h => absurd (show md.toInt ≠ 4 by omega) (fun g => g h)) (fun _ => ?_)
    refine i_180_478 (x := md) rfl ?_
    refine i_180_480 ?_
    refine i_180_481 (fun h => absurd (show md.toInt = 2 by omega) h) (fun _ => ?_)
    refine i_180_484 (x := 0) rfl ?_
    refine i_180_486 (fun _ => ?_) (fun h => absurd h (by decide))
    refine i_180_510 ?_
    refine i_180_511 ?_
    refine i_180_515 (lv2 := [(16, Value.int 1), (15, Value.int 0), (14, Value.int 0), (13, Value.int E), (12, Value.int 1), (11, Value.int 0), (10, Value.int C), (9, Value.int U), (8, Value.int E), (7, Value.int 64), (0, Value.ref 128), (1, Value.int (xs 1)), (2, Value.ref 129), (3, Value.int sc), (4, Value.int 0), (5, Value.int 0), (6, Value.int md)]) rfl ?_
    refine i_180_517 (x := 1) rfl ?_
    refine i_180_519 (fun h => absurd h (by decide)) (fun _ => ?_)
    refine i_180_522 (x := 128) rfl ?_
    refine i_180_523 (v := Value.ref 151) (xgs hm) rfl ?_
    refine i_180_526 ?_
    refine i_180_527 (xgn (by decide) (((hk 151 (by decide) (by decide) (by decide) (by decide) (by decide)).trans W0_151))) (Nat.le_of_ble_eq_true rfl) (s_179_2 (xgn (by decide) (((hk 151 (by decide) (by decide) (by decide) (by decide) (by decide)).trans W0_151))) (xgn (by decide) (((hk 152 (by decide) (by decide) (by decide) (by decide) (by decide)).trans W0_152)))) ?_
    refine i_180_530 (x := 128) rfl ?_
    refine i_180_531 (x := (xs 1)) rfl ?_
    refine i_180_532 (x := 128) rfl ?_
    refine i_180_533 (v := Value.ref 151) (xgn (by decide) (xgn (by decide) (xgn (by decide) (xgs hm)))) rfl ?_
    refine i_180_536 (x := 128) rfl ?_
    refine i_180_537 (v := Value.int (-16384)) (xgn (by decide) (xgn (by decide) (xgn (by decide) (xgs hm)))) rfl ?_
    refine i_180_540 ?_
    refine i_180_541 (c := (-16385)) (by decide) ?_
    refine i_180_542 (xgn (by decide) (xgn (by decide) (xgn (by decide) (xgs hm)))) (Nat.le_of_ble_eq_true rfl) (s_192_1 (xgn (by decide) (xgn (by decide) (xgn (by decide) (xgs hm)))) (xgn (by decide) (xgn (by decide) (xgn (by decide) (xgn (by decide) (((hk 153 (by decide) (by decide) (by decide) (by decide) (by decide)).trans W0_153)))))) (by omega) (by omega) (gprec_at (by omega)) (xgs (xgn (by decide) (xgs (xgn (by decide) (((hk 151 (by decide) (by decide) (by decide) (by decide) (by decide)).trans W0_151)))))) (xgn (by decide) (xgs (xgn (by decide) (xgn (by decide) (((hk 152 (by decide) (by decide) (by decide) (by decide) (by decide)).trans W0_152)))))) xup_s (xgn (by decide) (xgn (by decide) (xgn (by decide) (xgn (by decide) (((hk 157 (by decide) (by decide) (by decide) (by decide) (by decide)).trans W0_157)))))) (gpart_at (by omega)) (xgn (by omega) (xgn (by omega) (xgn (by omega) (xgn (by omega) (((hk _ (by omega) (by omega) (by omega) (by omega) (by omega)).trans (W0_part (by omega)))))))) (by omega) (by omega) (by omega) (xgn (by decide) (xgn (by decide) (xgn (by decide) (xgn (by decide) (((hk 137 (by decide) (by decide) (by decide) (by decide) (by decide)).trans W0_137)))))) (by omega) (by omega) (by omega) (xgn (by decide) (xgn (by decide) (xgn (by decide) (xgn (by decide) (((hk 138 (by decide) (by decide) (by decide) (by decide) (by decide)).trans W0_138)))))) (by omega) (by omega) (by omega) (by omega) (by omega) (by omega) (xgn (by omega) (xgn (by omega) (xgn (by omega) (xgn (by omega) (((hk _ (by omega) (by omega) (by omega) (by omega) (by omega)).trans (W0_pw (by omega)))))))) (by omega) (by omega) (by omega) (by omega) (by omega) (by omega) (xgn (by decide) (xgn (by decide) (xgn (by decide) (xgn (by decide) (((hk 154 (by decide) (by decide) (by decide) (by decide) (by decide)).trans W0_154)))))) (by omega) (by omega) (xgn (by decide) (xgn (by decide) (xgn (by decide) (xgn (by decide) (((hk 155 (by decide) (by decide) (by decide) (by decide) (by decide)).trans W0_155))))))) ?_
    refine i_180_545 (x := 128) rfl ?_
    refine i_180_546 (v := Value.ref 156) (xgn (by decide) (xgn (by decide) (xgn (by omega) (xgn (by omega) (xgn (by decide) (xgn (by decide) (xgn (by decide) (xgn (by decide) (xgn (by omega) (xgn (by decide) (xgn (by decide) (xgn (by decide) (xgs hm))))))))))))) rfl ?_
    refine i_180_549 (x := (xs 1)) rfl ?_
    refine i_180_550 (x := 0) rfl ?_
    refine i_180_552z (v := Value.int 0) (xgn (by decide) (xgn (by decide) (xgn (by omega) (xgn (by omega) (xgn (by decide) (xgn (by decide) (xgn (by decide) (xgn (by decide) (xgn (by omega) (xgn (by decide) (xgn (by decide) (xgn (by decide) (xgn (by decide) hn))))))))))))) (by omega) (by omega) (by omega) rfl ?_
    refine i_180_553 ?_
    refine i_180_565 (x := 1) rfl ?_
    refine i_180_567 (fun h => absurd h (by decide)) (fun _ => ?_)
    refine i_180_570 ?_
    refine i_180_571 ?_
    refine i_180_575 (lv2 := [(14, Value.int 1), (16, Value.int 1), (15, Value.int 0), (13, Value.int E), (12, Value.int 1), (11, Value.int 0), (10, Value.int C), (9, Value.int U), (8, Value.int E), (7, Value.int 64), (0, Value.ref 128), (1, Value.int (xs 1)), (2, Value.ref 129), (3, Value.int sc), (4, Value.int 0), (5, Value.int 0), (6, Value.int md)]) rfl ?_
    refine i_180_577 ?_
    refine i_180_591 (x := 128) rfl ?_
    refine i_180_592 (v := Value.int 0) (xgn (by decide) (xgn (by decide) (xgn (by decide) (xgn (by omega) (xgn (by omega) (xgn (by decide) (xgn (by decide) (xgn (by decide) (xgn (by decide) (xgn (by omega) (xgn (by decide) (xgn (by decide) (xgn (by decide) (xgs hm)))))))))))))) rfl ?_
    refine i_180_595 (fun h => absurd h (by decide)) (fun _ => ?_)
    refine i_180_598 (x := 128) rfl ?_
    refine i_180_599 (v := Value.int 0) (xgn (by decide) (xgn (by decide) (xgn (by decide) (xgn (by omega) (xgn (by omega) (xgn (by decide) (xgn (by decide) (xgn (by decide) (xgn (by decide) (xgn (by omega) (xgn (by decide) (xgn (by decide) (xgn (by decide) (xgs hm)))))))))))))) rfl ?_
    refine i_180_602 (fun _ => ?_) (fun h => absurd h (by decide))
    refine i_180_629 (x := 1) rfl ?_
    refine i_180_631 (fun h => absurd h (by decide)) (fun _ => ?_)
    refine i_180_634 (x := 128) rfl ?_
    refine i_180_635 rfl ?_
    refine i_180_636 (v := Value.int 4) (xgn (by decide) (xgn (by decide) (xgn (by decide) (xgn (by omega) (xgn (by omega) (xgn (by decide) (xgn (by decide) (xgn (by decide) (xgn (by decide) (xgn (by omega) (xgn (by decide) (xgn (by decide) (xgn (by decide) (xgs hm)))))))))))))) rfl ?_
    refine i_180_639 ?_
    refine i_180_640 (c := 5) (by decide) ?_
    refine i_180_641 (fs2 := [Value.ref 129, Value.ref 131, Value.ref 133, Value.ref 135, Value.ref 137, Value.ref 139, Value.ref 141, Value.ref 143, Value.ref 145, Value.ref 147, Value.ref 149, Value.ref 151, Value.ref 153, Value.ref 154, Value.ref 155, Value.ref 156, Value.ref 157, Value.int (-16384), Value.int 16384, Value.int 5, Value.int 0, Value.int 0, Value.ref 158, Value.ref 159, Value.int 0, Value.int 0, Value.int 0, Value.int 0, Value.int 0, Value.int 0, Value.int 0, Value.int 0]) (xgn (by decide) (xgn (by decide) (xgn (by decide) (xgn (by omega) (xgn (by omega) (xgn (by decide) (xgn (by decide) (xgn (by decide) (xgn (by decide) (xgn (by omega) (xgn (by decide) (xgn (by decide) (xgn (by decide) (xgs hm)))))))))))))) (Nat.le_of_ble_eq_true rfl) rfl (by omega) ?_
    refine i_180_644 (x := 0) rfl ?_
    refine i_180_646 (fun _ => ?_) (fun h => absurd h (by decide))
    refine i_180_655 (x := 1) rfl ?_
    exact i_180_657 ⟨rfl, rfl⟩
  · refine xKp.set ?_ (fun h hh => by unfold xPM at hh; omega) (xgn (by decide) (xgn (by decide) (xgn (by decide) (xgn (by omega) (xgn (by omega) (xgn (by decide) (xgn (by decide) (xgn (by decide) (xgn (by decide) (xgn (by omega) (xgn (by decide) (xgn (by decide) (xgn (by decide) (xgs hm)))))))))))))) xcs_o
    refine xKp.set ?_ (fun h hh => by unfold xPM at hh; omega) (xgn (by decide) (xgn (by decide) (xgn (by omega) (xgn (by omega) (xgn (by decide) (xgn (by decide) (xgn (by decide) (xgn (by decide) (xgn (by omega) (xgn (by decide) (xgn (by decide) (xgn (by decide) (xgn (by decide) hn))))))))))))) xcs_a
    refine xKp.set ?_ (fun h hh => by unfold xPM at hh; omega) (xgn (by decide) (xgn (by omega) (xgn (by omega) (xgn (by decide) (xgn (by decide) (xgn (by decide) (xgn (by decide) (xgn (by omega) (xgn (by decide) (xgn (by decide) (xgn (by decide) (xgn (by decide) (((hk 155 (by decide) (by decide) (by decide) (by decide) (by decide)).trans W0_155)))))))))))))) xcs_a
    refine xKp.set ?_ (fun h hh => by unfold xPM at hh; omega) (xgn (by omega) (xgn (by omega) (xgn (by decide) (xgn (by decide) (xgn (by decide) (xgn (by decide) (xgn (by omega) (xgn (by decide) (xgn (by decide) (xgn (by decide) (xgn (by decide) (((hk 154 (by decide) (by decide) (by decide) (by decide) (by decide)).trans W0_154))))))))))))) xcs_a
    refine xKp.set ?_ (fun h hh => by unfold xPM at hh; omega) (xgn (by omega) (xgn (by omega) (xgn (by omega) (xgn (by omega) (xgn (by omega) (xgs (xgn (by omega) (xgn (by omega) (xgn (by omega) (xgn (by omega) (((hk _ (by omega) (by omega) (by omega) (by omega) (by omega)).trans (W0_part (by omega)))))))))))))) xcs_o
    refine xKp.set ?_ (fun h hh => by unfold xPM at hh; omega) (xgn (by omega) (xgn (by omega) (xgn (by omega) (xgn (by omega) (xgn (by omega) (xgn (by omega) (xgn (by omega) (xgn (by omega) (xgn (by omega) (((hk _ (by omega) (by omega) (by omega) (by omega) (by omega)).trans (W0_pw (by omega))))))))))))) xcs_a
    refine xKp.set ?_ (fun h hh => by unfold xPM at hh; omega) (xgn (by decide) (xgs (xgn (by decide) (xgn (by omega) (xgn (by decide) (xgn (by decide) (xgn (by decide) (xgn (by decide) (((hk 137 (by decide) (by decide) (by decide) (by decide) (by decide)).trans W0_137)))))))))) xcs_o
    refine xKp.set ?_ (fun h hh => by unfold xPM at hh; omega) (xgn (by decide) (xgs (xgn (by omega) (xgn (by decide) (xgn (by decide) (xgn (by decide) (xgn (by decide) (((hk 138 (by decide) (by decide) (by decide) (by decide) (by decide)).trans W0_138))))))))) xcs_a
    refine xKp.set ?_ (fun h hh => by unfold xPM at hh; omega) (xgn (by decide) (xgn (by omega) (xgn (by decide) (xgn (by decide) (xgn (by decide) (xgn (by decide) (((hk 137 (by decide) (by decide) (by decide) (by decide) (by decide)).trans W0_137)))))))) xcs_o
    refine xKp.set ?_ (fun h hh => by unfold xPM at hh; omega) (xgn (by omega) (xgn (by decide) (xgn (by decide) (xgn (by decide) (xgn (by decide) (((hk 138 (by decide) (by decide) (by decide) (by decide) (by decide)).trans W0_138))))))) xcs_a
    refine xKp.set ?_ (fun h hh => by unfold xPM at hh; omega) (xgn (by omega) (xgn (by omega) (xgn (by omega) (xgn (by omega) (((hk _ (by omega) (by omega) (by omega) (by omega) (by omega)).trans (W0_part (by omega)))))))) xcs_o
    refine xKp.set ?_ (fun h hh => by unfold xPM at hh; omega) (xgn (by decide) (xgs (xgn (by decide) (((hk 151 (by decide) (by decide) (by decide) (by decide) (by decide)).trans W0_151))))) xcs_o
    refine xKp.set ?_ (fun h hh => by unfold xPM at hh; omega) (xgn (by decide) (xgn (by decide) (((hk 152 (by decide) (by decide) (by decide) (by decide) (by decide)).trans W0_152)))) xcs_a
    refine xKp.set ?_ (fun h hh => by unfold xPM at hh; omega) (xgn (by decide) (((hk 151 (by decide) (by decide) (by decide) (by decide) (by decide)).trans W0_151))) xcs_o
    refine xKp.set ?_ (fun h hh => by unfold xPM at hh; omega) (hm) xcs_o
    exact xKp.refl
theorem s_171_1 {d : Nat} {w : xW} {a0 : Int32} {g0 : Nat → Value} (hw0 : w[128]? = some (Sum.inr (12, [Value.ref 129, Value.ref 131, Value.ref 133, Value.ref 135, Value.ref 137, Value.ref 139, Value.ref 141, Value.ref 143, Value.ref 145, Value.ref 147, Value.ref 149, Value.ref 151, Value.ref 153, Value.ref 154, Value.ref 155, Value.ref 156, Value.ref 157, Value.int (-16384), Value.int 16384, Value.int 4, Value.int 0, Value.int 0, Value.ref 158, Value.ref 159, Value.int 0, Value.int 0, Value.int 0, Value.int 0, Value.int 0, Value.int 0, Value.int 0, Value.int 0]))) (hw1 : w[154]? = some (Sum.inl (0, 17, fun _ => Value.int 0))) (e2 : 0 ≤ a0.toInt) (e3 : a0.toInt < 17) (hw4 : w[156]? = some (Sum.inl (2, 17, g0))) : xRun d 171 [Value.ref 128, Value.int a0, Value.int 2, Value.int 0] w (.inl (some (Value.int 0))) ((w.set 154 (Sum.inl (0, 17, xup (fun _ => Value.int 0) a0.toInt.toNat (Value.int 2)))).set 156 (Sum.inl (2, 17, xup g0 a0.toInt.toNat (Value.int 0)))) := by
  refine xRun.of ?_
  refine i_171_0 (x := 128) rfl ?_
  refine i_171_1 (v := Value.ref 154) hw0 rfl ?_
  refine i_171_4 (x := a0) rfl ?_
  refine i_171_5 (x := 2) rfl ?_
  refine i_171_6 (v := Value.int 2) hw1 e2 e3 (by decide) rfl ?_
  refine i_171_7 (x := 128) rfl ?_
  refine i_171_8 (v := Value.ref 156) (xgn (by decide) hw0) rfl ?_
  refine i_171_11 (x := a0) rfl ?_
  refine i_171_12 (x := 0) rfl ?_
  refine i_171_13z (v := Value.int 0) (xgn (by decide) hw4) e2 e3 (by decide) rfl ?_
  refine i_171_14 ?_
  exact i_171_15 ⟨rfl, rfl⟩
theorem sf0_7 {d : Nat} {xs : Nat → Int32} {m : Int64} {sc md : Int32} {w : xW} {B E U C q0 q1 q2 nn : Int32} {g : Nat → Value} (hk : ∀ h, 131 ≤ h → h < 194 → h ≠ 135 → h ≠ 136 → h ≠ 156 → w[h]? = (W0 6 xs)[h]?) (hm : w[128]? = some (Sum.inr (12, [Value.ref 129, Value.ref 131, Value.ref 133, Value.ref 135, Value.ref 137, Value.ref 139, Value.ref 141, Value.ref 143, Value.ref 145, Value.ref 147, Value.ref 149, Value.ref 151, Value.ref 153, Value.ref 154, Value.ref 155, Value.ref 156, Value.ref 157, Value.int (-16384), Value.int 16384, Value.int 0, Value.int 0, Value.int 0, Value.ref 158, Value.ref 159, Value.int 0, Value.int 0, Value.int 0, Value.int 0, Value.int 0, Value.int 0, Value.int 0, Value.int 0]))) (hv : w[129]? = some (Sum.inr (13, [Value.ref 130, Value.int nn]))) (hq : w[135]? = some (Sum.inr (13, [Value.ref 136, Value.int 3]))) (hqw : w[136]? = some (Sum.inl (0, 4700, g))) (hg0 : g (0 : Int32).toInt.toNat = Value.int q0) (hg1 : g (1 : Int32).toInt.toNat = Value.int q1) (hg2 : g (2 : Int32).toInt.toNat = Value.int q2) (hn : w[156]? = some (Sum.inl (2, 17, xup (fun _ => Value.int 0) (xs 1).toInt.toNat (Value.int 0)))) (hbits : ∀ (d' : Nat) (w' : xW), w'[129]? = w[129]? → w'[130]? = w[130]? → xRun d' 181 [Value.ref 129] w' (.inl (some (Value.int B))) w') (hany0 : xPW m → ∀ (d' : Nat) (w' : xW), w'[129]? = w[129]? → w'[130]? = w[130]? → xRun d' 183 [Value.ref 129, Value.int (B - (1 : Int32))] w' (.inl (some (Value.int 0))) w') (hany1 : ¬ xPW m → ∀ (d' : Nat) (w' : xW), w'[129]? = w[129]? → w'[130]? = w[130]? → xRun d' 183 [Value.ref 129, Value.int (B - (1 : Int32))] w' (.inl (some (Value.int 1))) w') (c0 : 0 ≤ (xs 1).toInt) (c1 : (xs 1).toInt < 16) (c2 : (-40000) ≤ sc.toInt) (c3 : sc.toInt ≤ 40000) (c4 : 0 ≤ md.toInt) (c5 : md.toInt ≤ 4) (c6 : 1 ≤ B.toInt) (c7 : B.toInt ≤ 64) (c8 : E.toInt = B.toInt + sc.toInt) (c9 : U.toInt = E.toInt - 64) (c10 : 0 ≤ q2.toInt) (c11 : (xbn q2).toInt = 4) (c12 : E.toInt ≤ 16384) (c13 : E.toInt < (-16384)) (c14 : E.toInt = (-16385)) (c15 : xPW m) (c16 : md.toInt ≠ 4) (c17 : md.toInt ≠ 2) (c18 : md.toInt = 3) : ∃ w2, xEv (d + 6) 180 207 [(14, Value.int 0), (13, Value.int E), (12, Value.int 1), (11, Value.int 0), (10, Value.int C), (9, Value.int U), (8, Value.int E), (7, Value.int 64), (0, Value.ref 128), (1, Value.int (xs 1)), (2, Value.ref 129), (3, Value.int sc), (4, Value.int 0), (5, Value.int 0), (6, Value.int md)] [] w (fun o' w' => o' = .inl (some (Value.int (-1))) ∧ w' = w2) ∧ xKp w w2 xPM ∧ w2[128]? = some (Sum.inr (12, [Value.ref 129, Value.ref 131, Value.ref 133, Value.ref 135, Value.ref 137, Value.ref 139, Value.ref 141, Value.ref 143, Value.ref 145, Value.ref 147, Value.ref 149, Value.ref 151, Value.ref 153, Value.ref 154, Value.ref 155, Value.ref 156, Value.ref 157, Value.int (-16384), Value.int 16384, Value.int 5, Value.int 0, Value.int 0, Value.ref 158, Value.ref 159, Value.int 0, Value.int 0, Value.int 0, Value.int 0, Value.int 0, Value.int 0, Value.int 0, Value.int 0])) := by
  refine ⟨((((w.set 128 (Sum.inr (12, [Value.ref 129, Value.ref 131, Value.ref 133, Value.ref 135, Value.ref 137, Value.ref 139, Value.ref 141, Value.ref 143, Value.ref 145, Value.ref 147, Value.ref 149, Value.ref 151, Value.ref 153, Value.ref 154, Value.ref 155, Value.ref 156, Value.ref 157, Value.int (-16384), Value.int 16384, Value.int 4, Value.int 0, Value.int 0, Value.ref 158, Value.ref 159, Value.int 0, Value.int 0, Value.int 0, Value.int 0, Value.int 0, Value.int 0, Value.int 0, Value.int 0]))).set 154 (Sum.inl (0, 17, xup (fun _ => Value.int 0) (xs 1).toInt.toNat (Value.int 2)))).set 156 (Sum.inl (2, 17, xup (xup (fun _ => Value.int 0) (xs 1).toInt.toNat (Value.int 0)) (xs 1).toInt.toNat (Value.int 0)))).set 128 (Sum.inr (12, [Value.ref 129, Value.ref 131, Value.ref 133, Value.ref 135, Value.ref 137, Value.ref 139, Value.ref 141, Value.ref 143, Value.ref 145, Value.ref 147, Value.ref 149, Value.ref 151, Value.ref 153, Value.ref 154, Value.ref 155, Value.ref 156, Value.ref 157, Value.int (-16384), Value.int 16384, Value.int 5, Value.int 0, Value.int 0, Value.ref 158, Value.ref 159, Value.int 0, Value.int 0, Value.int 0, Value.int 0, Value.int 0, Value.int 0, Value.int 0, Value.int 0]))), ?_, ?_, xgs (xgn (by decide) (xgn (by decide) (xgs hm)))⟩
  · refine i_180_207 (x := 128) rfl ?_
    refine i_180_208 (v := Value.int 0) hm rfl ?_
    refine i_180_211 (fun h => absurd h (by decide)) (fun _ => ?_)
    refine i_180_214 (x := 128) rfl ?_
    refine i_180_215 (v := Value.ref 135) hm rfl ?_
    refine i_180_218 (v := Value.int 3) hq rfl ?_
    refine i_180_221 (fun h => absurd h (by decide)) (fun _ => ?_)
    refine i_180_224 (x := E) rfl ?_
    refine i_180_226 (x := 128) rfl ?_
    refine i_180_227 (v := Value.int 16384) hm rfl ?_
    refine i_180_230 (fun _ => ?_) (fun h => absurd (show E.toInt ≤ 16384 by omega) (Int.not_le.mpr h))
    refine i_180_367 (x := 128) rfl ?_
    refine i_180_368 (v := Value.ref 135) hm rfl ?_
    refine i_180_371 (v := Value.int 3) hq rfl ?_
    refine i_180_374 (fun _ => ?_) (fun h => absurd h (by decide))
    refine i_180_392 (x := 128) rfl ?_
    refine i_180_393 (v := Value.int 0) hm rfl ?_
    refine i_180_396 (fun h => absurd h (by decide)) (fun _ => ?_)
    refine i_180_399 (x := 128) rfl ?_
    refine i_180_400 (v := Value.int 0) hm rfl ?_
    refine i_180_403 (fun h => absurd h (by decide)) (fun _ => ?_)
    refine i_180_406 (x := E) rfl ?_
    refine i_180_408 (x := 128) rfl ?_
    refine i_180_409 (v := Value.int (-16384)) hm rfl ?_
    refine i_180_412 (fun h => absurd (show E.toInt < (-16384) by omega) (Int.not_lt.mpr h)) (fun _ => ?_)
    refine i_180_415 (x := 128) rfl ?_
    refine i_180_416 rfl ?_
    refine i_180_417 (v := Value.int 0) hm rfl ?_
    refine i_180_420 ?_
    refine i_180_421 (c := 4) (by decide) ?_
    refine i_180_422 (fs2 := [Value.ref 129, Value.ref 131, Value.ref 133, Value.ref 135, Value.ref 137, Value.ref 139, Value.ref 141, Value.ref 143, Value.ref 145, Value.ref 147, Value.ref 149, Value.ref 151, Value.ref 153, Value.ref 154, Value.ref 155, Value.ref 156, Value.ref 157, Value.int (-16384), Value.int 16384, Value.int 4, Value.int 0, Value.int 0, Value.ref 158, Value.ref 159, Value.int 0, Value.int 0, Value.int 0, Value.int 0, Value.int 0, Value.int 0, Value.int 0, Value.int 0]) hm (Nat.le_of_ble_eq_true rfl) rfl (by omega) ?_
    refine i_180_425 (x := E) rfl ?_
    refine i_180_427 (x := 128) rfl ?_
    refine i_180_428 (v := Value.int (-16384)) (xgs hm) rfl ?_
    refine i_180_431 ?_
    refine i_180_432 (c := (-16385)) (by decide) ?_
    refine i_180_433 (fun h => absurd (show E.toInt ≤ (-16385) by omega) (Int.not_le.mpr h)) (fun _ => ?_)
    refine i_180_436 (x := E) rfl ?_
    refine i_180_438 (x := 128) rfl ?_
    refine i_180_439 (v := Value.int (-16384)) (xgs hm) rfl ?_
    refine i_180_442 ?_
    refine i_180_443 (c := (-16385)) (by decide) ?_
    refine i_180_444 (fun h => absurd (show E.toInt = (-16385) by omega) h) (fun _ => ?_)
    refine i_180_447 (x := 0) rfl ?_
    refine i_180_449 (fun h => absurd h (by decide)) (fun _ => ?_)
    refine i_180_452 (x := 129) rfl ?_
    refine i_180_453 (x := 129) rfl ?_
    refine i_180_454 (xgn (by decide) hv) (Nat.le_of_ble_eq_true rfl) (hbits _ _ (xgn (by omega) (rfl)) (xgn (by omega) (rfl))) ?_
    refine i_180_457 ?_
    refine i_180_458 (c := (B - (1 : Int32))) rfl ?_
    refine i_180_459 (xgn (by decide) hv) (Nat.le_of_ble_eq_true rfl) (hany0 c15 _ _ (xgn (by omega) (rfl)) (xgn (by omega) (rfl))) ?_
    refine i_180_462 (fun _ => ?_) (fun h => absurd h (by decide))
    refine i_180_469 ?_
    refine i_180_470 (lv2 := [(15, Value.int 0), (14, Value.int 0), (13, Value.int E), (12, Value.int 1), (11, Value.int 0), (10, Value.int C), (9, Value.int U), (8, Value.int E), (7, Value.int 64), (0, Value.ref 128), (1, Value.int (xs 1)), (2, Value.ref 129), (3, Value.int sc), (4, Value.int 0), (5, Value.int 0), (6, Value.int md)]) rfl ?_
    refine i_180_472 (x := md) rfl ?_
    refine i_180_474 ?_
    refine i_180_475 (fun h => absurd (show md.toInt ≠ 4 by omega) (fun g => g h)) (fun _ => ?_)
    refine i_180_478 (x := md) rfl ?_
    refine i_180_480 ?_
    refine i_180_481 (fun _ => ?_) (fun h => absurd (show md.toInt ≠ 2 by omega) (fun g => g h))
    refine i_180_489 (x := md) rfl ?_
    refine i_180_491 ?_
    refine i_180_492 (fun h => absurd (show md.toInt = 3 by omega) h) (fun _ => ?_)
    refine i_180_495 (x := 0) rfl ?_
    refine i_180_497 (fun h => absurd h (by decide)) (fun _ => ?_)
    refine i_180_500 (x := md) rfl ?_
    refine i_180_502 (fun _ => ?_) (fun h => absurd (show md.toInt ≠ 0 by omega) (fun g => g h))
    refine i_180_514 ?_
    refine i_180_515 (lv2 := [(16, Value.int 0), (15, Value.int 0), (14, Value.int 0), (13, Value.int E), (12, Value.int 1), (11, Value.int 0), (10, Value.int C), (9, Value.int U), (8, Value.int E), (7, Value.int 64), (0, Value.ref 128), (1, Value.int (xs 1)), (2, Value.ref 129), (3, Value.int sc), (4, Value.int 0), (5, Value.int 0), (6, Value.int md)]) rfl ?_
    refine i_180_517 (x := 0) rfl ?_
    refine i_180_519 (fun _ => ?_) (fun h => absurd h (by decide))
    refine i_180_556 (x := 128) rfl ?_
    refine i_180_557 (x := (xs 1)) rfl ?_
    refine i_180_558 ?_
    refine i_180_559 (x := 0) rfl ?_
    refine i_180_561 (xgs hm) (Nat.le_of_ble_eq_true rfl) (s_171_1 (xgs hm) (xgn (by decide) (((hk 154 (by decide) (by decide) (by decide) (by decide) (by decide)).trans W0_154))) (by omega) (by omega) (xgn (by decide) hn)) ?_
    refine i_180_564 rfl ?_
    refine i_180_565 (x := 0) rfl ?_
    refine i_180_567 (fun _ => ?_) (fun h => absurd h (by decide))
    refine i_180_574 ?_
    refine i_180_575 (lv2 := [(14, Value.int (-1)), (16, Value.int 0), (15, Value.int 0), (13, Value.int E), (12, Value.int 1), (11, Value.int 0), (10, Value.int C), (9, Value.int U), (8, Value.int E), (7, Value.int 64), (0, Value.ref 128), (1, Value.int (xs 1)), (2, Value.ref 129), (3, Value.int sc), (4, Value.int 0), (5, Value.int 0), (6, Value.int md)]) rfl ?_
    refine i_180_577 ?_
    refine i_180_591 (x := 128) rfl ?_
    refine i_180_592 (v := Value.int 0) (xgn (by decide) (xgn (by decide) (xgs hm))) rfl ?_
    refine i_180_595 (fun h => absurd h (by decide)) (fun _ => ?_)
    refine i_180_598 (x := 128) rfl ?_
    refine i_180_599 (v := Value.int 0) (xgn (by decide) (xgn (by decide) (xgs hm))) rfl ?_
    refine i_180_602 (fun _ => ?_) (fun h => absurd h (by decide))
    refine i_180_629 (x := (-1)) rfl ?_
    refine i_180_631 (fun h => absurd h (by decide)) (fun _ => ?_)
    refine i_180_634 (x := 128) rfl ?_
    refine i_180_635 rfl ?_
    refine i_180_636 (v := Value.int 4) (xgn (by decide) (xgn (by decide) (xgs hm))) rfl ?_
    refine i_180_639 ?_
    refine i_180_640 (c := 5) (by decide) ?_
    refine i_180_641 (fs2 := [Value.ref 129, Value.ref 131, Value.ref 133, Value.ref 135, Value.ref 137, Value.ref 139, Value.ref 141, Value.ref 143, Value.ref 145, Value.ref 147, Value.ref 149, Value.ref 151, Value.ref 153, Value.ref 154, Value.ref 155, Value.ref 156, Value.ref 157, Value.int (-16384), Value.int 16384, Value.int 5, Value.int 0, Value.int 0, Value.ref 158, Value.ref 159, Value.int 0, Value.int 0, Value.int 0, Value.int 0, Value.int 0, Value.int 0, Value.int 0, Value.int 0]) (xgn (by decide) (xgn (by decide) (xgs hm))) (Nat.le_of_ble_eq_true rfl) rfl (by omega) ?_
    refine i_180_644 (x := 0) rfl ?_
    refine i_180_646 (fun _ => ?_) (fun h => absurd h (by decide))
    refine i_180_655 (x := (-1)) rfl ?_
    exact i_180_657 ⟨rfl, rfl⟩
  · refine xKp.set ?_ (fun h hh => by unfold xPM at hh; omega) (xgn (by decide) (xgn (by decide) (xgs hm))) xcs_o
    refine xKp.set ?_ (fun h hh => by unfold xPM at hh; omega) (xgn (by decide) (xgn (by decide) hn)) xcs_a
    refine xKp.set ?_ (fun h hh => by unfold xPM at hh; omega) (xgn (by decide) (((hk 154 (by decide) (by decide) (by decide) (by decide) (by decide)).trans W0_154))) xcs_a
    refine xKp.set ?_ (fun h hh => by unfold xPM at hh; omega) (hm) xcs_o
    exact xKp.refl
theorem sf0_8 {d : Nat} {xs : Nat → Int32} {m : Int64} {sc md : Int32} {w : xW} {B E U C q0 q1 q2 nn : Int32} {g : Nat → Value} (hk : ∀ h, 131 ≤ h → h < 194 → h ≠ 135 → h ≠ 136 → h ≠ 156 → w[h]? = (W0 6 xs)[h]?) (hm : w[128]? = some (Sum.inr (12, [Value.ref 129, Value.ref 131, Value.ref 133, Value.ref 135, Value.ref 137, Value.ref 139, Value.ref 141, Value.ref 143, Value.ref 145, Value.ref 147, Value.ref 149, Value.ref 151, Value.ref 153, Value.ref 154, Value.ref 155, Value.ref 156, Value.ref 157, Value.int (-16384), Value.int 16384, Value.int 0, Value.int 0, Value.int 0, Value.ref 158, Value.ref 159, Value.int 0, Value.int 0, Value.int 0, Value.int 0, Value.int 0, Value.int 0, Value.int 0, Value.int 0]))) (hv : w[129]? = some (Sum.inr (13, [Value.ref 130, Value.int nn]))) (hq : w[135]? = some (Sum.inr (13, [Value.ref 136, Value.int 3]))) (hqw : w[136]? = some (Sum.inl (0, 4700, g))) (hg0 : g (0 : Int32).toInt.toNat = Value.int q0) (hg1 : g (1 : Int32).toInt.toNat = Value.int q1) (hg2 : g (2 : Int32).toInt.toNat = Value.int q2) (hn : w[156]? = some (Sum.inl (2, 17, xup (fun _ => Value.int 0) (xs 1).toInt.toNat (Value.int 0)))) (hbits : ∀ (d' : Nat) (w' : xW), w'[129]? = w[129]? → w'[130]? = w[130]? → xRun d' 181 [Value.ref 129] w' (.inl (some (Value.int B))) w') (hany0 : xPW m → ∀ (d' : Nat) (w' : xW), w'[129]? = w[129]? → w'[130]? = w[130]? → xRun d' 183 [Value.ref 129, Value.int (B - (1 : Int32))] w' (.inl (some (Value.int 0))) w') (hany1 : ¬ xPW m → ∀ (d' : Nat) (w' : xW), w'[129]? = w[129]? → w'[130]? = w[130]? → xRun d' 183 [Value.ref 129, Value.int (B - (1 : Int32))] w' (.inl (some (Value.int 1))) w') (c0 : 0 ≤ (xs 1).toInt) (c1 : (xs 1).toInt < 16) (c2 : (-40000) ≤ sc.toInt) (c3 : sc.toInt ≤ 40000) (c4 : 0 ≤ md.toInt) (c5 : md.toInt ≤ 4) (c6 : 1 ≤ B.toInt) (c7 : B.toInt ≤ 64) (c8 : E.toInt = B.toInt + sc.toInt) (c9 : U.toInt = E.toInt - 64) (c10 : 0 ≤ q2.toInt) (c11 : (xbn q2).toInt = 4) (c12 : E.toInt ≤ 16384) (c13 : E.toInt < (-16384)) (c14 : E.toInt = (-16385)) (c15 : xPW m) (c16 : md.toInt ≠ 4) (c17 : md.toInt ≠ 2) (c18 : md.toInt ≠ 3) (c19 : md.toInt = 0) : ∃ w2, xEv (d + 6) 180 207 [(14, Value.int 0), (13, Value.int E), (12, Value.int 1), (11, Value.int 0), (10, Value.int C), (9, Value.int U), (8, Value.int E), (7, Value.int 64), (0, Value.ref 128), (1, Value.int (xs 1)), (2, Value.ref 129), (3, Value.int sc), (4, Value.int 0), (5, Value.int 0), (6, Value.int md)] [] w (fun o' w' => o' = .inl (some (Value.int (-1))) ∧ w' = w2) ∧ xKp w w2 xPM ∧ w2[128]? = some (Sum.inr (12, [Value.ref 129, Value.ref 131, Value.ref 133, Value.ref 135, Value.ref 137, Value.ref 139, Value.ref 141, Value.ref 143, Value.ref 145, Value.ref 147, Value.ref 149, Value.ref 151, Value.ref 153, Value.ref 154, Value.ref 155, Value.ref 156, Value.ref 157, Value.int (-16384), Value.int 16384, Value.int 5, Value.int 0, Value.int 0, Value.ref 158, Value.ref 159, Value.int 0, Value.int 0, Value.int 0, Value.int 0, Value.int 0, Value.int 0, Value.int 0, Value.int 0])) := by
  refine ⟨((((w.set 128 (Sum.inr (12, [Value.ref 129, Value.ref 131, Value.ref 133, Value.ref 135, Value.ref 137, Value.ref 139, Value.ref 141, Value.ref 143, Value.ref 145, Value.ref 147, Value.ref 149, Value.ref 151, Value.ref 153, Value.ref 154, Value.ref 155, Value.ref 156, Value.ref 157, Value.int (-16384), Value.int 16384, Value.int 4, Value.int 0, Value.int 0, Value.ref 158, Value.ref 159, Value.int 0, Value.int 0, Value.int 0, Value.int 0, Value.int 0, Value.int 0, Value.int 0, Value.int 0]))).set 154 (Sum.inl (0, 17, xup (fun _ => Value.int 0) (xs 1).toInt.toNat (Value.int 2)))).set 156 (Sum.inl (2, 17, xup (xup (fun _ => Value.int 0) (xs 1).toInt.toNat (Value.int 0)) (xs 1).toInt.toNat (Value.int 0)))).set 128 (Sum.inr (12, [Value.ref 129, Value.ref 131, Value.ref 133, Value.ref 135, Value.ref 137, Value.ref 139, Value.ref 141, Value.ref 143, Value.ref 145, Value.ref 147, Value.ref 149, Value.ref 151, Value.ref 153, Value.ref 154, Value.ref 155, Value.ref 156, Value.ref 157, Value.int (-16384), Value.int 16384, Value.int 5, Value.int 0, Value.int 0, Value.ref 158, Value.ref 159, Value.int 0, Value.int 0, Value.int 0, Value.int 0, Value.int 0, Value.int 0, Value.int 0, Value.int 0]))), ?_, ?_, xgs (xgn (by decide) (xgn (by decide) (xgs hm)))⟩
  · refine i_180_207 (x := 128) rfl ?_
    refine i_180_208 (v := Value.int 0) hm rfl ?_
    refine i_180_211 (fun h => absurd h (by decide)) (fun _ => ?_)
    refine i_180_214 (x := 128) rfl ?_
    refine i_180_215 (v := Value.ref 135) hm rfl ?_
    refine i_180_218 (v := Value.int 3) hq rfl ?_
    refine i_180_221 (fun h => absurd h (by decide)) (fun _ => ?_)
    refine i_180_224 (x := E) rfl ?_
    refine i_180_226 (x := 128) rfl ?_
    refine i_180_227 (v := Value.int 16384) hm rfl ?_
    refine i_180_230 (fun _ => ?_) (fun h => absurd (show E.toInt ≤ 16384 by omega) (Int.not_le.mpr h))
    refine i_180_367 (x := 128) rfl ?_
    refine i_180_368 (v := Value.ref 135) hm rfl ?_
    refine i_180_371 (v := Value.int 3) hq rfl ?_
    refine i_180_374 (fun _ => ?_) (fun h => absurd h (by decide))
    refine i_180_392 (x := 128) rfl ?_
    refine i_180_393 (v := Value.int 0) hm rfl ?_
    refine i_180_396 (fun h => absurd h (by decide)) (fun _ => ?_)
    refine i_180_399 (x := 128) rfl ?_
    refine i_180_400 (v := Value.int 0) hm rfl ?_
    refine i_180_403 (fun h => absurd h (by decide)) (fun _ => ?_)
    refine i_180_406 (x := E) rfl ?_
    refine i_180_408 (x := 128) rfl ?_
    refine i_180_409 (v := Value.int (-16384)) hm rfl ?_
    refine i_180_412 (fun h => absurd (show E.toInt < (-16384) by omega) (Int.not_lt.mpr h)) (fun _ => ?_)
    refine i_180_415 (x := 128) rfl ?_
    refine i_180_416 rfl ?_
    refine i_180_417 (v := Value.int 0) hm rfl ?_
    refine i_180_420 ?_
    refine i_180_421 (c := 4) (by decide) ?_
    refine i_180_422 (fs2 := [Value.ref 129, Value.ref 131, Value.ref 133, Value.ref 135, Value.ref 137, Value.ref 139, Value.ref 141, Value.ref 143, Value.ref 145, Value.ref 147, Value.ref 149, Value.ref 151, Value.ref 153, Value.ref 154, Value.ref 155, Value.ref 156, Value.ref 157, Value.int (-16384), Value.int 16384, Value.int 4, Value.int 0, Value.int 0, Value.ref 158, Value.ref 159, Value.int 0, Value.int 0, Value.int 0, Value.int 0, Value.int 0, Value.int 0, Value.int 0, Value.int 0]) hm (Nat.le_of_ble_eq_true rfl) rfl (by omega) ?_
    refine i_180_425 (x := E) rfl ?_
    refine i_180_427 (x := 128) rfl ?_
    refine i_180_428 (v := Value.int (-16384)) (xgs hm) rfl ?_
    refine i_180_431 ?_
    refine i_180_432 (c := (-16385)) (by decide) ?_
    refine i_180_433 (fun h => absurd (show E.toInt ≤ (-16385) by omega) (Int.not_le.mpr h)) (fun _ => ?_)
    refine i_180_436 (x := E) rfl ?_
    refine i_180_438 (x := 128) rfl ?_
    refine i_180_439 (v := Value.int (-16384)) (xgs hm) rfl ?_
    refine i_180_442 ?_
    refine i_180_443 (c := (-16385)) (by decide) ?_
    refine i_180_444 (fun h => absurd (show E.toInt = (-16385) by omega) h) (fun _ => ?_)
    refine i_180_447 (x := 0) rfl ?_
    refine i_180_449 (fun h => absurd h (by decide)) (fun _ => ?_)
    refine i_180_452 (x := 129) rfl ?_
    refine i_180_453 (x := 129) rfl ?_
    refine i_180_454 (xgn (by decide) hv) (Nat.le_of_ble_eq_true rfl) (hbits _ _ (xgn (by omega) (rfl)) (xgn (by omega) (rfl))) ?_
    refine i_180_457 ?_
    refine i_180_458 (c := (B - (1 : Int32))) rfl ?_
    refine i_180_459 (xgn (by decide) hv) (Nat.le_of_ble_eq_true rfl) (hany0 c15 _ _ (xgn (by omega) (rfl)) (xgn (by omega) (rfl))) ?_
    refine i_180_462 (fun _ => ?_) (fun h => absurd h (by decide))
    refine i_180_469 ?_
    refine i_180_470 (lv2 := [(15, Value.int 0), (14, Value.int 0), (13, Value.int E), (12, Value.int 1), (11, Value.int 0), (10, Value.int C), (9, Value.int U), (8, Value.int E), (7, Value.int 64), (0, Value.ref 128), (1, Value.int (xs 1)), (2, Value.ref 129), (3, Value.int sc), (4, Value.int 0), (5, Value.int 0), (6, Value.int md)]) rfl ?_
    refine i_180_472 (x := md) rfl ?_
    refine i_180_474 ?_
    refine i_180_475 (fun h => absurd (show md.toInt ≠ 4 by omega) (fun g => g h)) (fun _ => ?_)
    refine i_180_478 (x := md) rfl ?_
    refine i_180_480 ?_
    refine i_180_481 (fun _ => ?_) (fun h => absurd (show md.toInt ≠ 2 by omega) (fun g => g h))
    refine i_180_489 (x := md) rfl ?_
    refine i_180_491 ?_
    refine i_180_492 (fun _ => ?_) (fun h => absurd (show md.toInt ≠ 3 by omega) (fun g => g h))
    refine i_180_500 (x := md) rfl ?_
    refine i_180_502 (fun h => absurd (show md.toInt = 0 by omega) h) (fun _ => ?_)
    refine i_180_505 (x := 0) rfl ?_
    refine i_180_507 (fun _ => ?_) (fun h => absurd h (by decide))
    refine i_180_514 ?_
    refine i_180_515 (lv2 := [(16, Value.int 0), (15, Value.int 0), (14, Value.int 0), (13, Value.int E), (12, Value.int 1), (11, Value.int 0), (10, Value.int C), (9, Value.int U), (8, Value.int E), (7, Value.int 64), (0, Value.ref 128), (1, Value.int (xs 1)), (2, Value.ref 129), (3, Value.int sc), (4, Value.int 0), (5, Value.int 0), (6, Value.int md)]) rfl ?_
    refine i_180_517 (x := 0) rfl ?_
    refine i_180_519 (fun _ => ?_) (fun h => absurd h (by decide))
    refine i_180_556 (x := 128) rfl ?_
    refine i_180_557 (x := (xs 1)) rfl ?_
    refine i_180_558 ?_
    refine i_180_559 (x := 0) rfl ?_
    refine i_180_561 (xgs hm) (Nat.le_of_ble_eq_true rfl) (s_171_1 (xgs hm) (xgn (by decide) (((hk 154 (by decide) (by decide) (by decide) (by decide) (by decide)).trans W0_154))) (by omega) (by omega) (xgn (by decide) hn)) ?_
    refine i_180_564 rfl ?_
    refine i_180_565 (x := 0) rfl ?_
    refine i_180_567 (fun _ => ?_) (fun h => absurd h (by decide))
    refine i_180_574 ?_
    refine i_180_575 (lv2 := [(14, Value.int (-1)), (16, Value.int 0), (15, Value.int 0), (13, Value.int E), (12, Value.int 1), (11, Value.int 0), (10, Value.int C), (9, Value.int U), (8, Value.int E), (7, Value.int 64), (0, Value.ref 128), (1, Value.int (xs 1)), (2, Value.ref 129), (3, Value.int sc), (4, Value.int 0), (5, Value.int 0), (6, Value.int md)]) rfl ?_
    refine i_180_577 ?_
    refine i_180_591 (x := 128) rfl ?_
    refine i_180_592 (v := Value.int 0) (xgn (by decide) (xgn (by decide) (xgs hm))) rfl ?_
    refine i_180_595 (fun h => absurd h (by decide)) (fun _ => ?_)
    refine i_180_598 (x := 128) rfl ?_
    refine i_180_599 (v := Value.int 0) (xgn (by decide) (xgn (by decide) (xgs hm))) rfl ?_
    refine i_180_602 (fun _ => ?_) (fun h => absurd h (by decide))
    refine i_180_629 (x := (-1)) rfl ?_
    refine i_180_631 (fun h => absurd h (by decide)) (fun _ => ?_)
    refine i_180_634 (x := 128) rfl ?_
    refine i_180_635 rfl ?_
    refine i_180_636 (v := Value.int 4) (xgn (by decide) (xgn (by decide) (xgs hm))) rfl ?_
    refine i_180_639 ?_
    refine i_180_640 (c := 5) (by decide) ?_
    refine i_180_641 (fs2 := [Value.ref 129, Value.ref 131, Value.ref 133, Value.ref 135, Value.ref 137, Value.ref 139, Value.ref 141, Value.ref 143, Value.ref 145, Value.ref 147, Value.ref 149, Value.ref 151, Value.ref 153, Value.ref 154, Value.ref 155, Value.ref 156, Value.ref 157, Value.int (-16384), Value.int 16384, Value.int 5, Value.int 0, Value.int 0, Value.ref 158, Value.ref 159, Value.int 0, Value.int 0, Value.int 0, Value.int 0, Value.int 0, Value.int 0, Value.int 0, Value.int 0]) (xgn (by decide) (xgn (by decide) (xgs hm))) (Nat.le_of_ble_eq_true rfl) rfl (by omega) ?_
    refine i_180_644 (x := 0) rfl ?_
    refine i_180_646 (fun _ => ?_) (fun h => absurd h (by decide))
    refine i_180_655 (x := (-1)) rfl ?_
    exact i_180_657 ⟨rfl, rfl⟩
  · refine xKp.set ?_ (fun h hh => by unfold xPM at hh; omega) (xgn (by decide) (xgn (by decide) (xgs hm))) xcs_o
    refine xKp.set ?_ (fun h hh => by unfold xPM at hh; omega) (xgn (by decide) (xgn (by decide) hn)) xcs_a
    refine xKp.set ?_ (fun h hh => by unfold xPM at hh; omega) (xgn (by decide) (((hk 154 (by decide) (by decide) (by decide) (by decide) (by decide)).trans W0_154))) xcs_a
    refine xKp.set ?_ (fun h hh => by unfold xPM at hh; omega) (hm) xcs_o
    exact xKp.refl
theorem sf0_9 {d : Nat} {xs : Nat → Int32} {m : Int64} {sc md : Int32} {w : xW} {B E U C q0 q1 q2 nn : Int32} {g : Nat → Value} (hk : ∀ h, 131 ≤ h → h < 194 → h ≠ 135 → h ≠ 136 → h ≠ 156 → w[h]? = (W0 6 xs)[h]?) (hm : w[128]? = some (Sum.inr (12, [Value.ref 129, Value.ref 131, Value.ref 133, Value.ref 135, Value.ref 137, Value.ref 139, Value.ref 141, Value.ref 143, Value.ref 145, Value.ref 147, Value.ref 149, Value.ref 151, Value.ref 153, Value.ref 154, Value.ref 155, Value.ref 156, Value.ref 157, Value.int (-16384), Value.int 16384, Value.int 0, Value.int 0, Value.int 0, Value.ref 158, Value.ref 159, Value.int 0, Value.int 0, Value.int 0, Value.int 0, Value.int 0, Value.int 0, Value.int 0, Value.int 0]))) (hv : w[129]? = some (Sum.inr (13, [Value.ref 130, Value.int nn]))) (hq : w[135]? = some (Sum.inr (13, [Value.ref 136, Value.int 3]))) (hqw : w[136]? = some (Sum.inl (0, 4700, g))) (hg0 : g (0 : Int32).toInt.toNat = Value.int q0) (hg1 : g (1 : Int32).toInt.toNat = Value.int q1) (hg2 : g (2 : Int32).toInt.toNat = Value.int q2) (hn : w[156]? = some (Sum.inl (2, 17, xup (fun _ => Value.int 0) (xs 1).toInt.toNat (Value.int 0)))) (hbits : ∀ (d' : Nat) (w' : xW), w'[129]? = w[129]? → w'[130]? = w[130]? → xRun d' 181 [Value.ref 129] w' (.inl (some (Value.int B))) w') (hany0 : xPW m → ∀ (d' : Nat) (w' : xW), w'[129]? = w[129]? → w'[130]? = w[130]? → xRun d' 183 [Value.ref 129, Value.int (B - (1 : Int32))] w' (.inl (some (Value.int 0))) w') (hany1 : ¬ xPW m → ∀ (d' : Nat) (w' : xW), w'[129]? = w[129]? → w'[130]? = w[130]? → xRun d' 183 [Value.ref 129, Value.int (B - (1 : Int32))] w' (.inl (some (Value.int 1))) w') (c0 : 0 ≤ (xs 1).toInt) (c1 : (xs 1).toInt < 16) (c2 : (-40000) ≤ sc.toInt) (c3 : sc.toInt ≤ 40000) (c4 : 0 ≤ md.toInt) (c5 : md.toInt ≤ 4) (c6 : 1 ≤ B.toInt) (c7 : B.toInt ≤ 64) (c8 : E.toInt = B.toInt + sc.toInt) (c9 : U.toInt = E.toInt - 64) (c10 : 0 ≤ q2.toInt) (c11 : (xbn q2).toInt = 4) (c12 : E.toInt ≤ 16384) (c13 : E.toInt < (-16384)) (c14 : E.toInt = (-16385)) (c15 : xPW m) (c16 : md.toInt ≠ 4) (c17 : md.toInt ≠ 2) (c18 : md.toInt ≠ 3) (c19 : md.toInt ≠ 0) : ∃ w2, xEv (d + 6) 180 207 [(14, Value.int 0), (13, Value.int E), (12, Value.int 1), (11, Value.int 0), (10, Value.int C), (9, Value.int U), (8, Value.int E), (7, Value.int 64), (0, Value.ref 128), (1, Value.int (xs 1)), (2, Value.ref 129), (3, Value.int sc), (4, Value.int 0), (5, Value.int 0), (6, Value.int md)] [] w (fun o' w' => o' = .inl (some (Value.int (-1))) ∧ w' = w2) ∧ xKp w w2 xPM ∧ w2[128]? = some (Sum.inr (12, [Value.ref 129, Value.ref 131, Value.ref 133, Value.ref 135, Value.ref 137, Value.ref 139, Value.ref 141, Value.ref 143, Value.ref 145, Value.ref 147, Value.ref 149, Value.ref 151, Value.ref 153, Value.ref 154, Value.ref 155, Value.ref 156, Value.ref 157, Value.int (-16384), Value.int 16384, Value.int 5, Value.int 0, Value.int 0, Value.ref 158, Value.ref 159, Value.int 0, Value.int 0, Value.int 0, Value.int 0, Value.int 0, Value.int 0, Value.int 0, Value.int 0])) := by
  refine ⟨((((w.set 128 (Sum.inr (12, [Value.ref 129, Value.ref 131, Value.ref 133, Value.ref 135, Value.ref 137, Value.ref 139, Value.ref 141, Value.ref 143, Value.ref 145, Value.ref 147, Value.ref 149, Value.ref 151, Value.ref 153, Value.ref 154, Value.ref 155, Value.ref 156, Value.ref 157, Value.int (-16384), Value.int 16384, Value.int 4, Value.int 0, Value.int 0, Value.ref 158, Value.ref 159, Value.int 0, Value.int 0, Value.int 0, Value.int 0, Value.int 0, Value.int 0, Value.int 0, Value.int 0]))).set 154 (Sum.inl (0, 17, xup (fun _ => Value.int 0) (xs 1).toInt.toNat (Value.int 2)))).set 156 (Sum.inl (2, 17, xup (xup (fun _ => Value.int 0) (xs 1).toInt.toNat (Value.int 0)) (xs 1).toInt.toNat (Value.int 0)))).set 128 (Sum.inr (12, [Value.ref 129, Value.ref 131, Value.ref 133, Value.ref 135, Value.ref 137, Value.ref 139, Value.ref 141, Value.ref 143, Value.ref 145, Value.ref 147, Value.ref 149, Value.ref 151, Value.ref 153, Value.ref 154, Value.ref 155, Value.ref 156, Value.ref 157, Value.int (-16384), Value.int 16384, Value.int 5, Value.int 0, Value.int 0, Value.ref 158, Value.ref 159, Value.int 0, Value.int 0, Value.int 0, Value.int 0, Value.int 0, Value.int 0, Value.int 0, Value.int 0]))), ?_, ?_, xgs (xgn (by decide) (xgn (by decide) (xgs hm)))⟩
  · refine i_180_207 (x := 128) rfl ?_
    refine i_180_208 (v := Value.int 0) hm rfl ?_
    refine i_180_211 (fun h => absurd h (by decide)) (fun _ => ?_)
    refine i_180_214 (x := 128) rfl ?_
    refine i_180_215 (v := Value.ref 135) hm rfl ?_
    refine i_180_218 (v := Value.int 3) hq rfl ?_
    refine i_180_221 (fun h => absurd h (by decide)) (fun _ => ?_)
    refine i_180_224 (x := E) rfl ?_
    refine i_180_226 (x := 128) rfl ?_
    refine i_180_227 (v := Value.int 16384) hm rfl ?_
    refine i_180_230 (fun _ => ?_) (fun h => absurd (show E.toInt ≤ 16384 by omega) (Int.not_le.mpr h))
    refine i_180_367 (x := 128) rfl ?_
    refine i_180_368 (v := Value.ref 135) hm rfl ?_
    refine i_180_371 (v := Value.int 3) hq rfl ?_
    refine i_180_374 (fun _ => ?_) (fun h => absurd h (by decide))
    refine i_180_392 (x := 128) rfl ?_
    refine i_180_393 (v := Value.int 0) hm rfl ?_
    refine i_180_396 (fun h => absurd h (by decide)) (fun _ => ?_)
    refine i_180_399 (x := 128) rfl ?_
    refine i_180_400 (v := Value.int 0) hm rfl ?_
    refine i_180_403 (fun h => absurd h (by decide)) (fun _ => ?_)
    refine i_180_406 (x := E) rfl ?_
    refine i_180_408 (x := 128) rfl ?_
    refine i_180_409 (v := Value.int (-16384)) hm rfl ?_
    refine i_180_412 (fun h => absurd (show E.toInt < (-16384) by omega) (Int.not_lt.mpr h)) (fun _ => ?_)
    refine i_180_415 (x := 128) rfl ?_
    refine i_180_416 rfl ?_
    refine i_180_417 (v := Value.int 0) hm rfl ?_
    refine i_180_420 ?_
    refine i_180_421 (c := 4) (by decide) ?_
    refine i_180_422 (fs2 := [Value.ref 129, Value.ref 131, Value.ref 133, Value.ref 135, Value.ref 137, Value.ref 139, Value.ref 141, Value.ref 143, Value.ref 145, Value.ref 147, Value.ref 149, Value.ref 151, Value.ref 153, Value.ref 154, Value.ref 155, Value.ref 156, Value.ref 157, Value.int (-16384), Value.int 16384, Value.int 4, Value.int 0, Value.int 0, Value.ref 158, Value.ref 159, Value.int 0, Value.int 0, Value.int 0, Value.int 0, Value.int 0, Value.int 0, Value.int 0, Value.int 0]) hm (Nat.le_of_ble_eq_true rfl) rfl (by omega) ?_
    refine i_180_425 (x := E) rfl ?_
    refine i_180_427 (x := 128) rfl ?_
    refine i_180_428 (v := Value.int (-16384)) (xgs hm) rfl ?_
    refine i_180_431 ?_
    refine i_180_432 (c := (-16385)) (by decide) ?_
    refine i_180_433 (fun h => absurd (show E.toInt ≤ (-16385) by omega) (Int.not_le.mpr h)) (fun _ => ?_)
    refine i_180_436 (x := E) rfl ?_
    refine i_180_438 (x := 128) rfl ?_
    refine i_180_439 (v := Value.int (-16384)) (xgs hm) rfl ?_
    refine i_180_442 ?_
    refine i_180_443 (c := (-16385)) (by decide) ?_
    refine i_180_444 (fun h => absurd (show E.toInt = (-16385) by omega) h) (fun _ => ?_)
    refine i_180_447 (x := 0) rfl ?_
    refine i_180_449 (fun h => absurd h (by decide)) (fun _ => ?_)
    refine i_180_452 (x := 129) rfl ?_
    refine i_180_453 (x := 129) rfl ?_
    refine i_180_454 (xgn (by decide) hv) (Nat.le_of_ble_eq_true rfl) (hbits _ _ (xgn (by omega) (rfl)) (xgn (by omega) (rfl))) ?_
    refine i_180_457 ?_
    refine i_180_458 (c := (B - (1 : Int32))) rfl ?_
    refine i_180_459 (xgn (by decide) hv) (Nat.le_of_ble_eq_true rfl) (hany0 c15 _ _ (xgn (by omega) (rfl)) (xgn (by omega) (rfl))) ?_
    refine i_180_462 (fun _ => ?_) (fun h => absurd h (by decide))
    refine i_180_469 ?_
    refine i_180_470 (lv2 := [(15, Value.int 0), (14, Value.int 0), (13, Value.int E), (12, Value.int 1), (11, Value.int 0), (10, Value.int C), (9, Value.int U), (8, Value.int E), (7, Value.int 64), (0, Value.ref 128), (1, Value.int (xs 1)), (2, Value.ref 129), (3, Value.int sc), (4, Value.int 0), (5, Value.int 0), (6, Value.int md)]) rfl ?_
    refine i_180_472 (x := md) rfl ?_
    refine i_180_474 ?_
    refine i_180_475 (fun h => absurd (show md.toInt ≠ 4 by omega) (fun g => g h)) (fun _ => ?_)
    refine i_180_478 (x := md) rfl ?_
    refine i_180_480 ?_
    refine i_180_481 (fun _ => ?_) (fun h => absurd (show md.toInt ≠ 2 by omega) (fun g => g h))
    refine i_180_489 (x := md) rfl ?_
    refine i_180_491 ?_
    refine i_180_492 (fun _ => ?_) (fun h => absurd (show md.toInt ≠ 3 by omega) (fun g => g h))
    refine i_180_500 (x := md) rfl ?_
    refine i_180_502 (fun _ => ?_) (fun h => absurd (show md.toInt ≠ 0 by omega) (fun g => g h))
    refine i_180_514 ?_
    refine i_180_515 (lv2 := [(16, Value.int 0), (15, Value.int 0), (14, Value.int 0), (13, Value.int E), (12, Value.int 1), (11, Value.int 0), (10, Value.int C), (9, Value.int U), (8, Value.int E), (7, Value.int 64), (0, Value.ref 128), (1, Value.int (xs 1)), (2, Value.ref 129), (3, Value.int sc), (4, Value.int 0), (5, Value.int 0), (6, Value.int md)]) rfl ?_
    refine i_180_517 (x := 0) rfl ?_
    refine i_180_519 (fun _ => ?_) (fun h => absurd h (by decide))
    refine i_180_556 (x := 128) rfl ?_
    refine i_180_557 (x := (xs 1)) rfl ?_
    refine i_180_558 ?_
    refine i_180_559 (x := 0) rfl ?_
    refine i_180_561 (xgs hm) (Nat.le_of_ble_eq_true rfl) (s_171_1 (xgs hm) (xgn (by decide) (((hk 154 (by decide) (by decide) (by decide) (by decide) (by decide)).trans W0_154))) (by omega) (by omega) (xgn (by decide) hn)) ?_
    refine i_180_564 rfl ?_
    refine i_180_565 (x := 0) rfl ?_
    refine i_180_567 (fun _ => ?_) (fun h => absurd h (by decide))
    refine i_180_574 ?_
    refine i_180_575 (lv2 := [(14, Value.int (-1)), (16, Value.int 0), (15, Value.int 0), (13, Value.int E), (12, Value.int 1), (11, Value.int 0), (10, Value.int C), (9, Value.int U), (8, Value.int E), (7, Value.int 64), (0, Value.ref 128), (1, Value.int (xs 1)), (2, Value.ref 129), (3, Value.int sc), (4, Value.int 0), (5, Value.int 0), (6, Value.int md)]) rfl ?_
    refine i_180_577 ?_
    refine i_180_591 (x := 128) rfl ?_
    refine i_180_592 (v := Value.int 0) (xgn (by decide) (xgn (by decide) (xgs hm))) rfl ?_
    refine i_180_595 (fun h => absurd h (by decide)) (fun _ => ?_)
    refine i_180_598 (x := 128) rfl ?_
    refine i_180_599 (v := Value.int 0) (xgn (by decide) (xgn (by decide) (xgs hm))) rfl ?_
    refine i_180_602 (fun _ => ?_) (fun h => absurd h (by decide))
    refine i_180_629 (x := (-1)) rfl ?_
    refine i_180_631 (fun h => absurd h (by decide)) (fun _ => ?_)
    refine i_180_634 (x := 128) rfl ?_
    refine i_180_635 rfl ?_
    refine i_180_636 (v := Value.int 4) (xgn (by decide) (xgn (by decide) (xgs hm))) rfl ?_
    refine i_180_639 ?_
    refine i_180_640 (c := 5) (by decide) ?_
    refine i_180_641 (fs2 := [Value.ref 129, Value.ref 131, Value.ref 133, Value.ref 135, Value.ref 137, Value.ref 139, Value.ref 141, Value.ref 143, Value.ref 145, Value.ref 147, Value.ref 149, Value.ref 151, Value.ref 153, Value.ref 154, Value.ref 155, Value.ref 156, Value.ref 157, Value.int (-16384), Value.int 16384, Value.int 5, Value.int 0, Value.int 0, Value.ref 158, Value.ref 159, Value.int 0, Value.int 0, Value.int 0, Value.int 0, Value.int 0, Value.int 0, Value.int 0, Value.int 0]) (xgn (by decide) (xgn (by decide) (xgs hm))) (Nat.le_of_ble_eq_true rfl) rfl (by omega) ?_
    refine i_180_644 (x := 0) rfl ?_
    refine i_180_646 (fun _ => ?_) (fun h => absurd h (by decide))
    refine i_180_655 (x := (-1)) rfl ?_
    exact i_180_657 ⟨rfl, rfl⟩
  · refine xKp.set ?_ (fun h hh => by unfold xPM at hh; omega) (xgn (by decide) (xgn (by decide) (xgs hm))) xcs_o
    refine xKp.set ?_ (fun h hh => by unfold xPM at hh; omega) (xgn (by decide) (xgn (by decide) hn)) xcs_a
    refine xKp.set ?_ (fun h hh => by unfold xPM at hh; omega) (xgn (by decide) (((hk 154 (by decide) (by decide) (by decide) (by decide) (by decide)).trans W0_154))) xcs_a
    refine xKp.set ?_ (fun h hh => by unfold xPM at hh; omega) (hm) xcs_o
    exact xKp.refl
theorem sf0_10 {d : Nat} {xs : Nat → Int32} {m : Int64} {sc md : Int32} {w : xW} {B E U C q0 q1 q2 nn : Int32} {g : Nat → Value} (hk : ∀ h, 131 ≤ h → h < 194 → h ≠ 135 → h ≠ 136 → h ≠ 156 → w[h]? = (W0 6 xs)[h]?) (hm : w[128]? = some (Sum.inr (12, [Value.ref 129, Value.ref 131, Value.ref 133, Value.ref 135, Value.ref 137, Value.ref 139, Value.ref 141, Value.ref 143, Value.ref 145, Value.ref 147, Value.ref 149, Value.ref 151, Value.ref 153, Value.ref 154, Value.ref 155, Value.ref 156, Value.ref 157, Value.int (-16384), Value.int 16384, Value.int 0, Value.int 0, Value.int 0, Value.ref 158, Value.ref 159, Value.int 0, Value.int 0, Value.int 0, Value.int 0, Value.int 0, Value.int 0, Value.int 0, Value.int 0]))) (hv : w[129]? = some (Sum.inr (13, [Value.ref 130, Value.int nn]))) (hq : w[135]? = some (Sum.inr (13, [Value.ref 136, Value.int 3]))) (hqw : w[136]? = some (Sum.inl (0, 4700, g))) (hg0 : g (0 : Int32).toInt.toNat = Value.int q0) (hg1 : g (1 : Int32).toInt.toNat = Value.int q1) (hg2 : g (2 : Int32).toInt.toNat = Value.int q2) (hn : w[156]? = some (Sum.inl (2, 17, xup (fun _ => Value.int 0) (xs 1).toInt.toNat (Value.int 0)))) (hbits : ∀ (d' : Nat) (w' : xW), w'[129]? = w[129]? → w'[130]? = w[130]? → xRun d' 181 [Value.ref 129] w' (.inl (some (Value.int B))) w') (hany0 : xPW m → ∀ (d' : Nat) (w' : xW), w'[129]? = w[129]? → w'[130]? = w[130]? → xRun d' 183 [Value.ref 129, Value.int (B - (1 : Int32))] w' (.inl (some (Value.int 0))) w') (hany1 : ¬ xPW m → ∀ (d' : Nat) (w' : xW), w'[129]? = w[129]? → w'[130]? = w[130]? → xRun d' 183 [Value.ref 129, Value.int (B - (1 : Int32))] w' (.inl (some (Value.int 1))) w') (c0 : 0 ≤ (xs 1).toInt) (c1 : (xs 1).toInt < 16) (c2 : (-40000) ≤ sc.toInt) (c3 : sc.toInt ≤ 40000) (c4 : 0 ≤ md.toInt) (c5 : md.toInt ≤ 4) (c6 : 1 ≤ B.toInt) (c7 : B.toInt ≤ 64) (c8 : E.toInt = B.toInt + sc.toInt) (c9 : U.toInt = E.toInt - 64) (c10 : 0 ≤ q2.toInt) (c11 : (xbn q2).toInt = 4) (c12 : E.toInt ≤ 16384) (c13 : E.toInt < (-16384)) (c14 : E.toInt = (-16385)) (c15 : ¬ xPW m) (c16 : md.toInt = 4) : ∃ w2, xEv (d + 6) 180 207 [(14, Value.int 0), (13, Value.int E), (12, Value.int 1), (11, Value.int 0), (10, Value.int C), (9, Value.int U), (8, Value.int E), (7, Value.int 64), (0, Value.ref 128), (1, Value.int (xs 1)), (2, Value.ref 129), (3, Value.int sc), (4, Value.int 0), (5, Value.int 0), (6, Value.int md)] [] w (fun o' w' => o' = .inl (some (Value.int 1)) ∧ w' = w2) ∧ xKp w w2 xPM ∧ w2[128]? = some (Sum.inr (12, [Value.ref 129, Value.ref 131, Value.ref 133, Value.ref 135, Value.ref 137, Value.ref 139, Value.ref 141, Value.ref 143, Value.ref 145, Value.ref 147, Value.ref 149, Value.ref 151, Value.ref 153, Value.ref 154, Value.ref 155, Value.ref 156, Value.ref 157, Value.int (-16384), Value.int 16384, Value.int 5, Value.int 0, Value.int 0, Value.ref 158, Value.ref 159, Value.int 0, Value.int 0, Value.int 0, Value.int 0, Value.int 0, Value.int 0, Value.int 0, Value.int 0])) := by
  refine ⟨(((((((((((((((w.set 128 (Sum.inr (12, [Value.ref 129, Value.ref 131, Value.ref 133, Value.ref 135, Value.ref 137, Value.ref 139, Value.ref 141, Value.ref 143, Value.ref 145, Value.ref 147, Value.ref 149, Value.ref 151, Value.ref 153, Value.ref 154, Value.ref 155, Value.ref 156, Value.ref 157, Value.int (-16384), Value.int 16384, Value.int 4, Value.int 0, Value.int 0, Value.ref 158, Value.ref 159, Value.int 0, Value.int 0, Value.int 0, Value.int 0, Value.int 0, Value.int 0, Value.int 0, Value.int 0]))).set 151 (Sum.inr (13, [Value.ref 152, Value.int 0]))).set 152 (Sum.inl (0, 4700, xup (fun _ => Value.int 0) (0 : Int32).toInt.toNat (Value.int 1)))).set 151 (Sum.inr (13, [Value.ref 152, Value.int 1]))).set (160 + 2 * (xs 1).toInt.toNat) (Sum.inr (13, [Value.ref (161 + 2 * (xs 1).toInt.toNat), Value.int 0]))).set 138 (Sum.inl (0, 4700, xcp (xup (fun _ => Value.int 0) (0 : Int32).toInt.toNat (Value.int 1)) (fun _ => Value.int 0) (0 : Int32).toInt.toNat (0 : Int32).toInt.toNat (1 : Int32).toInt.toNat))).set 137 (Sum.inr (13, [Value.ref 138, Value.int 1]))).set 138 (Sum.inl (0, 4700, xup (xup (xup (xup (xup (xcp (xup (fun _ => Value.int 0) (0 : Int32).toInt.toNat (Value.int 1)) (fun _ => Value.int 0) (0 : Int32).toInt.toNat (0 : Int32).toInt.toNat (1 : Int32).toInt.toNat) (3 : Int32).toInt.toNat (Value.int 0)) (3 : Int32).toInt.toNat (Value.int 0)) (2 : Int32).toInt.toNat (Value.int 8)) (0 : Int32).toInt.toNat (Value.int 0)) (1 : Int32).toInt.toNat (Value.int 0)))).set 137 (Sum.inr (13, [Value.ref 138, Value.int 3]))).set (161 + 2 * (xs 1).toInt.toNat) (Sum.inl (0, 140, xcp (xup (xup (xup (xup (xup (xcp (xup (fun _ => Value.int 0) (0 : Int32).toInt.toNat (Value.int 1)) (fun _ => Value.int 0) (0 : Int32).toInt.toNat (0 : Int32).toInt.toNat (1 : Int32).toInt.toNat) (3 : Int32).toInt.toNat (Value.int 0)) (3 : Int32).toInt.toNat (Value.int 0)) (2 : Int32).toInt.toNat (Value.int 8)) (0 : Int32).toInt.toNat (Value.int 0)) (1 : Int32).toInt.toNat (Value.int 0)) (fun _ => Value.int 0) (0 : Int32).toInt.toNat (0 : Int32).toInt.toNat (3 : Int32).toInt.toNat))).set (160 + 2 * (xs 1).toInt.toNat) (Sum.inr (13, [Value.ref (161 + 2 * (xs 1).toInt.toNat), Value.int 3]))).set 154 (Sum.inl (0, 17, xup (fun _ => Value.int 0) (xs 1).toInt.toNat (Value.int 3)))).set 155 (Sum.inl (0, 17, xup (fun _ => Value.int 0) (xs 1).toInt.toNat (Value.int (-16384))))).set 156 (Sum.inl (2, 17, xup (xup (fun _ => Value.int 0) (xs 1).toInt.toNat (Value.int 0)) (xs 1).toInt.toNat (Value.int 0)))).set 128 (Sum.inr (12, [Value.ref 129, Value.ref 131, Value.ref 133, Value.ref 135, Value.ref 137, Value.ref 139, Value.ref 141, Value.ref 143, Value.ref 145, Value.ref 147, Value.ref 149, Value.ref 151, Value.ref 153, Value.ref 154, Value.ref 155, Value.ref 156, Value.ref 157, Value.int (-16384), Value.int 16384, Value.int 5, Value.int 0, Value.int 0, Value.ref 158, Value.ref 159, Value.int 0, Value.int 0, Value.int 0, Value.int 0, Value.int 0, Value.int 0, Value.int 0, Value.int 0]))), ?_, ?_, xgs (xgn (by decide) (xgn (by decide) (xgn (by decide) (xgn (by omega) (xgn (by omega) (xgn (by decide) (xgn (by decide) (xgn (by decide) (xgn (by decide) (xgn (by omega) (xgn (by decide) (xgn (by decide) (xgn (by decide) (xgs hm))))))))))))))⟩
  · refine i_180_207 (x := 128) rfl ?_
    refine i_180_208 (v := Value.int 0) hm rfl ?_
    refine i_180_211 (fun h => absurd h (by decide)) (fun _ => ?_)
    refine i_180_214 (x := 128) rfl ?_
    refine i_180_215 (v := Value.ref 135) hm rfl ?_
    refine i_180_218 (v := Value.int 3) hq rfl ?_
    refine i_180_221 (fun h => absurd h (by decide)) (fun _ => ?_)
    refine i_180_224 (x := E) rfl ?_
    refine i_180_226 (x := 128) rfl ?_
    refine i_180_227 (v := Value.int 16384) hm rfl ?_
    refine i_180_230 (fun _ => ?_) (fun h => absurd (show E.toInt ≤ 16384 by omega) (Int.not_le.mpr h))
    refine i_180_367 (x := 128) rfl ?_
    refine i_180_368 (v := Value.ref 135) hm rfl ?_
    refine i_180_371 (v := Value.int 3) hq rfl ?_
    refine i_180_374 (fun _ => ?_) (fun h => absurd h (by decide))
    refine i_180_392 (x := 128) rfl ?_
    refine i_180_393 (v := Value.int 0) hm rfl ?_
    refine i_180_396 (fun h => absurd h (by decide)) (fun _ => ?_)
    refine i_180_399 (x := 128) rfl ?_
    refine i_180_400 (v := Value.int 0) hm rfl ?_
    refine i_180_403 (fun h => absurd h (by decide)) (fun _ => ?_)
    refine i_180_406 (x := E) rfl ?_
    refine i_180_408 (x := 128) rfl ?_
    refine i_180_409 (v := Value.int (-16384)) hm rfl ?_
    refine i_180_412 (fun h => absurd (show E.toInt < (-16384) by omega) (Int.not_lt.mpr h)) (fun _ => ?_)
    refine i_180_415 (x := 128) rfl ?_
    refine i_180_416 rfl ?_
    refine i_180_417 (v := Value.int 0) hm rfl ?_
    refine i_180_420 ?_
    refine i_180_421 (c := 4) (by decide) ?_
    refine i_180_422 (fs2 := [Value.ref 129, Value.ref 131, Value.ref 133, Value.ref 135, Value.ref 137, Value.ref 139, Value.ref 141, Value.ref 143, Value.ref 145, Value.ref 147, Value.ref 149, Value.ref 151, Value.ref 153, Value.ref 154, Value.ref 155, Value.ref 156, Value.ref 157, Value.int (-16384), Value.int 16384, Value.int 4, Value.int 0, Value.int 0, Value.ref 158, Value.ref 159, Value.int 0, Value.int 0, Value.int 0, Value.int 0, Value.int 0, Value.int 0, Value.int 0, Value.int 0]) hm (Nat.le_of_ble_eq_true rfl) rfl (by omega) ?_
    refine i_180_425 (x := E) rfl ?_
    refine i_180_427 (x := 128) rfl ?_
    refine i_180_428 (v := Value.int (-16384)) (xgs hm) rfl ?_
    refine i_180_431 ?_
    refine i_180_432 (c := (-16385)) (by decide) ?_
    refine i_180_433 (fun h => absurd (show E.toInt ≤ (-16385) by omega) (Int.not_le.mpr h)) (fun _ => ?_)
    refine i_180_436 (x := E) rfl ?_
    refine i_180_438 (x := 128) rfl ?_
    refine i_180_439 (v := Value.int (-16384)) (xgs hm) rfl ?_
    refine i_180_442 ?_
    refine i_180_443 (c := (-16385)) (by decide) ?_
    refine i_180_444 (fun h => absurd (show E.toInt = (-16385) by omega) h) (fun _ => ?_)
    refine i_180_447 (x := 0) rfl ?_
    refine i_180_449 (fun h => absurd h (by decide)) (fun _ => ?_)
    refine i_180_452 (x := 129) rfl ?_
    refine i_180_453 (x := 129) rfl ?_
    refine i_180_454 (xgn (by decide) hv) (Nat.le_of_ble_eq_true rfl) (hbits _ _ (xgn (by omega) (rfl)) (xgn (by omega) (rfl))) ?_
    refine i_180_457 ?_
    refine i_180_458 (c := (B - (1 : Int32))) rfl ?_
    refine i_180_459 (xgn (by decide) hv) (Nat.le_of_ble_eq_true rfl) (hany1 c15 _ _ (xgn (by omega) (rfl)) (xgn (by omega) (rfl))) ?_
    refine i_180_462 (fun h => absurd h (by decide)) (fun _ => ?_)
    refine i_180_465 ?_
    refine i_180_466 ?_
    refine i_180_470 (lv2 := [(15, Value.int 1), (14, Value.int 0), (13, Value.int E), (12, Value.int 1), (11, Value.int 0), (10, Value.int C), (9, Value.int U), (8, Value.int E), (7, Value.int 64), (0, Value.ref 128), (1, Value.int (xs 1)), (2, Value.ref 129), (3, Value.int sc), (4, Value.int 0), (5, Value.int 0), (6, Value.int md)]) rfl ?_
    refine i_180_472 (x := md) rfl ?_
    refine i_180_474 ?_
    refine i_180_475 (fun _ => ?_) (fun h => absurd (show md.toInt = 4 by omega) h)
    refine i_180_510 ?_
    refine i_180_511 ?_
    refine i_180_515 (lv2 := [(16, Value.int 1), (15, Value.int 1), (14, Value.int 0), (13, Value.int E), (12, Value.int 1), (11, Value.int 0), (10, Value.int C), (9, Value.int U), (8, Value.int E), (7, Value.int 64), (0, Value.ref 128), (1, Value.int (xs 1)), (2, Value.ref 129), (3, Value.int sc), (4, Value.int 0), (5, Value.int 0), (6, Value.int md)]) rfl ?_
    refine i_180_517 (x := 1) rfl ?_
    refine i_180_519 (fun h => absurd h (by decide)) (fun _ => ?_)
    refine i_180_522 (x := 128) rfl ?_
    refine i_180_523 (v := Value.ref 151) (xgs hm) rfl ?_
    refine i_180_526 ?_
    refine i_180_527 (xgn (by decide) (((hk 151 (by decide) (by decide) (by decide) (by decide) (by decide)).trans W0_151))) (Nat.le_of_ble_eq_true rfl) (s_179_2 (xgn (by decide) (((hk 151 (by decide) (by decide) (by decide) (by decide) (by decide)).trans W0_151))) (xgn (by decide) (((hk 152 (by decide) (by decide) (by decide) (by decide) (by decide)).trans W0_152)))) ?_
    refine i_180_530 (x := 128) rfl ?_
    refine i_180_531 (x := (xs 1)) rfl ?_
    refine i_180_532 (x := 128) rfl ?_
    refine i_180_533 (v := Value.ref 151) (xgn (by decide) (xgn (by decide) (xgn (by decide) (xgs hm)))) rfl ?_
    refine i_180_536 (x := 128) rfl ?_
    refine i_180_537 (v := Value.int (-16384)) (xgn (by decide) (xgn (by decide) (xgn (by decide) (xgs hm)))) rfl ?_
    refine i_180_540 ?_
    refine i_180_541 (c := (-16385)) (by decide) ?_
    refine i_180_542 (xgn (by decide) (xgn (by decide) (xgn (by decide) (xgs hm)))) (Nat.le_of_ble_eq_true rfl) (s_192_1 (xgn (by decide) (xgn (by decide) (xgn (by decide) (xgs hm)))) (xgn (by decide) (xgn (by decide) (xgn (by decide) (xgn (by decide) (((hk 153 (by decide) (by decide) (by decide) (by decide) (by decide)).trans W0_153)))))) (by omega) (by omega) (gprec_at (by omega)) (xgs (xgn (by decide) (xgs (xgn (by decide) (((hk 151 (by decide) (by decide) (by decide) (by decide) (by decide)).trans W0_151)))))) (xgn (by decide) (xgs (xgn (by decide) (xgn (by decide) (((hk 152 (by decide) (by decide) (by decide) (by decide) (by decide)).trans W0_152)))))) xup_s (xgn (by decide) (xgn (by decide) (xgn (by decide) (xgn (by decide) (((hk 157 (by decide) (by decide) (by decide) (by decide) (by decide)).trans W0_157)))))) (gpart_at (by omega)) (xgn (by omega) (xgn (by omega) (xgn (by omega) (xgn (by omega) (((hk _ (by omega) (by omega) (by omega) (by omega) (by omega)).trans (W0_part (by omega)))))))) (by omega) (by omega) (by omega) (xgn (by decide) (xgn (by decide) (xgn (by decide) (xgn (by decide) (((hk 137 (by decide) (by decide) (by decide) (by decide) (by decide)).trans W0_137)))))) (by omega) (by omega) (by omega) (xgn (by decide) (xgn (by decide) (xgn (by decide) (xgn (by decide) (((hk 138 (by decide) (by decide) (by decide) (by decide) (by decide)).trans W0_138)))))) (by omega) (by omega) (by omega) (by omega) (by omega) (by omega) (xgn (by omega) (xgn (by omega) (xgn (by omega) (xgn (by omega) (((hk _ (by omega) (by omega) (by omega) (by omega) (by omega)).trans (W0_pw (by omega)))))))) (by omega) (by omega) (by omega) (by omega) (by omega) (by omega) (xgn (by decide) (xgn (by decide) (xgn (by decide) (xgn (by decide) (((hk 154 (by decide) (by decide) (by decide) (by decide) (by decide)).trans W0_154)))))) (by omega) (by omega) (xgn (by decide) (xgn (by decide) (xgn (by decide) (xgn (by decide) (((hk 155 (by decide) (by decide) (by decide) (by decide) (by decide)).trans W0_155))))))) ?_
    refine i_180_545 (x := 128) rfl ?_
    refine i_180_546 (v := Value.ref 156) (xgn (by decide) (xgn (by decide) (xgn (by omega) (xgn (by omega) (xgn (by decide) (xgn (by decide) (xgn (by decide) (xgn (by decide) (xgn (by omega) (xgn (by decide) (xgn (by decide) (xgn (by decide) (xgs hm))))))))))))) rfl ?_
    refine i_180_549 (x := (xs 1)) rfl ?_
    refine i_180_550 (x := 0) rfl ?_
    refine i_180_552z (v := Value.int 0) (xgn (by decide) (xgn (by decide) (xgn (by omega) (xgn (by omega) (xgn (by decide) (xgn (by decide) (xgn (by decide) (xgn (by decide) (xgn (by omega) (xgn (by decide) (xgn (by decide) (xgn (by decide) (xgn (by decide) hn))))))))))))) (by omega) (by omega) (by omega) rfl ?_
    refine i_180_553 ?_
    refine i_180_565 (x := 1) rfl ?_
    refine i_180_567 (fun h => absurd h (by decide)) (fun _ => ?_)
    refine i_180_570 ?_
    refine i_180_571 ?_
    refine i_180_575 (lv2 := [(14, Value.int 1), (16, Value.int 1), (15, Value.int 1), (13, Value.int E), (12, Value.int 1), (11, Value.int 0), (10, Value.int C), (9, Value.int U), (8, Value.int E), (7, Value.int 64), (0, Value.ref 128), (1, Value.int (xs 1)), (2, Value.ref 129), (3, Value.int sc), (4, Value.int 0), (5, Value.int 0), (6, Value.int md)]) rfl ?_
    refine i_180_577 ?_
    refine i_180_591 (x := 128) rfl ?_
    refine i_180_592 (v := Value.int 0) (xgn (by decide) (xgn (by decide) (xgn (by decide) (xgn (by omega) (xgn (by omega) (xgn (by decide) (xgn (by decide) (xgn (by decide) (xgn (by decide) (xgn (by omega) (xgn (by decide) (xgn (by decide) (xgn (by decide) (xgs hm)))))))))))))) rfl ?_
    refine i_180_595 (fun h => absurd h (by decide)) (fun _ => ?_)
    refine i_180_598 (x := 128) rfl ?_
    refine i_180_599 (v := Value.int 0) (xgn (by decide) (xgn (by decide) (xgn (by decide) (xgn (by omega) (xgn (by omega) (xgn (by decide) (xgn (by decide) (xgn (by decide) (xgn (by decide) (xgn (by omega) (xgn (by decide) (xgn (by decide) (xgn (by decide) (xgs hm)))))))))))))) rfl ?_
    refine i_180_602 (fun _ => ?_) (fun h => absurd h (by decide))
    refine i_180_629 (x := 1) rfl ?_
    refine i_180_631 (fun h => absurd h (by decide)) (fun _ => ?_)
    refine i_180_634 (x := 128) rfl ?_
    refine i_180_635 rfl ?_
    refine i_180_636 (v := Value.int 4) (xgn (by decide) (xgn (by decide) (xgn (by decide) (xgn (by omega) (xgn (by omega) (xgn (by decide) (xgn (by decide) (xgn (by decide) (xgn (by decide) (xgn (by omega) (xgn (by decide) (xgn (by decide) (xgn (by decide) (xgs hm)))))))))))))) rfl ?_
    refine i_180_639 ?_
    refine i_180_640 (c := 5) (by decide) ?_
    refine i_180_641 (fs2 := [Value.ref 129, Value.ref 131, Value.ref 133, Value.ref 135, Value.ref 137, Value.ref 139, Value.ref 141, Value.ref 143, Value.ref 145, Value.ref 147, Value.ref 149, Value.ref 151, Value.ref 153, Value.ref 154, Value.ref 155, Value.ref 156, Value.ref 157, Value.int (-16384), Value.int 16384, Value.int 5, Value.int 0, Value.int 0, Value.ref 158, Value.ref 159, Value.int 0, Value.int 0, Value.int 0, Value.int 0, Value.int 0, Value.int 0, Value.int 0, Value.int 0]) (xgn (by decide) (xgn (by decide) (xgn (by decide) (xgn (by omega) (xgn (by omega) (xgn (by decide) (xgn (by decide) (xgn (by decide) (xgn (by decide) (xgn (by omega) (xgn (by decide) (xgn (by decide) (xgn (by decide) (xgs hm)))))))))))))) (Nat.le_of_ble_eq_true rfl) rfl (by omega) ?_
    refine i_180_644 (x := 0) rfl ?_
    refine i_180_646 (fun _ => ?_) (fun h => absurd h (by decide))
    refine i_180_655 (x := 1) rfl ?_
    exact i_180_657 ⟨rfl, rfl⟩
  · refine xKp.set ?_ (fun h hh => by unfold xPM at hh; omega) (xgn (by decide) (xgn (by decide) (xgn (by decide) (xgn (by omega) (xgn (by omega) (xgn (by decide) (xgn (by decide) (xgn (by decide) (xgn (by decide) (xgn (by omega) (xgn (by decide) (xgn (by decide) (xgn (by decide) (xgs hm)))))))))))))) xcs_o
    refine xKp.set ?_ (fun h hh => by unfold xPM at hh; omega) (xgn (by decide) (xgn (by decide) (xgn (by omega) (xgn (by omega) (xgn (by decide) (xgn (by decide) (xgn (by decide) (xgn (by decide) (xgn (by omega) (xgn (by decide) (xgn (by decide) (xgn (by decide) (xgn (by decide) hn))))))))))))) xcs_a
    refine xKp.set ?_ (fun h hh => by unfold xPM at hh; omega) (xgn (by decide) (xgn (by omega) (xgn (by omega) (xgn (by decide) (xgn (by decide) (xgn (by decide) (xgn (by decide) (xgn (by omega) (xgn (by decide) (xgn (by decide) (xgn (by decide) (xgn (by decide) (((hk 155 (by decide) (by decide) (by decide) (by decide) (by decide)).trans W0_155)))))))))))))) xcs_a
    refine xKp.set ?_ (fun h hh => by unfold xPM at hh; omega) (xgn (by omega) (xgn (by omega) (xgn (by decide) (xgn (by decide) (xgn (by decide) (xgn (by decide) (xgn (by omega) (xgn (by decide) (xgn (by decide) (xgn (by decide) (xgn (by decide) (((hk 154 (by decide) (by decide) (by decide) (by decide) (by decide)).trans W0_154))))))))))))) xcs_a
    refine xKp.set ?_ (fun h hh => by unfold xPM at hh; omega) (xgn (by omega) (xgn (by omega) (xgn (by omega) (xgn (by omega) (xgn (by omega) (xgs (xgn (by omega) (xgn (by omega) (xgn (by omega) (xgn (by omega) (((hk _ (by omega) (by omega) (by omega) (by omega) (by omega)).trans (W0_part (by omega)))))))))))))) xcs_o
    refine xKp.set ?_ (fun h hh => by unfold xPM at hh; omega) (xgn (by omega) (xgn (by omega) (xgn (by omega) (xgn (by omega) (xgn (by omega) (xgn (by omega) (xgn (by omega) (xgn (by omega) (xgn (by omega) (((hk _ (by omega) (by omega) (by omega) (by omega) (by omega)).trans (W0_pw (by omega))))))))))))) xcs_a
    refine xKp.set ?_ (fun h hh => by unfold xPM at hh; omega) (xgn (by decide) (xgs (xgn (by decide) (xgn (by omega) (xgn (by decide) (xgn (by decide) (xgn (by decide) (xgn (by decide) (((hk 137 (by decide) (by decide) (by decide) (by decide) (by decide)).trans W0_137)))))))))) xcs_o
    refine xKp.set ?_ (fun h hh => by unfold xPM at hh; omega) (xgn (by decide) (xgs (xgn (by omega) (xgn (by decide) (xgn (by decide) (xgn (by decide) (xgn (by decide) (((hk 138 (by decide) (by decide) (by decide) (by decide) (by decide)).trans W0_138))))))))) xcs_a
    refine xKp.set ?_ (fun h hh => by unfold xPM at hh; omega) (xgn (by decide) (xgn (by omega) (xgn (by decide) (xgn (by decide) (xgn (by decide) (xgn (by decide) (((hk 137 (by decide) (by decide) (by decide) (by decide) (by decide)).trans W0_137)))))))) xcs_o
    refine xKp.set ?_ (fun h hh => by unfold xPM at hh; omega) (xgn (by omega) (xgn (by decide) (xgn (by decide) (xgn (by decide) (xgn (by decide) (((hk 138 (by decide) (by decide) (by decide) (by decide) (by decide)).trans W0_138))))))) xcs_a
    refine xKp.set ?_ (fun h hh => by unfold xPM at hh; omega) (xgn (by omega) (xgn (by omega) (xgn (by omega) (xgn (by omega) (((hk _ (by omega) (by omega) (by omega) (by omega) (by omega)).trans (W0_part (by omega)))))))) xcs_o
    refine xKp.set ?_ (fun h hh => by unfold xPM at hh; omega) (xgn (by decide) (xgs (xgn (by decide) (((hk 151 (by decide) (by decide) (by decide) (by decide) (by decide)).trans W0_151))))) xcs_o
    refine xKp.set ?_ (fun h hh => by unfold xPM at hh; omega) (xgn (by decide) (xgn (by decide) (((hk 152 (by decide) (by decide) (by decide) (by decide) (by decide)).trans W0_152)))) xcs_a
    refine xKp.set ?_ (fun h hh => by unfold xPM at hh; omega) (xgn (by decide) (((hk 151 (by decide) (by decide) (by decide) (by decide) (by decide)).trans W0_151))) xcs_o
    refine xKp.set ?_ (fun h hh => by unfold xPM at hh; omega) (hm) xcs_o
    exact xKp.refl
theorem sf0_11 {d : Nat} {xs : Nat → Int32} {m : Int64} {sc md : Int32} {w : xW} {B E U C q0 q1 q2 nn : Int32} {g : Nat → Value} (hk : ∀ h, 131 ≤ h → h < 194 → h ≠ 135 → h ≠ 136 → h ≠ 156 → w[h]? = (W0 6 xs)[h]?) (hm : w[128]? = some (Sum.inr (12, [Value.ref 129, Value.ref 131, Value.ref 133, Value.ref 135, Value.ref 137, Value.ref 139, Value.ref 141, Value.ref 143, Value.ref 145, Value.ref 147, Value.ref 149, Value.ref 151, Value.ref 153, Value.ref 154, Value.ref 155, Value.ref 156, Value.ref 157, Value.int (-16384), Value.int 16384, Value.int 0, Value.int 0, Value.int 0, Value.ref 158, Value.ref 159, Value.int 0, Value.int 0, Value.int 0, Value.int 0, Value.int 0, Value.int 0, Value.int 0, Value.int 0]))) (hv : w[129]? = some (Sum.inr (13, [Value.ref 130, Value.int nn]))) (hq : w[135]? = some (Sum.inr (13, [Value.ref 136, Value.int 3]))) (hqw : w[136]? = some (Sum.inl (0, 4700, g))) (hg0 : g (0 : Int32).toInt.toNat = Value.int q0) (hg1 : g (1 : Int32).toInt.toNat = Value.int q1) (hg2 : g (2 : Int32).toInt.toNat = Value.int q2) (hn : w[156]? = some (Sum.inl (2, 17, xup (fun _ => Value.int 0) (xs 1).toInt.toNat (Value.int 0)))) (hbits : ∀ (d' : Nat) (w' : xW), w'[129]? = w[129]? → w'[130]? = w[130]? → xRun d' 181 [Value.ref 129] w' (.inl (some (Value.int B))) w') (hany0 : xPW m → ∀ (d' : Nat) (w' : xW), w'[129]? = w[129]? → w'[130]? = w[130]? → xRun d' 183 [Value.ref 129, Value.int (B - (1 : Int32))] w' (.inl (some (Value.int 0))) w') (hany1 : ¬ xPW m → ∀ (d' : Nat) (w' : xW), w'[129]? = w[129]? → w'[130]? = w[130]? → xRun d' 183 [Value.ref 129, Value.int (B - (1 : Int32))] w' (.inl (some (Value.int 1))) w') (c0 : 0 ≤ (xs 1).toInt) (c1 : (xs 1).toInt < 16) (c2 : (-40000) ≤ sc.toInt) (c3 : sc.toInt ≤ 40000) (c4 : 0 ≤ md.toInt) (c5 : md.toInt ≤ 4) (c6 : 1 ≤ B.toInt) (c7 : B.toInt ≤ 64) (c8 : E.toInt = B.toInt + sc.toInt) (c9 : U.toInt = E.toInt - 64) (c10 : 0 ≤ q2.toInt) (c11 : (xbn q2).toInt = 4) (c12 : E.toInt ≤ 16384) (c13 : E.toInt < (-16384)) (c14 : E.toInt = (-16385)) (c15 : ¬ xPW m) (c16 : md.toInt ≠ 4) (c17 : md.toInt = 2) : ∃ w2, xEv (d + 6) 180 207 [(14, Value.int 0), (13, Value.int E), (12, Value.int 1), (11, Value.int 0), (10, Value.int C), (9, Value.int U), (8, Value.int E), (7, Value.int 64), (0, Value.ref 128), (1, Value.int (xs 1)), (2, Value.ref 129), (3, Value.int sc), (4, Value.int 0), (5, Value.int 0), (6, Value.int md)] [] w (fun o' w' => o' = .inl (some (Value.int 1)) ∧ w' = w2) ∧ xKp w w2 xPM ∧ w2[128]? = some (Sum.inr (12, [Value.ref 129, Value.ref 131, Value.ref 133, Value.ref 135, Value.ref 137, Value.ref 139, Value.ref 141, Value.ref 143, Value.ref 145, Value.ref 147, Value.ref 149, Value.ref 151, Value.ref 153, Value.ref 154, Value.ref 155, Value.ref 156, Value.ref 157, Value.int (-16384), Value.int 16384, Value.int 5, Value.int 0, Value.int 0, Value.ref 158, Value.ref 159, Value.int 0, Value.int 0, Value.int 0, Value.int 0, Value.int 0, Value.int 0, Value.int 0, Value.int 0])) := by
  refine ⟨(((((((((((((((w.set 128 (Sum.inr (12, [Value.ref 129, Value.ref 131, Value.ref 133, Value.ref 135, Value.ref 137, Value.ref 139, Value.ref 141, Value.ref 143, Value.ref 145, Value.ref 147, Value.ref 149, Value.ref 151, Value.ref 153, Value.ref 154, Value.ref 155, Value.ref 156, Value.ref 157, Value.int (-16384), Value.int 16384, Value.int 4, Value.int 0, Value.int 0, Value.ref 158, Value.ref 159, Value.int 0, Value.int 0, Value.int 0, Value.int 0, Value.int 0, Value.int 0, Value.int 0, Value.int 0]))).set 151 (Sum.inr (13, [Value.ref 152, Value.int 0]))).set 152 (Sum.inl (0, 4700, xup (fun _ => Value.int 0) (0 : Int32).toInt.toNat (Value.int 1)))).set 151 (Sum.inr (13, [Value.ref 152, Value.int 1]))).set (160 + 2 * (xs 1).toInt.toNat) (Sum.inr (13, [Value.ref (161 + 2 * (xs 1).toInt.toNat), Value.int 0]))).set 138 (Sum.inl (0, 4700, xcp (xup (fun _ => Value.int 0) (0 : Int32).toInt.toNat (Value.int 1)) (fun _ => Value.int 0) (0 : Int32).toInt.toNat (0 : Int32).toInt.toNat (1 : Int32).toInt.toNat))).set 137 (Sum.inr (13, [Value.ref 138, Value.int 1]))).set 138 (Sum.inl (0, 4700, xup (xup (xup (xup (xup (xcp (xup (fun _ => Value.int 0) (0 : Int32).toInt.toNat (Value.int 1)) (fun _ => Value.int 0) (0 : Int32).toInt.toNat (0 : Int32).toInt.toNat (1 : Int32).toInt.toNat) (3 : Int32).toInt.toNat (Value.int 0)) (3 : Int32).toInt.toNat (Value.int 0)) (2 : Int32).toInt.toNat (Value.int 8)) (0 : Int32).toInt.toNat (Value.int 0)) (1 : Int32).toInt.toNat (Value.int 0)))).set 137 (Sum.inr (13, [Value.ref 138, Value.int 3]))).set (161 + 2 * (xs 1).toInt.toNat) (Sum.inl (0, 140, xcp (xup (xup (xup (xup (xup (xcp (xup (fun _ => Value.int 0) (0 : Int32).toInt.toNat (Value.int 1)) (fun _ => Value.int 0) (0 : Int32).toInt.toNat (0 : Int32).toInt.toNat (1 : Int32).toInt.toNat) (3 : Int32).toInt.toNat (Value.int 0)) (3 : Int32).toInt.toNat (Value.int 0)) (2 : Int32).toInt.toNat (Value.int 8)) (0 : Int32).toInt.toNat (Value.int 0)) (1 : Int32).toInt.toNat (Value.int 0)) (fun _ => Value.int 0) (0 : Int32).toInt.toNat (0 : Int32).toInt.toNat (3 : Int32).toInt.toNat))).set (160 + 2 * (xs 1).toInt.toNat) (Sum.inr (13, [Value.ref (161 + 2 * (xs 1).toInt.toNat), Value.int 3]))).set 154 (Sum.inl (0, 17, xup (fun _ => Value.int 0) (xs 1).toInt.toNat (Value.int 3)))).set 155 (Sum.inl (0, 17, xup (fun _ => Value.int 0) (xs 1).toInt.toNat (Value.int (-16384))))).set 156 (Sum.inl (2, 17, xup (xup (fun _ => Value.int 0) (xs 1).toInt.toNat (Value.int 0)) (xs 1).toInt.toNat (Value.int 0)))).set 128 (Sum.inr (12, [Value.ref 129, Value.ref 131, Value.ref 133, Value.ref 135, Value.ref 137, Value.ref 139, Value.ref 141, Value.ref 143, Value.ref 145, Value.ref 147, Value.ref 149, Value.ref 151, Value.ref 153, Value.ref 154, Value.ref 155, Value.ref 156, Value.ref 157, Value.int (-16384), Value.int 16384, Value.int 5, Value.int 0, Value.int 0, Value.ref 158, Value.ref 159, Value.int 0, Value.int 0, Value.int 0, Value.int 0, Value.int 0, Value.int 0, Value.int 0, Value.int 0]))), ?_, ?_, xgs (xgn (by decide) (xgn (by decide) (xgn (by decide) (xgn (by omega) (xgn (by omega) (xgn (by decide) (xgn (by decide) (xgn (by decide) (xgn (by decide) (xgn (by omega) (xgn (by decide) (xgn (by decide) (xgn (by decide) (xgs hm))))))))))))))⟩
  · refine i_180_207 (x := 128) rfl ?_
    refine i_180_208 (v := Value.int 0) hm rfl ?_
    refine i_180_211 (fun h => absurd h (by decide)) (fun _ => ?_)
    refine i_180_214 (x := 128) rfl ?_
    refine i_180_215 (v := Value.ref 135) hm rfl ?_
    refine i_180_218 (v := Value.int 3) hq rfl ?_
    refine i_180_221 (fun h => absurd h (by decide)) (fun _ => ?_)
    refine i_180_224 (x := E) rfl ?_
    refine i_180_226 (x := 128) rfl ?_
    refine i_180_227 (v := Value.int 16384) hm rfl ?_
    refine i_180_230 (fun _ => ?_) (fun h => absurd (show E.toInt ≤ 16384 by omega) (Int.not_le.mpr h))
    refine i_180_367 (x := 128) rfl ?_
    refine i_180_368 (v := Value.ref 135) hm rfl ?_
    refine i_180_371 (v := Value.int 3) hq rfl ?_
    refine i_180_374 (fun _ => ?_) (fun h => absurd h (by decide))
    refine i_180_392 (x := 128) rfl ?_
    refine i_180_393 (v := Value.int 0) hm rfl ?_
    refine i_180_396 (fun h => absurd h (by decide)) (fun _ => ?_)
    refine i_180_399 (x := 128) rfl ?_
    refine i_180_400 (v := Value.int 0) hm rfl ?_
    refine i_180_403 (fun h => absurd h (by decide)) (fun _ => ?_)
    refine i_180_406 (x := E) rfl ?_
    refine i_180_408 (x := 128) rfl ?_
    refine i_180_409 (v := Value.int (-16384)) hm rfl ?_
    refine i_180_412 (fun h => absurd (show E.toInt < (-16384) by omega) (Int.not_lt.mpr h)) (fun _ => ?_)
    refine i_180_415 (x := 128) rfl ?_
    refine i_180_416 rfl ?_
    refine i_180_417 (v := Value.int 0) hm rfl ?_
    refine i_180_420 ?_
    refine i_180_421 (c := 4) (by decide) ?_
    refine i_180_422 (fs2 := [Value.ref 129, Value.ref 131, Value.ref 133, Value.ref 135, Value.ref 137, Value.ref 139, Value.ref 141, Value.ref 143, Value.ref 145, Value.ref 147, Value.ref 149, Value.ref 151, Value.ref 153, Value.ref 154, Value.ref 155, Value.ref 156, Value.ref 157, Value.int (-16384), Value.int 16384, Value.int 4, Value.int 0, Value.int 0, Value.ref 158, Value.ref 159, Value.int 0, Value.int 0, Value.int 0, Value.int 0, Value.int 0, Value.int 0, Value.int 0, Value.int 0]) hm (Nat.le_of_ble_eq_true rfl) rfl (by omega) ?_
    refine i_180_425 (x := E) rfl ?_
    refine i_180_427 (x := 128) rfl ?_
    refine i_180_428 (v := Value.int (-16384)) (xgs hm) rfl ?_
    refine i_180_431 ?_
    refine i_180_432 (c := (-16385)) (by decide) ?_
    refine i_180_433 (fun h => absurd (show E.toInt ≤ (-16385) by omega) (Int.not_le.mpr h)) (fun _ => ?_)
    refine i_180_436 (x := E) rfl ?_
    refine i_180_438 (x := 128) rfl ?_
    refine i_180_439 (v := Value.int (-16384)) (xgs hm) rfl ?_
    refine i_180_442 ?_
    refine i_180_443 (c := (-16385)) (by decide) ?_
    refine i_180_444 (fun h => absurd (show E.toInt = (-16385) by omega) h) (fun _ => ?_)
    refine i_180_447 (x := 0) rfl ?_
    refine i_180_449 (fun h => absurd h (by decide)) (fun _ => ?_)
    refine i_180_452 (x := 129) rfl ?_
    refine i_180_453 (x := 129) rfl ?_
    refine i_180_454 (xgn (by decide) hv) (Nat.le_of_ble_eq_true rfl) (hbits _ _ (xgn (by omega) (rfl)) (xgn (by omega) (rfl))) ?_
    refine i_180_457 ?_
    refine i_180_458 (c := (B - (1 : Int32))) rfl ?_
    refine i_180_459 (xgn (by decide) hv) (Nat.le_of_ble_eq_true rfl) (hany1 c15 _ _ (xgn (by omega) (rfl)) (xgn (by omega) (rfl))) ?_
    refine i_180_462 (fun h => absurd h (by decide)) (fun _ => ?_)
    refine i_180_465 ?_
    refine i_180_466 ?_
    refine i_180_470 (lv2 := [(15, Value.int 1), (14, Value.int 0), (13, Value.int E), (12, Value.int 1), (11, Value.int 0), (10, Value.int C), (9, Value.int U), (8, Value.int E), (7, Value.int 64), (0, Value.ref 128), (1, Value.int (xs 1)), (2, Value.ref 129), (3, Value.int sc), (4, Value.int 0), (5, Value.int 0), (6, Value.int md)]) rfl ?_
    refine i_180_472 (x := md) rfl ?_
    refine i_180_474 ?_
    refine i_180_475 (fun h => absurd (show md.toInt ≠ 4 by omega) (fun g => g h)) (fun _ => ?_)
    refine i_180_478 (x := md) rfl ?_
    refine i_180_480 ?_
    refine i_180_481 (fun h => absurd (show md.toInt = 2 by omega) h) (fun _ => ?_)
    refine i_180_484 (x := 0) rfl ?_
    refine i_180_486 (fun _ => ?_) (fun h => absurd h (by decide))
    refine i_180_510 ?_
    refine i_180_511 ?_
    refine i_180_515 (lv2 := [(16, Value.int 1), (15, Value.int 1), (14, Value.int 0), (13, Value.int E), (12, Value.int 1), (11, Value.int 0), (10, Value.int C), (9, Value.int U), (8, Value.int E), (7, Value.int 64), (0, Value.ref 128), (1, Value.int (xs 1)), (2, Value.ref 129), (3, Value.int sc), (4, Value.int 0), (5, Value.int 0), (6, Value.int md)]) rfl ?_
    refine i_180_517 (x := 1) rfl ?_
    refine i_180_519 (fun h => absurd h (by decide)) (fun _ => ?_)
    refine i_180_522 (x := 128) rfl ?_
    refine i_180_523 (v := Value.ref 151) (xgs hm) rfl ?_
    refine i_180_526 ?_
    refine i_180_527 (xgn (by decide) (((hk 151 (by decide) (by decide) (by decide) (by decide) (by decide)).trans W0_151))) (Nat.le_of_ble_eq_true rfl) (s_179_2 (xgn (by decide) (((hk 151 (by decide) (by decide) (by decide) (by decide) (by decide)).trans W0_151))) (xgn (by decide) (((hk 152 (by decide) (by decide) (by decide) (by decide) (by decide)).trans W0_152)))) ?_
    refine i_180_530 (x := 128) rfl ?_
    refine i_180_531 (x := (xs 1)) rfl ?_
    refine i_180_532 (x := 128) rfl ?_
    refine i_180_533 (v := Value.ref 151) (xgn (by decide) (xgn (by decide) (xgn (by decide) (xgs hm)))) rfl ?_
    refine i_180_536 (x := 128) rfl ?_
    refine i_180_537 (v := Value.int (-16384)) (xgn (by decide) (xgn (by decide) (xgn (by decide) (xgs hm)))) rfl ?_
    refine i_180_540 ?_
    refine i_180_541 (c := (-16385)) (by decide) ?_
    refine i_180_542 (xgn (by decide) (xgn (by decide) (xgn (by decide) (xgs hm)))) (Nat.le_of_ble_eq_true rfl) (s_192_1 (xgn (by decide) (xgn (by decide) (xgn (by decide) (xgs hm)))) (xgn (by decide) (xgn (by decide) (xgn (by decide) (xgn (by decide) (((hk 153 (by decide) (by decide) (by decide) (by decide) (by decide)).trans W0_153)))))) (by omega) (by omega) (gprec_at (by omega)) (xgs (xgn (by decide) (xgs (xgn (by decide) (((hk 151 (by decide) (by decide) (by decide) (by decide) (by decide)).trans W0_151)))))) (xgn (by decide) (xgs (xgn (by decide) (xgn (by decide) (((hk 152 (by decide) (by decide) (by decide) (by decide) (by decide)).trans W0_152)))))) xup_s (xgn (by decide) (xgn (by decide) (xgn (by decide) (xgn (by decide) (((hk 157 (by decide) (by decide) (by decide) (by decide) (by decide)).trans W0_157)))))) (gpart_at (by omega)) (xgn (by omega) (xgn (by omega) (xgn (by omega) (xgn (by omega) (((hk _ (by omega) (by omega) (by omega) (by omega) (by omega)).trans (W0_part (by omega)))))))) (by omega) (by omega) (by omega) (xgn (by decide) (xgn (by decide) (xgn (by decide) (xgn (by decide) (((hk 137 (by decide) (by decide) (by decide) (by decide) (by decide)).trans W0_137)))))) (by omega) (by omega) (by omega) (xgn (by decide) (xgn (by decide) (xgn (by decide) (xgn (by decide) (((hk 138 (by decide) (by decide) (by decide) (by decide) (by decide)).trans W0_138)))))) (by omega) (by omega) (by omega) (by omega) (by omega) (by omega) (xgn (by omega) (xgn (by omega) (xgn (by omega) (xgn (by omega) (((hk _ (by omega) (by omega) (by omega) (by omega) (by omega)).trans (W0_pw (by omega)))))))) (by omega) (by omega) (by omega) (by omega) (by omega) (by omega) (xgn (by decide) (xgn (by decide) (xgn (by decide) (xgn (by decide) (((hk 154 (by decide) (by decide) (by decide) (by decide) (by decide)).trans W0_154)))))) (by omega) (by omega) (xgn (by decide) (xgn (by decide) (xgn (by decide) (xgn (by decide) (((hk 155 (by decide) (by decide) (by decide) (by decide) (by decide)).trans W0_155))))))) ?_
    refine i_180_545 (x := 128) rfl ?_
    refine i_180_546 (v := Value.ref 156) (xgn (by decide) (xgn (by decide) (xgn (by omega) (xgn (by omega) (xgn (by decide) (xgn (by decide) (xgn (by decide) (xgn (by decide) (xgn (by omega) (xgn (by decide) (xgn (by decide) (xgn (by decide) (xgs hm))))))))))))) rfl ?_
    refine i_180_549 (x := (xs 1)) rfl ?_
    refine i_180_550 (x := 0) rfl ?_
    refine i_180_552z (v := Value.int 0) (xgn (by decide) (xgn (by decide) (xgn (by omega) (xgn (by omega) (xgn (by decide) (xgn (by decide) (xgn (by decide) (xgn (by decide) (xgn (by omega) (xgn (by decide) (xgn (by decide) (xgn (by decide) (xgn (by decide) hn))))))))))))) (by omega) (by omega) (by omega) rfl ?_
    refine i_180_553 ?_
    refine i_180_565 (x := 1) rfl ?_
    refine i_180_567 (fun h => absurd h (by decide)) (fun _ => ?_)
    refine i_180_570 ?_
    refine i_180_571 ?_
    refine i_180_575 (lv2 := [(14, Value.int 1), (16, Value.int 1), (15, Value.int 1), (13, Value.int E), (12, Value.int 1), (11, Value.int 0), (10, Value.int C), (9, Value.int U), (8, Value.int E), (7, Value.int 64), (0, Value.ref 128), (1, Value.int (xs 1)), (2, Value.ref 129), (3, Value.int sc), (4, Value.int 0), (5, Value.int 0), (6, Value.int md)]) rfl ?_
    refine i_180_577 ?_
    refine i_180_591 (x := 128) rfl ?_
    refine i_180_592 (v := Value.int 0) (xgn (by decide) (xgn (by decide) (xgn (by decide) (xgn (by omega) (xgn (by omega) (xgn (by decide) (xgn (by decide) (xgn (by decide) (xgn (by decide) (xgn (by omega) (xgn (by decide) (xgn (by decide) (xgn (by decide) (xgs hm)))))))))))))) rfl ?_
    refine i_180_595 (fun h => absurd h (by decide)) (fun _ => ?_)
    refine i_180_598 (x := 128) rfl ?_
    refine i_180_599 (v := Value.int 0) (xgn (by decide) (xgn (by decide) (xgn (by decide) (xgn (by omega) (xgn (by omega) (xgn (by decide) (xgn (by decide) (xgn (by decide) (xgn (by decide) (xgn (by omega) (xgn (by decide) (xgn (by decide) (xgn (by decide) (xgs hm)))))))))))))) rfl ?_
    refine i_180_602 (fun _ => ?_) (fun h => absurd h (by decide))
    refine i_180_629 (x := 1) rfl ?_
    refine i_180_631 (fun h => absurd h (by decide)) (fun _ => ?_)
    refine i_180_634 (x := 128) rfl ?_
    refine i_180_635 rfl ?_
    refine i_180_636 (v := Value.int 4) (xgn (by decide) (xgn (by decide) (xgn (by decide) (xgn (by omega) (xgn (by omega) (xgn (by decide) (xgn (by decide) (xgn (by decide) (xgn (by decide) (xgn (by omega) (xgn (by decide) (xgn (by decide) (xgn (by decide) (xgs hm)))))))))))))) rfl ?_
    refine i_180_639 ?_
    refine i_180_640 (c := 5) (by decide) ?_
    refine i_180_641 (fs2 := [Value.ref 129, Value.ref 131, Value.ref 133, Value.ref 135, Value.ref 137, Value.ref 139, Value.ref 141, Value.ref 143, Value.ref 145, Value.ref 147, Value.ref 149, Value.ref 151, Value.ref 153, Value.ref 154, Value.ref 155, Value.ref 156, Value.ref 157, Value.int (-16384), Value.int 16384, Value.int 5, Value.int 0, Value.int 0, Value.ref 158, Value.ref 159, Value.int 0, Value.int 0, Value.int 0, Value.int 0, Value.int 0, Value.int 0, Value.int 0, Value.int 0]) (xgn (by decide) (xgn (by decide) (xgn (by decide) (xgn (by omega) (xgn (by omega) (xgn (by decide) (xgn (by decide) (xgn (by decide) (xgn (by decide) (xgn (by omega) (xgn (by decide) (xgn (by decide) (xgn (by decide) (xgs hm)))))))))))))) (Nat.le_of_ble_eq_true rfl) rfl (by omega) ?_
    refine i_180_644 (x := 0) rfl ?_
    refine i_180_646 (fun _ => ?_) (fun h => absurd h (by decide))
    refine i_180_655 (x := 1) rfl ?_
    exact i_180_657 ⟨rfl, rfl⟩
  · refine xKp.set ?_ (fun h hh => by unfold xPM at hh; omega) (xgn (by decide) (xgn (by decide) (xgn (by decide) (xgn (by omega) (xgn (by omega) (xgn (by decide) (xgn (by decide) (xgn (by decide) (xgn (by decide) (xgn (by omega) (xgn (by decide) (xgn (by decide) (xgn (by decide) (xgs hm)))))))))))))) xcs_o
    refine xKp.set ?_ (fun h hh => by unfold xPM at hh; omega) (xgn (by decide) (xgn (by decide) (xgn (by omega) (xgn (by omega) (xgn (by decide) (xgn (by decide) (xgn (by decide) (xgn (by decide) (xgn (by omega) (xgn (by decide) (xgn (by decide) (xgn (by decide) (xgn (by decide) hn))))))))))))) xcs_a
    refine xKp.set ?_ (fun h hh => by unfold xPM at hh; omega) (xgn (by decide) (xgn (by omega) (xgn (by omega) (xgn (by decide) (xgn (by decide) (xgn (by decide) (xgn (by decide) (xgn (by omega) (xgn (by decide) (xgn (by decide) (xgn (by decide) (xgn (by decide) (((hk 155 (by decide) (by decide) (by decide) (by decide) (by decide)).trans W0_155)))))))))))))) xcs_a
    refine xKp.set ?_ (fun h hh => by unfold xPM at hh; omega) (xgn (by omega) (xgn (by omega) (xgn (by decide) (xgn (by decide) (xgn (by decide) (xgn (by decide) (xgn (by omega) (xgn (by decide) (xgn (by decide) (xgn (by decide) (xgn (by decide) (((hk 154 (by decide) (by decide) (by decide) (by decide) (by decide)).trans W0_154))))))))))))) xcs_a
    refine xKp.set ?_ (fun h hh => by unfold xPM at hh; omega) (xgn (by omega) (xgn (by omega) (xgn (by omega) (xgn (by omega) (xgn (by omega) (xgs (xgn (by omega) (xgn (by omega) (xgn (by omega) (xgn (by omega) (((hk _ (by omega) (by omega) (by omega) (by omega) (by omega)).trans (W0_part (by omega)))))))))))))) xcs_o
    refine xKp.set ?_ (fun h hh => by unfold xPM at hh; omega) (xgn (by omega) (xgn (by omega) (xgn (by omega) (xgn (by omega) (xgn (by omega) (xgn (by omega) (xgn (by omega) (xgn (by omega) (xgn (by omega) (((hk _ (by omega) (by omega) (by omega) (by omega) (by omega)).trans (W0_pw (by omega))))))))))))) xcs_a
    refine xKp.set ?_ (fun h hh => by unfold xPM at hh; omega) (xgn (by decide) (xgs (xgn (by decide) (xgn (by omega) (xgn (by decide) (xgn (by decide) (xgn (by decide) (xgn (by decide) (((hk 137 (by decide) (by decide) (by decide) (by decide) (by decide)).trans W0_137)))))))))) xcs_o
    refine xKp.set ?_ (fun h hh => by unfold xPM at hh; omega) (xgn (by decide) (xgs (xgn (by omega) (xgn (by decide) (xgn (by decide) (xgn (by decide) (xgn (by decide) (((hk 138 (by decide) (by decide) (by decide) (by decide) (by decide)).trans W0_138))))))))) xcs_a
    refine xKp.set ?_ (fun h hh => by unfold xPM at hh; omega) (xgn (by decide) (xgn (by omega) (xgn (by decide) (xgn (by decide) (xgn (by decide) (xgn (by decide) (((hk 137 (by decide) (by decide) (by decide) (by decide) (by decide)).trans W0_137)))))))) xcs_o
    refine xKp.set ?_ (fun h hh => by unfold xPM at hh; omega) (xgn (by omega) (xgn (by decide) (xgn (by decide) (xgn (by decide) (xgn (by decide) (((hk 138 (by decide) (by decide) (by decide) (by decide) (by decide)).trans W0_138))))))) xcs_a
    refine xKp.set ?_ (fun h hh => by unfold xPM at hh; omega) (xgn (by omega) (xgn (by omega) (xgn (by omega) (xgn (by omega) (((hk _ (by omega) (by omega) (by omega) (by omega) (by omega)).trans (W0_part (by omega)))))))) xcs_o
    refine xKp.set ?_ (fun h hh => by unfold xPM at hh; omega) (xgn (by decide) (xgs (xgn (by decide) (((hk 151 (by decide) (by decide) (by decide) (by decide) (by decide)).trans W0_151))))) xcs_o
    refine xKp.set ?_ (fun h hh => by unfold xPM at hh; omega) (xgn (by decide) (xgn (by decide) (((hk 152 (by decide) (by decide) (by decide) (by decide) (by decide)).trans W0_152)))) xcs_a
    refine xKp.set ?_ (fun h hh => by unfold xPM at hh; omega) (xgn (by decide) (((hk 151 (by decide) (by decide) (by decide) (by decide) (by decide)).trans W0_151))) xcs_o
    refine xKp.set ?_ (fun h hh => by unfold xPM at hh; omega) (hm) xcs_o
    exact xKp.refl
