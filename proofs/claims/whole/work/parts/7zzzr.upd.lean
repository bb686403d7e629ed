/-! what the calls change, side by side -/
section
variable {W w : xW} {L Z : Nat} {S S1 Sm Sm1 : Nat → Nat → Int} {V V1 Vm Vm1 : Nat → Nat} {g : Nat → Value} {f : Int} {v : Int64}
theorem IV.mk' (hW : IW W L Z S V Sm Vm g w) (hI : cI S V) (hM : mI Sm Vm) (hJ : cJ S) (hE : eqA S V Sm Vm) (h31 : Sm 128 31 = 0) (hg : g 0 = .long v) : IV W L Z 0 v w := ⟨S, V, Sm, Vm, g, hW, hI, hM, hJ, hE, h31, fun _ => hg⟩
theorem eqA_c (h1 : ∀ b j, (30 ≤ b ∧ b ≤ 78) ∨ b = 7 ∨ b = 29 ∨ b = 114 → S1 b j = S b j) (h2 : S1 113 3 = S 113 3) (h3 : nW V V1) (hE : eqA S V Sm Vm) : eqA S1 V1 Sm Vm := by
  obtain ⟨e1, ⟨e2, e3, e4, e5⟩, ⟨e6, e7⟩, e8, e9⟩ := hE
  refine ⟨fun q hq => ?_, ⟨?_, ?_, ?_, ?_⟩, ⟨?_, fun j => ?_⟩, ?_, fun j hj => ?_⟩
  · obtain ⟨f1, f2, f3, f4⟩ := e1 q hq
    have g0 : S1 (30 + 3 * q) 0 = S (30 + 3 * q) 0 := h1 _ _ (by omega)
    have g1 : S1 (30 + 3 * q) 1 = S (30 + 3 * q) 1 := h1 _ _ (by omega)
    have g2 : S1 (30 + 3 * q) 2 = S (30 + 3 * q) 2 := h1 _ _ (by omega)
    have g3 : S1 (30 + 3 * q) 3 = S (30 + 3 * q) 3 := h1 _ _ (by omega)
    refine ⟨f1.trans g0.symm, f2.trans g1.symm, fun k => (f3 (fun z => k (g1.trans z))).trans g2.symm, fun k => ?_⟩
    obtain ⟨z1, z2⟩ := f4 (g1.symm.trans k)
    rw [vV_r] at z2 ⊢
    exact ⟨z1.trans g3.symm, z2.trans (h3 _ (by omega) (by omega)).symm⟩
  · exact e2.trans (h1 78 0 (by omega)).symm
  · exact e3.trans (h1 78 1 (by omega)).symm
  · exact e4.trans (h1 78 3 (by omega)).symm
  · exact e5.trans (h1 78 2 (by omega)).symm
  · exact e6.trans (h1 7 11 (by omega)).symm
  · exact (e7 j).trans (h1 29 j (by omega)).symm
  · exact e8.trans h2.symm
  · rw [h2] at hj
    exact (e9 j hj).trans (h1 114 j (by omega)).symm
theorem cJ_c (h1 : ∀ b j, (30 ≤ b ∧ b ≤ 78) ∨ b = 7 ∨ b = 29 ∨ b = 114 → S1 b j = S b j) (h2 : S1 113 3 = S 113 3) (hJ : cJ S) : cJ S1 := by
  obtain ⟨j1, j2, j3⟩ := hJ
  refine ⟨by rw [h1 78 3 (by omega)]; exact j1, fun j => ?_, by rw [h2]; exact j3⟩
  rw [h1 29 j (by omega)]
  exact j2 j
theorem eqA_m (h1 : ∀ a j, (153 ≤ a ∧ a ≤ 156 ∧ j < 16) ∨ a = 158 ∨ a = 159 ∨ (a = 128 ∧ j < 26) → Sm1 a j = Sm a j) (h2 : ∀ k, 160 ≤ k → k < 192 → Vm1 k = Vm k) (hE : eqA S V Sm Vm) : eqA S V Sm1 Vm1 := by
  obtain ⟨e1, ⟨e2, e3, e4, e5⟩, ⟨e6, e7⟩, e8, e9⟩ := hE
  refine ⟨fun q hq => ?_, ⟨?_, ?_, ?_, ?_⟩, ⟨?_, fun j => ?_⟩, ?_, fun j hj => ?_⟩
  · unfold eqR
    rw [h1 153 q (by omega), h1 154 q (by omega), h1 155 q (by omega), h1 156 q (by omega), h2 (160 + 2 * q) (by omega) (by omega)]
    exact e1 q hq
  · rw [h1 128 17 (by omega)]; exact e2
  · rw [h1 128 18 (by omega)]; exact e3
  · rw [h1 128 19 (by omega)]; exact e4
  · rw [h1 128 20 (by omega)]; exact e5
  · rw [h1 128 24 (by omega)]; exact e6
  · rw [h1 158 j (by omega)]; exact e7 j
  · rw [h1 128 25 (by omega)]; exact e8
  · rw [h1 159 j (by omega)]; exact e9 j hj
theorem mI_m (h1 : ∀ a j, (153 ≤ a ∧ a ≤ 156 ∧ j < 16) ∨ (a = 128 ∧ j < 22) → Sm1 a j = Sm a j) (h2 : ∀ k, 160 ≤ k → k < 192 → Vm1 k = Vm k) (hM : mI Sm Vm) : mI Sm1 Vm1 := by
  obtain ⟨i1, i2, i3, i4⟩ := hM
  refine ⟨fun r hr => ?_, ?_, ?_, ?_⟩
  · rw [h1 153 r (by omega), h1 154 r (by omega), h1 155 r (by omega), h1 156 r (by omega), h2 (160 + 2 * r) (by omega) (by omega)]
    exact i1 r hr
  · rw [h1 128 17 (by omega), h1 128 18 (by omega)]; exact i2
  · rw [h1 128 20 (by omega)]; exact i3
  · rw [h1 128 21 (by omega)]; exact i4
theorem nC.k (h : nC S S1) : ∀ b j, (30 ≤ b ∧ b ≤ 78) ∨ b = 7 ∨ b = 29 ∨ b = 114 → S1 b j = S b j := fun b j hb => h.1 b j (by unfold cKeep; omega)
theorem nD.k (h : nD S S1) : ∀ b j, (30 ≤ b ∧ b ≤ 78) ∨ b = 7 ∨ b = 29 ∨ b = 114 → S1 b j = S b j := fun b j hb => h.1 b j (by unfold cKeep; omega) (by omega) (by omega)
/-- the flags alone -/
theorem cI_f (h : cI S V) : cI (u2 S 78 3 f) V := by
  obtain ⟨i1, i2, i3, i4, i5, i6⟩ := h
  have n : ∀ b j, ¬ (b = 78 ∧ j = 3) → u2 S 78 3 f b j = S b j := fun b j h => by rw [u2_e, if_neg h]
  refine ⟨fun q hq => ?_, ?_, ?_, ?_, ?_, ?_⟩
  · rw [n _ 0 (by omega), n _ 1 (by omega), n _ 2 (by omega), n _ 3 (by omega)]; exact i1 q hq
  · rw [n 78 0 (by omega), n 78 1 (by omega)]; exact i2
  · rw [n 78 2 (by omega)]; exact i3
  · rw [n 79 0 (by omega), n 79 1 (by omega)]; exact i4
  · rw [n 7 11 (by omega)]; exact i5
  · rw [n 9 0 (by omega), n 9 1 (by omega), n 9 2 (by omega), n 10 0 (by omega)]; exact i6
theorem cJ_f (h : cJ S) (hf : -2147483648 ≤ f ∧ f < 2147483648) : cJ (u2 S 78 3 f) := by
  obtain ⟨j1, j2, j3⟩ := h
  refine ⟨by rw [u2_e, if_pos ⟨rfl, rfl⟩]; exact hf, fun j => ?_, ?_⟩
  · rw [u2_e, if_neg (by omega)]; exact j2 j
  · rw [u2_e, if_neg (by omega)]; exact j3
theorem mI_f (h : mI Sm Vm) : mI (u2 Sm 128 19 f) Vm := by
  obtain ⟨i1, i2, i3, i4⟩ := h
  have n : ∀ b j, ¬ (b = 128 ∧ j = 19) → u2 Sm 128 19 f b j = Sm b j := fun b j h => by rw [u2_e, if_neg h]
  refine ⟨fun r hr => ?_, ?_, ?_, ?_⟩
  · rw [n 153 _ (by omega), n 154 _ (by omega), n 155 _ (by omega), n 156 _ (by omega)]; exact i1 r hr
  · rw [n 128 17 (by omega), n 128 18 (by omega)]; exact i2
  · rw [n 128 20 (by omega)]; exact i3
  · rw [n 128 21 (by omega)]; exact i4
theorem eqA_f (hE : eqA S V Sm Vm) : eqA (u2 S 78 3 f) V (u2 Sm 128 19 f) Vm := by
  obtain ⟨e1, ⟨e2, e3, e4, e5⟩, ⟨e6, e7⟩, e8, e9⟩ := hE
  have n : ∀ b j, ¬ (b = 78 ∧ j = 3) → u2 S 78 3 f b j = S b j := fun b j h => by rw [u2_e, if_neg h]
  have m : ∀ b j, ¬ (b = 128 ∧ j = 19) → u2 Sm 128 19 f b j = Sm b j := fun b j h => by rw [u2_e, if_neg h]
  refine ⟨fun q hq => ?_, ⟨?_, ?_, ?_, ?_⟩, ⟨?_, fun j => ?_⟩, ?_, fun j hj => ?_⟩
  · obtain ⟨f1, f2, f3, f4⟩ := e1 q hq
    have g0 : vS (u2 S 78 3 f) 153 q = vS S 153 q := n (30 + 3 * q) 0 (by omega)
    have g1 : vS (u2 S 78 3 f) 154 q = vS S 154 q := n (30 + 3 * q) 1 (by omega)
    have g2 : vS (u2 S 78 3 f) 156 q = vS S 156 q := n (30 + 3 * q) 2 (by omega)
    have g3 : vS (u2 S 78 3 f) 155 q = vS S 155 q := n (30 + 3 * q) 3 (by omega)
    unfold eqR
    rw [g0, g1, g2, g3, m 153 q (by omega), m 154 q (by omega), m 155 q (by omega), m 156 q (by omega)]
    exact ⟨f1, f2, f3, f4⟩
  · rw [m 128 17 (by omega)]; exact e2.trans (n 78 0 (by omega)).symm
  · rw [m 128 18 (by omega)]; exact e3.trans (n 78 1 (by omega)).symm
  · have a1 : u2 Sm 128 19 f 128 19 = f := by rw [u2_e, if_pos ⟨rfl, rfl⟩]
    have a2 : u2 S 78 3 f 78 3 = f := by rw [u2_e, if_pos ⟨rfl, rfl⟩]
    exact a1.trans a2.symm
  · rw [m 128 20 (by omega)]; exact e5.trans (n 78 2 (by omega)).symm
  · rw [m 128 24 (by omega), n 7 11 (by omega)]; exact e6
  · rw [m 158 j (by omega), n 29 j (by omega)]; exact e7 j
  · rw [m 128 25 (by omega), n 113 3 (by omega)]; exact e8
  · rw [n 113 3 (by omega)] at hj
    rw [m 159 j (by omega), n 114 j (by omega)]; exact e9 j hj
/-- the tape's end alone -/
theorem cI_e {n : Int} (h : cI S V) (hn : 0 ≤ n ∧ n ≤ 4096) : cI (u2 S 7 11 n) V := by
  obtain ⟨i1, i2, i3, i4, i5, i6⟩ := h
  have m : ∀ b j, ¬ (b = 7 ∧ j = 11) → u2 S 7 11 n b j = S b j := fun b j h => by rw [u2_e, if_neg h]
  refine ⟨fun q hq => ?_, ?_, ?_, ?_, ?_, ?_⟩
  · rw [m _ 0 (by omega), m _ 1 (by omega), m _ 2 (by omega), m _ 3 (by omega)]; exact i1 q hq
  · rw [m 78 0 (by omega), m 78 1 (by omega)]; exact i2
  · rw [m 78 2 (by omega)]; exact i3
  · rw [m 79 0 (by omega), m 79 1 (by omega)]; exact i4
  · rw [u2_e, if_pos ⟨rfl, rfl⟩]; exact hn
  · rw [m 9 0 (by omega), m 9 1 (by omega), m 9 2 (by omega), m 10 0 (by omega)]; exact i6
theorem cJ_e {n : Int} (h : cJ S) : cJ (u2 S 7 11 n) := by
  obtain ⟨j1, j2, j3⟩ := h
  refine ⟨by rw [u2_e, if_neg (by omega)]; exact j1, fun j => ?_, ?_⟩
  · rw [u2_e, if_neg (by omega)]; exact j2 j
  · rw [u2_e, if_neg (by omega)]; exact j3
theorem mI_e {n : Int} (h : mI Sm Vm) : mI (u2 Sm 128 24 n) Vm := mI_m (fun a j hb => by rw [u2_e, if_neg (by omega)]) (fun _ _ _ => rfl) h
theorem eqA_e {e : Int} (hE : eqA S V Sm Vm) : eqA (u2 S 7 11 e) V (u2 Sm 128 24 e) Vm := by
  obtain ⟨e1, ⟨e2, e3, e4, e5⟩, ⟨e6, e7⟩, e8, e9⟩ := hE
  have n : ∀ b j, ¬ (b = 7 ∧ j = 11) → u2 S 7 11 e b j = S b j := fun b j h => by rw [u2_e, if_neg h]
  have m : ∀ b j, ¬ (b = 128 ∧ j = 24) → u2 Sm 128 24 e b j = Sm b j := fun b j h => by rw [u2_e, if_neg h]
  refine ⟨fun q hq => ?_, ⟨?_, ?_, ?_, ?_⟩, ⟨?_, fun j => ?_⟩, ?_, fun j hj => ?_⟩
  · obtain ⟨f1, f2, f3, f4⟩ := e1 q hq
    have g0 : vS (u2 S 7 11 e) 153 q = vS S 153 q := n (30 + 3 * q) 0 (by omega)
    have g1 : vS (u2 S 7 11 e) 154 q = vS S 154 q := n (30 + 3 * q) 1 (by omega)
    have g2 : vS (u2 S 7 11 e) 156 q = vS S 156 q := n (30 + 3 * q) 2 (by omega)
    have g3 : vS (u2 S 7 11 e) 155 q = vS S 155 q := n (30 + 3 * q) 3 (by omega)
    unfold eqR
    rw [g0, g1, g2, g3, m 153 q (by omega), m 154 q (by omega), m 155 q (by omega), m 156 q (by omega)]
    exact ⟨f1, f2, f3, f4⟩
  · rw [m 128 17 (by omega)]; exact e2.trans (n 78 0 (by omega)).symm
  · rw [m 128 18 (by omega)]; exact e3.trans (n 78 1 (by omega)).symm
  · rw [m 128 19 (by omega)]; exact e4.trans (n 78 3 (by omega)).symm
  · rw [m 128 20 (by omega)]; exact e5.trans (n 78 2 (by omega)).symm
  · rw [u2_e, if_pos ⟨rfl, rfl⟩, u2_e, if_pos ⟨rfl, rfl⟩]
  · rw [m 158 j (by omega), n 29 j (by omega)]; exact e7 j
  · rw [m 128 25 (by omega), n 113 3 (by omega)]; exact e8
  · rw [n 113 3 (by omega)] at hj
    rw [m 159 j (by omega), n 114 j (by omega)]; exact e9 j hj
/-- a register's precision -/
theorem cI_p {r : Nat} {p : Int} (h : cI S V) (hr : r < 16) (hp : 2 ≤ p ∧ p ≤ 4096) : cI (u2 (u2 (u2 S (30 + 3 * r) 0 p) (30 + 3 * r) 1 0) (30 + 3 * r) 2 0) V := by
  obtain ⟨i1, i2, i3, i4, i5, i6⟩ := h
  have n : ∀ b j, ¬ (b = 30 + 3 * r ∧ j < 3) → u2 (u2 (u2 S (30 + 3 * r) 0 p) (30 + 3 * r) 1 0) (30 + 3 * r) 2 0 b j = S b j := fun b j h => by rw [u2_e, if_neg (by omega), u2_e, if_neg (by omega), u2_e, if_neg (by omega)]
  refine ⟨fun q hq => ?_, ?_, ?_, ?_, ?_, ?_⟩
  · by_cases c : q = r
    · subst c
      rw [u2_e, if_neg (by omega), u2_e, if_neg (by omega), u2_e, if_pos ⟨rfl, rfl⟩, u2_e, if_neg (by omega), u2_e, if_pos ⟨rfl, rfl⟩, u2_e, if_pos ⟨rfl, rfl⟩]
      exact ⟨hp, by decide, Or.inl rfl, Or.inl (by decide), Or.inl (by decide), fun c => absurd c (by decide)⟩
    · rw [n _ 0 (by omega), n _ 1 (by omega), n _ 2 (by omega), n _ 3 (by omega)]; exact i1 q hq
  · rw [n 78 0 (by omega), n 78 1 (by omega)]; exact i2
  · rw [n 78 2 (by omega)]; exact i3
  · rw [n 79 0 (by omega), n 79 1 (by omega)]; exact i4
  · rw [n 7 11 (by omega)]; exact i5
  · rw [n 9 0 (by omega), n 9 1 (by omega), n 9 2 (by omega), n 10 0 (by omega)]; exact i6
theorem cJ_p {r : Nat} {p : Int} (h : cJ S) (hr : r < 16) : cJ (u2 (u2 (u2 S (30 + 3 * r) 0 p) (30 + 3 * r) 1 0) (30 + 3 * r) 2 0) := by
  have n : ∀ b j, ¬ (b = 30 + 3 * r ∧ j < 3) → u2 (u2 (u2 S (30 + 3 * r) 0 p) (30 + 3 * r) 1 0) (30 + 3 * r) 2 0 b j = S b j := fun b j h => by rw [u2_e, if_neg (by omega), u2_e, if_neg (by omega), u2_e, if_neg (by omega)]
  obtain ⟨j1, j2, j3⟩ := h
  refine ⟨by rw [n 78 3 (by omega)]; exact j1, fun j => ?_, ?_⟩
  · rw [n 29 j (by omega)]; exact j2 j
  · rw [n 113 3 (by omega)]; exact j3
theorem mI_p {r : Nat} {p : Int} (h : mI Sm Vm) (hp : 2 ≤ p ∧ p ≤ 4096) : mI (u2 (u2 (u2 Sm 153 r p) 154 r 0) 156 r 0) Vm := by
  obtain ⟨i1, i2, i3, i4⟩ := h
  have n : ∀ b j, ¬ (j = r ∧ (b = 153 ∨ b = 154 ∨ b = 156)) → u2 (u2 (u2 Sm 153 r p) 154 r 0) 156 r 0 b j = Sm b j := fun b j h => by rw [u2_e, if_neg (by omega), u2_e, if_neg (by omega), u2_e, if_neg (by omega)]
  refine ⟨fun q hq => ?_, ?_, ?_, ?_⟩
  · by_cases c : q = r
    · subst c
      obtain ⟨j1, j2, j3, j4, j5, j6⟩ := i1 q hq
      rw [n 155 q (by omega), u2_e, if_neg (by omega), u2_e, if_neg (by omega), u2_e, if_pos ⟨rfl, rfl⟩, u2_e, if_neg (by omega), u2_e, if_pos ⟨rfl, rfl⟩, u2_e, if_pos ⟨rfl, rfl⟩]
      exact ⟨hp, by decide, Or.inl rfl, j4, j5, fun c => absurd c (by decide)⟩
    · rw [n 153 q (by omega), n 154 q (by omega), n 155 q (by omega), n 156 q (by omega)]; exact i1 q hq
  · rw [n 128 17 (by omega), n 128 18 (by omega)]; exact i2
  · rw [n 128 20 (by omega)]; exact i3
  · rw [n 128 21 (by omega)]; exact i4
theorem eqA_p {r : Nat} {p : Int} (hE : eqA S V Sm Vm) (hr : r < 16) : eqA (u2 (u2 (u2 S (30 + 3 * r) 0 p) (30 + 3 * r) 1 0) (30 + 3 * r) 2 0) V (u2 (u2 (u2 Sm 153 r p) 154 r 0) 156 r 0) Vm := by
  have n : ∀ b j, ¬ (b = 30 + 3 * r ∧ j < 3) → u2 (u2 (u2 S (30 + 3 * r) 0 p) (30 + 3 * r) 1 0) (30 + 3 * r) 2 0 b j = S b j := fun b j h => by rw [u2_e, if_neg (by omega), u2_e, if_neg (by omega), u2_e, if_neg (by omega)]
  have m : ∀ b j, ¬ (j = r ∧ (b = 153 ∨ b = 154 ∨ b = 156)) → u2 (u2 (u2 Sm 153 r p) 154 r 0) 156 r 0 b j = Sm b j := fun b j h => by rw [u2_e, if_neg (by omega), u2_e, if_neg (by omega), u2_e, if_neg (by omega)]
  have n0 : u2 (u2 (u2 S (30 + 3 * r) 0 p) (30 + 3 * r) 1 0) (30 + 3 * r) 2 0 (30 + 3 * r) 0 = p := by rw [u2_e, if_neg (by omega), u2_e, if_neg (by omega), u2_e, if_pos ⟨rfl, rfl⟩]
  have n1 : u2 (u2 (u2 S (30 + 3 * r) 0 p) (30 + 3 * r) 1 0) (30 + 3 * r) 2 0 (30 + 3 * r) 1 = 0 := by rw [u2_e, if_neg (by omega), u2_e, if_pos ⟨rfl, rfl⟩]
  have m0 : u2 (u2 (u2 Sm 153 r p) 154 r 0) 156 r 0 153 r = p := by rw [u2_e, if_neg (by omega), u2_e, if_neg (by omega), u2_e, if_pos ⟨rfl, rfl⟩]
  have m1 : u2 (u2 (u2 Sm 153 r p) 154 r 0) 156 r 0 154 r = 0 := by rw [u2_e, if_neg (by omega), u2_e, if_pos ⟨rfl, rfl⟩]
  generalize u2 (u2 (u2 S (30 + 3 * r) 0 p) (30 + 3 * r) 1 0) (30 + 3 * r) 2 0 = S1 at n n0 n1 ⊢
  generalize u2 (u2 (u2 Sm 153 r p) 154 r 0) 156 r 0 = Sm1 at m m0 m1 ⊢
  obtain ⟨e1, ⟨e2, e3, e4, e5⟩, ⟨e6, e7⟩, e8, e9⟩ := hE
  refine ⟨fun q hq => ?_, ⟨?_, ?_, ?_, ?_⟩, ⟨?_, fun j => ?_⟩, ?_, fun j hj => ?_⟩
  · by_cases c : q = r
    · subst c
      have z : vS S1 154 q = 0 := n1
      exact ⟨m0.trans n0.symm, m1.trans n1.symm, fun k => absurd z k, fun k => absurd (z.symm.trans k) (by decide)⟩
    · obtain ⟨f1, f2, f3, f4⟩ := e1 q hq
      have g0 : vS S1 153 q = vS S 153 q := n (30 + 3 * q) 0 (by omega)
      have g1 : vS S1 154 q = vS S 154 q := n (30 + 3 * q) 1 (by omega)
      have g2 : vS S1 156 q = vS S 156 q := n (30 + 3 * q) 2 (by omega)
      have g3 : vS S1 155 q = vS S 155 q := n (30 + 3 * q) 3 (by omega)
      unfold eqR
      rw [g0, g1, g2, g3, m 153 q (by omega), m 154 q (by omega), m 155 q (by omega), m 156 q (by omega)]
      exact ⟨f1, f2, f3, f4⟩
  · rw [m 128 17 (by omega)]; exact e2.trans (n 78 0 (by omega)).symm
  · rw [m 128 18 (by omega)]; exact e3.trans (n 78 1 (by omega)).symm
  · rw [m 128 19 (by omega)]; exact e4.trans (n 78 3 (by omega)).symm
  · rw [m 128 20 (by omega)]; exact e5.trans (n 78 2 (by omega)).symm
  · rw [m 128 24 (by omega), n 7 11 (by omega)]; exact e6
  · rw [m 158 j (by omega), n 29 j (by omega)]; exact e7 j
  · rw [m 128 25 (by omega), n 113 3 (by omega)]; exact e8
  · rw [n 113 3 (by omega)] at hj
    rw [m 159 j (by omega), n 114 j (by omega)]; exact e9 j hj
/-- the range -/
theorem cI_r {l g s : Int} (h : cI S V) (hl : -16384 ≤ l ∧ l ≤ g ∧ g ≤ 16384) (hs : s = 0 ∨ s = 1) : cI (u2 (u2 (u2 S 78 0 l) 78 1 g) 78 2 s) V := by
  obtain ⟨i1, i2, i3, i4, i5, i6⟩ := h
  have n : ∀ b j, ¬ (b = 78 ∧ j < 3) → u2 (u2 (u2 S 78 0 l) 78 1 g) 78 2 s b j = S b j := fun b j h => by rw [u2_e, if_neg (by omega), u2_e, if_neg (by omega), u2_e, if_neg (by omega)]
  refine ⟨fun q hq => ?_, ?_, ?_, ?_, ?_, ?_⟩
  · rw [n _ 0 (by omega), n _ 1 (by omega), n _ 2 (by omega), n _ 3 (by omega)]; exact i1 q hq
  · rw [show u2 (u2 (u2 S 78 0 l) 78 1 g) 78 2 s 78 0 = l from rfl, show u2 (u2 (u2 S 78 0 l) 78 1 g) 78 2 s 78 1 = g from rfl]; exact hl
  · exact hs
  · rw [n 79 0 (by omega), n 79 1 (by omega)]; exact i4
  · rw [n 7 11 (by omega)]; exact i5
  · rw [n 9 0 (by omega), n 9 1 (by omega), n 9 2 (by omega), n 10 0 (by omega)]; exact i6
theorem cJ_r {l g s : Int} (h : cJ S) : cJ (u2 (u2 (u2 S 78 0 l) 78 1 g) 78 2 s) := by
  have n : ∀ b j, ¬ (b = 78 ∧ j < 3) → u2 (u2 (u2 S 78 0 l) 78 1 g) 78 2 s b j = S b j := fun b j h => by rw [u2_e, if_neg (by omega), u2_e, if_neg (by omega), u2_e, if_neg (by omega)]
  obtain ⟨j1, j2, j3⟩ := h
  refine ⟨by rw [n 78 3 (by omega)]; exact j1, fun j => ?_, ?_⟩
  · rw [n 29 j (by omega)]; exact j2 j
  · rw [n 113 3 (by omega)]; exact j3
theorem mI_r {l g s : Int} (h : mI Sm Vm) (hl : -16384 ≤ l ∧ l ≤ g ∧ g ≤ 16384) (hs : s = 0 ∨ s = 1) : mI (u2 (u2 (u2 Sm 128 17 l) 128 18 g) 128 20 s) Vm := by
  obtain ⟨i1, i2, i3, i4⟩ := h
  have n : ∀ b j, ¬ (b = 128 ∧ (j = 17 ∨ j = 18 ∨ j = 20)) → u2 (u2 (u2 Sm 128 17 l) 128 18 g) 128 20 s b j = Sm b j := fun b j h => by rw [u2_e, if_neg (by omega), u2_e, if_neg (by omega), u2_e, if_neg (by omega)]
  refine ⟨fun r hr => ?_, ?_, ?_, ?_⟩
  · rw [n 153 _ (by omega), n 154 _ (by omega), n 155 _ (by omega), n 156 _ (by omega)]; exact i1 r hr
  · exact hl
  · exact hs
  · rw [n 128 21 (by omega)]; exact i4
theorem eqA_r {l g s : Int} (hE : eqA S V Sm Vm) : eqA (u2 (u2 (u2 S 78 0 l) 78 1 g) 78 2 s) V (u2 (u2 (u2 Sm 128 17 l) 128 18 g) 128 20 s) Vm := by
  have n : ∀ b j, ¬ (b = 78 ∧ j < 3) → u2 (u2 (u2 S 78 0 l) 78 1 g) 78 2 s b j = S b j := fun b j h => by rw [u2_e, if_neg (by omega), u2_e, if_neg (by omega), u2_e, if_neg (by omega)]
  have m : ∀ b j, ¬ (b = 128 ∧ (j = 17 ∨ j = 18 ∨ j = 20)) → u2 (u2 (u2 Sm 128 17 l) 128 18 g) 128 20 s b j = Sm b j := fun b j h => by rw [u2_e, if_neg (by omega), u2_e, if_neg (by omega), u2_e, if_neg (by omega)]
  obtain ⟨e1, ⟨e2, e3, e4, e5⟩, ⟨e6, e7⟩, e8, e9⟩ := hE
  refine ⟨fun q hq => ?_, ⟨rfl, rfl, ?_, rfl⟩, ⟨?_, fun j => ?_⟩, ?_, fun j hj => ?_⟩
  · obtain ⟨f1, f2, f3, f4⟩ := e1 q hq
    have g0 : vS (u2 (u2 (u2 S 78 0 l) 78 1 g) 78 2 s) 153 q = vS S 153 q := n (30 + 3 * q) 0 (by omega)
    have g1 : vS (u2 (u2 (u2 S 78 0 l) 78 1 g) 78 2 s) 154 q = vS S 154 q := n (30 + 3 * q) 1 (by omega)
    have g2 : vS (u2 (u2 (u2 S 78 0 l) 78 1 g) 78 2 s) 156 q = vS S 156 q := n (30 + 3 * q) 2 (by omega)
    have g3 : vS (u2 (u2 (u2 S 78 0 l) 78 1 g) 78 2 s) 155 q = vS S 155 q := n (30 + 3 * q) 3 (by omega)
    unfold eqR
    rw [g0, g1, g2, g3, m 153 q (by omega), m 154 q (by omega), m 155 q (by omega), m 156 q (by omega)]
    exact ⟨f1, f2, f3, f4⟩
  · rw [m 128 19 (by omega)]; exact e4.trans (n 78 3 (by omega)).symm
  · rw [m 128 24 (by omega), n 7 11 (by omega)]; exact e6
  · rw [m 158 j (by omega), n 29 j (by omega)]; exact e7 j
  · rw [m 128 25 (by omega), n 113 3 (by omega)]; exact e8
  · rw [n 113 3 (by omega)] at hj
    rw [m 159 j (by omega), n 114 j (by omega)]; exact e9 j hj
end
