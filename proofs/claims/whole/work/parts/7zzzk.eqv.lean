/-! class and reference agree: comparing, sums, invariants -/
section
variable {S S' : Nat → Nat → Int} {V V' : Nat → Nat} {r a b : Nat} {mode f g : Int}
theorem ncmp_sh {x y u v u' v' : Nat} (h : (u : Int) - v = (u' : Int) - v') : ncmp (x * 2 ^ u) (y * 2 ^ v) = ncmp (x * 2 ^ u') (y * 2 ^ v') := by
  obtain ⟨z, hz⟩ : ∃ z : Nat, min u v = z := ⟨_, rfl⟩
  obtain ⟨z', hz'⟩ : ∃ z' : Nat, min u' v' = z' := ⟨_, rfl⟩
  have e1 : x * 2 ^ u = x * 2 ^ (u - z) * 2 ^ z := by rw [Nat.mul_assoc, ← Nat.pow_add]; congr 2; omega
  have e2 : y * 2 ^ v = y * 2 ^ (v - z) * 2 ^ z := by rw [Nat.mul_assoc, ← Nat.pow_add]; congr 2; omega
  have e3 : x * 2 ^ u' = x * 2 ^ (u - z) * 2 ^ z' := by rw [Nat.mul_assoc, ← Nat.pow_add]; congr 2; omega
  have e4 : y * 2 ^ v' = y * 2 ^ (v - z) * 2 ^ z' := by rw [Nat.mul_assoc, ← Nat.pow_add]; congr 2; omega
  rw [e1, e2, e3, e4, ncmp_sc (Nat.two_pow_pos z), ncmp_sc (Nat.two_pow_pos z')]
theorem eq_cz (pa : (xbl (V (160 + 2 * a)) : Int) = S 153 a) (pb : (xbl (V (160 + 2 * b)) : Int) = S 153 b) : (if S 155 a ≠ S 155 b then (if S 155 b < S 155 a then (1 : Int) else -1) else ncmp (V (160 + 2 * a) * 2 ^ xbl (V (160 + 2 * b))) (V (160 + 2 * b) * 2 ^ xbl (V (160 + 2 * a)))) = sCz S V a b := by
  unfold sCz
  by_cases h : S 155 a ≠ S 155 b
  · rw [if_pos h, if_pos h]
    split <;> split <;> omega
  · rw [if_neg h, if_neg h]
    exact ncmp_sh (by omega)
theorem eq_cmp (hk : 1 ≤ S 154 a ∧ S 154 a ≤ 3) (hl : 1 ≤ S 154 b ∧ S 154 b ≤ 3) (sa : S 156 a = 0 ∨ S 156 a = 1) (sb : S 156 b = 0 ∨ S 156 b = 1) (pa : S 154 a = 3 → (xbl (V (160 + 2 * a)) : Int) = S 153 a) (pb : S 154 b = 3 → (xbl (V (160 + 2 * b)) : Int) = S 153 b) : ordR (S 154 a) (S 156 a) (S 155 a) (V (160 + 2 * a)) (S 154 b) (S 156 b) (S 155 b) (V (160 + 2 * b)) = sCm S V a b := by
  rcases (show S 154 a = 1 ∨ S 154 a = 2 ∨ S 154 a = 3 by omega) with k | k | k <;> rcases (show S 154 b = 1 ∨ S 154 b = 2 ∨ S 154 b = 3 by omega) with m | m | m <;> rcases sa with s | s <;> rcases sb with t | t <;> first | (simp [ordR, sgn, sCm, rankI, k, m, s, t]; done) | skip
  · have e := eq_cz (S := S) (V := V) (a := a) (b := b) (pa k) (pb m)
    simp [ordR, sgn, sCm, rankI, k, m, s, t, ← e]
  · have e := eq_cz (S := S) (V := V) (a := a) (b := b) (pa k) (pb m)
    simp only [ordR, sgn, sCm, rankI, k, m, s, t, ← e]
    by_cases h : S 155 a = S 155 b
    · simp [h]
    · simp [h]
      split <;> rfl
theorem eq_cm (ha : eqR S S' V V' a) (hb : eqR S S' V V' b) (hk : 1 ≤ S 154 a ∧ S 154 a ≤ 3) (hl : 1 ≤ S 154 b ∧ S 154 b ≤ 3) : sCm S' V' a b = sCm S V a b := by
  unfold sCm sCz
  rw [ha.1, hb.1, ha.2.2.1 (by omega), hb.2.2.1 (by omega), ha.2.1, hb.2.1]
  by_cases h : rankI (S 154 a) (S 156 a) ≠ rankI (S 154 b) (S 156 b)
  · rw [if_pos h, if_pos h]
  · rw [if_neg h, if_neg h]
    by_cases k : S 154 a ≠ 3
    · rw [if_pos k, if_pos k]
    · rw [if_neg k, if_neg k]
      have m : S 154 b = 3 := by
        have k3 : S 154 a = 3 := by omega
        rw [k3] at h
        unfold rankI at h
        rcases (show S 154 b = 1 ∨ S 154 b = 2 ∨ S 154 b = 3 by omega) with m | m | m
        · rw [m] at h; exfalso; revert h; by_cases x : S 156 a = 0 <;> by_cases y : S 156 b = 0 <;> simp [x, y]
        · rw [m] at h; exfalso; revert h; by_cases x : S 156 a = 0 <;> by_cases y : S 156 b = 0 <;> simp [x, y]
        · exact m
      obtain ⟨t, v⟩ := ha.2.2.2 (by omega)
      obtain ⟨q, u⟩ := hb.2.2.2 m
      rw [t, v, q, u]
theorem tk_cg {x : AT} {k sg sg' sc sc' : Int} {m m' : Nat} (h1 : k ≠ 0 → sg = sg') (h2 : k = 3 → m = m' ∧ sc = sc') : tk x k sg m sc = tk x k sg' m' sc' := by
  obtain ⟨nan, inv, pi, mi, b, P, N, num, pz, nz⟩ := x
  by_cases h : k = 3
  · obtain ⟨rfl, rfl⟩ := h2 h
    rw [h1 (by omega)]
  · rw [tk_spc h, tk_spc h]
    by_cases h0 : k = 0
    · subst h0
      simp [orI]
    · rw [h1 h0]
theorem tkR_cg (h : ∀ r, r < 16 → eqR S S' V V' r) (hf : 0 ≤ f) : ∀ k : Nat, f + (k : Int) ≤ 16 → tkR S' V' f k = tkR S V f k := by
  intro k
  induction k with
  | zero => intro _; rfl
  | succ k ih =>
    intro hk
    have e := h (f + (k : Int)).toNat (by omega)
    show tk _ _ _ _ _ = tk _ _ _ _ _
    rw [ih (by omega), e.2.1, e.1]
    exact tk_cg (fun c => e.2.2.1 c) (fun c => ⟨(e.2.2.2 c).2, by rw [(e.2.2.2 c).1]⟩)
theorem tkS_R (hs : ∀ r, r < 16 → (S (30 + 3 * r) 2 = 0 ∨ S (30 + 3 * r) 2 = 1)) (hf : 0 ≤ f) : ∀ k : Nat, f + (k : Int) ≤ 16 → tkS S V f k = tkR (vS S) (vV V) f k := by
  intro k
  induction k with
  | zero => intro _; rfl
  | succ k ih =>
    intro hk
    have e := hs (f + (k : Int)).toNat (by omega)
    show tk _ _ _ _ _ = tk _ _ _ _ _
    rw [ih (by omega), vV_r, show xorI (S (30 + 3 * (f + (k : Int)).toNat) 2) 0 = S (30 + 3 * (f + (k : Int)).toNat) 2 by unfold xorI; split <;> omega]
    rfl
theorem tkp_cg {x : AT} {ka sa sa' ea ea' kb sb sb' eb eb' : Int} {ma ma' mb mb' : Nat} (h1 : ka ≠ 0 → sa = sa') (h2 : kb ≠ 0 → sb = sb') (h3 : ka = 3 → ma = ma' ∧ ea = ea') (h4 : kb = 3 → mb = mb' ∧ eb = eb') : tkp x ka sa ma ea kb sb mb eb = tkp x ka sa' ma' ea' kb sb' mb' eb' := by
  unfold tkp
  by_cases c : ka = 3 ∧ kb = 3
  · rw [if_pos c, if_pos c, h1 (by omega), h2 (by omega), (h3 c.1).1, (h3 c.1).2, (h4 c.2).1, (h4 c.2).2]
  · rw [if_neg c, if_neg c]
    by_cases c0 : ka = 0 ∨ kb = 0
    · rw [if_pos c0, if_pos c0]
    · rw [if_neg c0, if_neg c0, h1 (by omega), h2 (by omega)]
theorem tkQ_cg (h : ∀ r, r < 16 → eqR S S' V V' r) (hf : 0 ≤ f) (hg : 0 ≤ g) : ∀ k : Nat, f + (k : Int) ≤ 16 → g + (k : Int) ≤ 16 → tkQ S' V' f g k = tkQ S V f g k := by
  intro k
  induction k with
  | zero => intro _ _; rfl
  | succ k ih =>
    intro hk hl
    have e := h (f + (k : Int)).toNat (by omega)
    have e' := h (g + (k : Int)).toNat (by omega)
    show tkp _ _ _ _ _ _ _ _ _ = tkp _ _ _ _ _ _ _ _ _
    rw [ih (by omega) (by omega), e.2.1, e.1, e'.2.1, e'.1]
    exact tkp_cg (fun c => e.2.2.1 c) (fun c => e'.2.2.1 c) (fun c => ⟨(e.2.2.2 c).2, by rw [(e.2.2.2 c).1]⟩) (fun c => ⟨(e'.2.2.2 c).2, by rw [(e'.2.2.2 c).1]⟩)
theorem tkD_Q (hf : 0 ≤ f) (hg : 0 ≤ g) : ∀ k : Nat, tkD S V f g k = tkQ (vS S) (vV V) f g k := by
  intro k
  induction k with
  | zero => rfl
  | succ k ih =>
    show tkp _ _ _ _ _ _ _ _ _ = tkp _ _ _ _ _ _ _ _ _
    rw [ih, vV_r, vV_r]
    rfl
/-- an outcome that a register can hold; the flags fit an int -/
def okOO (p : Int) (o : OO) : Prop := (0 ≤ o.1 ∧ o.1 ≤ 3) ∧ (o.1 = 3 → (-20479 ≤ o.2.2.1 ∧ o.2.2.1 ≤ 16384) ∧ (xbl o.2.2.2.1 : Int) = p) ∧ (-2147483648 ≤ o.2.2.2.2.2 ∧ o.2.2.2.2.2 < 2147483648)
theorem mI_oP {o : OO} (hI : mI S V) (hr : r < 16) (hP : oP S S' V V' r o) (ho : okOO (S 153 r) o) : mI S' V' := by
  obtain ⟨i1, i2, i3, i4⟩ := hI
  obtain ⟨p1, p2, p3, p4, p5, p6, p7, p8⟩ := hP
  obtain ⟨o1, o2, o3⟩ := ho
  refine ⟨fun q hq => ?_, ?_, ?_, ?_⟩
  · have e153 : S' 153 q = S 153 q := p6 153 q (by decide) (by omega) (by omega) (by omega)
    by_cases c : q = r
    · subst c
      obtain ⟨j1, j2, j3, j4, j5, j6⟩ := i1 q hq
      rw [e153, p1]
      by_cases k : o.1 = 3
      · obtain ⟨t, v⟩ := p4.1 k
        obtain ⟨u1, u2⟩ := o2 k
        rw [t, v]
        exact ⟨j1, o1, p3, by omega, by omega, fun _ => ⟨u2, u1.2⟩⟩
      · obtain ⟨m1, m2⟩ := p4.2 k ⟨j4, j5⟩
        exact ⟨j1, o1, p3, m1, m2, fun c => absurd c k⟩
    · rw [e153, p6 154 q (by decide) (by omega) (by omega) (by omega), p6 155 q (by decide) (by omega) (by omega) (by omega), p6 156 q (by decide) (by omega) (by omega) (by omega), p8 (160 + 2 * q) (by omega) (by omega)]
      exact i1 q hq
  · rw [p7 17 (by decide) (by omega), p7 18 (by decide) (by omega)]; exact i2
  · rw [p7 20 (by decide) (by omega)]; exact i3
  · rw [p7 21 (by decide) (by omega)]; exact i4
theorem cI_cOut {o : OO} (hI : cI S V) (hr : r < 16) (hO : cOut S S' V V' (30 + 3 * r) o) (ho : okOO (S (30 + 3 * r) 0) o) : cI S' V' := by
  obtain ⟨i1, i2, i3, i4, i5, i6⟩ := hI
  obtain ⟨p1, p2, p3, p4, p5, p6, p7, p8⟩ := hO
  obtain ⟨o1, o2, o3⟩ := ho
  refine ⟨fun q hq => ?_, ?_, ?_, p7.2 i4, ?_, ?_⟩
  · have kq : cKeep (30 + 3 * q) := Or.inl (by omega)
    have e0 : S' (30 + 3 * q) 0 = S (30 + 3 * q) 0 := p6 _ 0 kq (by omega) (by omega)
    by_cases c : q = r
    · subst c
      obtain ⟨j1, j2, j3, j4, j5, j6⟩ := i1 q hq
      rw [e0, p1]
      by_cases k : o.1 = 3
      · obtain ⟨t, v⟩ := p4 k
        obtain ⟨u1, u2⟩ := o2 k
        rw [t, v]
        exact ⟨j1, o1, p3, Or.inr u1, Or.inr (by omega), fun _ => u2⟩
      · exact ⟨j1, o1, p3, Or.inl k, Or.inl k, fun c => absurd c k⟩
    · rw [e0, p6 _ 1 kq (by omega) (by omega), p6 _ 2 kq (by omega) (by omega), p6 _ 3 kq (by omega) (by omega), p8 (30 + 3 * q + 1) (by omega) (by omega) (by omega)]
      exact i1 q hq
  · rw [p6 78 0 (Or.inl (by omega)) (by omega) (by omega), p6 78 1 (Or.inl (by omega)) (by omega) (by omega)]; exact i2
  · rw [p6 78 2 (Or.inl (by omega)) (by omega) (by omega)]; exact i3
  · rw [p6 7 11 (Or.inr (Or.inl rfl)) (by omega) (by omega)]; exact i5
  · rw [p6 9 0 (by unfold cKeep; omega) (by omega) (by omega), p6 9 1 (by unfold cKeep; omega) (by omega) (by omega), p6 9 2 (by unfold cKeep; omega) (by omega) (by omega), p6 10 0 (by unfold cKeep; omega) (by omega) (by omega)]; exact i6
/-- class and reference agree -/
def eqA (S : Nat → Nat → Int) (V : Nat → Nat) (Sm : Nat → Nat → Int) (Vm : Nat → Nat) : Prop := (∀ r, r < 16 → eqR (vS S) Sm (vV V) Vm r) ∧ eqG (vS S) Sm ∧ (Sm 128 24 = S 7 11 ∧ ∀ j, Sm 158 j = S 29 j) ∧ (Sm 128 25 = S 113 3 ∧ ∀ j : Nat, (j : Int) < S 113 3 → Sm 159 j = S 114 j)
/-- the class's flags, tape and row of digits -/
def cJ (S : Nat → Nat → Int) : Prop := (-2147483648 ≤ S 78 3 ∧ S 78 3 < 2147483648) ∧ (∀ j, -128 ≤ S 29 j ∧ S 29 j ≤ 127) ∧ (0 ≤ S 113 3 ∧ S 113 3 ≤ 4112)
theorem eqA_out {Sm Sm' : Nat → Nat → Int} {Vm Vm' : Nat → Nat} {o : OO} (hE : eqA S V Sm Vm) (hr : r < 16) (hO : cOut S S' V V' (30 + 3 * r) o) (hP : oP Sm Sm' Vm Vm' r o) : eqA S' V' Sm' Vm' := by
  obtain ⟨e1, ⟨e2, e3, e4, e5⟩, ⟨e6, e7⟩, e8, e9⟩ := hE
  obtain ⟨c1, c2, c3, c4, c5, c6, c7, c8⟩ := hO
  obtain ⟨p1, p2, p3, p4, p5, p6, p7, p8⟩ := hP
  refine ⟨fun q hq => ?_, ⟨?_, ?_, ?_, ?_⟩, ⟨?_, fun j => ?_⟩, ?_, fun j hj => ?_⟩
  · have kq : cKeep (30 + 3 * q) := Or.inl (by omega)
    obtain ⟨f1, f2, f3, f4⟩ := e1 q hq
    have f1' : Sm' 153 q = Sm 153 q := p6 153 q (by decide) (by omega) (by omega) (by omega)
    have g1 : S' (30 + 3 * q) 0 = S (30 + 3 * q) 0 := c6 _ 0 kq (by omega) (by omega)
    by_cases c : q = r
    · subst c
      refine ⟨f1'.trans (f1.trans g1.symm), p1.trans c1.symm, fun k => ?_, fun k => ?_⟩
      · have k' : o.1 ≠ 0 := fun z => k (c1.trans z)
        exact (p2 k').trans (c2 k').symm
      · have k' : o.1 = 3 := c1.symm.trans k
        rw [vV_r]
        exact ⟨(p4.1 k').1.trans (c4 k').1.symm, (p4.1 k').2.trans (c4 k').2.symm⟩
    · have h1 : S' (30 + 3 * q) 1 = S (30 + 3 * q) 1 := c6 _ 1 kq (by omega) (by omega)
      have h2 : S' (30 + 3 * q) 2 = S (30 + 3 * q) 2 := c6 _ 2 kq (by omega) (by omega)
      have h3 : S' (30 + 3 * q) 3 = S (30 + 3 * q) 3 := c6 _ 3 kq (by omega) (by omega)
      refine ⟨f1'.trans (f1.trans g1.symm), (p6 154 q (by decide) (by omega) (by omega) (by omega)).trans (f2.trans h1.symm), fun k => ?_, fun k => ?_⟩
      · exact (p6 156 q (by decide) (by omega) (by omega) (by omega)).trans ((f3 (fun z => k (h1.trans z))).trans h2.symm)
      · obtain ⟨z1, z2⟩ := f4 (h1.symm.trans k)
        rw [vV_r] at z2 ⊢
        exact ⟨(p6 155 q (by decide) (by omega) (by omega) (by omega)).trans (z1.trans h3.symm), (p8 _ (by omega) (by omega)).trans (z2.trans (c8 _ (by omega) (by omega) (by omega)).symm)⟩
  · exact (p7 17 (by decide) (by omega)).trans (e2.trans (c6 78 0 (Or.inl (by omega)) (by omega) (by omega)).symm)
  · exact (p7 18 (by decide) (by omega)).trans (e3.trans (c6 78 1 (Or.inl (by omega)) (by omega) (by omega)).symm)
  · exact p5.trans c5.symm
  · exact (p7 20 (by decide) (by omega)).trans (e5.trans (c6 78 2 (Or.inl (by omega)) (by omega) (by omega)).symm)
  · exact (p7 24 (by decide) (by omega)).trans (e6.trans (c6 7 11 (Or.inr (Or.inl rfl)) (by omega) (by omega)).symm)
  · exact (p6 158 j (by decide) (by omega) (by omega) (by omega)).trans ((e7 j).trans (c6 29 j (by unfold cKeep; omega) (by omega) (by omega)).symm)
  · exact (p7 25 (by decide) (by omega)).trans (e8.trans c7.1.symm)
  · rw [c7.1] at hj
    exact (p6 159 j (by decide) (by omega) (by omega) (by omega)).trans ((e9 j hj).trans (c6 114 j (by unfold cKeep; omega) (by omega) (by omega)).symm)
theorem cJ_out {o : OO} (hJ : cJ S) (hr : r < 16) (hO : cOut S S' V V' (30 + 3 * r) o) (ho : okOO (S (30 + 3 * r) 0) o) : cJ S' := by
  obtain ⟨j1, j2, j3⟩ := hJ
  obtain ⟨c1, c2, c3, c4, c5, c6, c7, c8⟩ := hO
  refine ⟨by rw [c5]; exact ho.2.2, fun j => ?_, by rw [c7.1]; exact j3⟩
  rw [c6 29 j (by unfold cKeep; omega) (by omega) (by omega)]
  exact j2 j
end
