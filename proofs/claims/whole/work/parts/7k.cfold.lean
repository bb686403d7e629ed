/-! sums of the class as a fold over their terms -/
abbrev AT := Int × Int × Int × Int × Int × Nat × Nat × Int × Int × Int
def aT (S : Nat → Nat → Int) (V : Nat → Nat) (S1 : Nat → Nat → Int) (V1 : Nat → Nat) (x : AT) : Prop := aS S V S1 V1 x.1 x.2.1 x.2.2.1 x.2.2.2.1 x.2.2.2.2.1 x.2.2.2.2.2.1 x.2.2.2.2.2.2.1 x.2.2.2.2.2.2.2.1 x.2.2.2.2.2.2.2.2.1 x.2.2.2.2.2.2.2.2.2
def tk0 : AT := (0, 0, 0, 0, 0, 0, 0, 0, 0, 0)
/-- a term of kind k, sign sg, magnitude m * 2^sc -/
def tk (x : AT) (k sg : Int) (m : Nat) (sc : Int) : AT :=
  match x with
  | (nan, inv, pi, mi, b, P, N, num, pz, nz) =>
    if k = 3 then (nan, inv, pi, mi, nlo num b sc, shf P (if num = 0 then 0 else b - nlo num b sc) + (if sg = 0 then shf m (sc - nlo num b sc) else 0), shf N (if num = 0 then 0 else b - nlo num b sc) + (if sg = 0 then 0 else shf m (sc - nlo num b sc)), 1, pz, nz)
    else (orI nan (k = 0), inv, orI pi (k = 1 ∧ sg = 0), orI mi (k = 1 ∧ sg ≠ 0), b, P, N, num, orI pz (k = 2 ∧ sg = 0), orI nz (k = 2 ∧ sg ≠ 0))
def okT (n : Int) (x : AT) : Prop :=
  match x with
  | (nan, inv, pi, mi, b, P, N, num, pz, nz) => ((nan = 0 ∨ nan = 1) ∧ (inv = 0 ∨ inv = 1) ∧ (pi = 0 ∨ pi = 1) ∧ (mi = 0 ∨ mi = 1) ∧ (num = 0 ∨ num = 1) ∧ (pz = 0 ∨ pz = 1) ∧ (nz = 0 ∨ nz = 1)) ∧ (-60000 ≤ b ∧ b ≤ 60000) ∧ ((num = 0 ∧ P = 0 ∧ N = 0) ∨ (num ≠ 0 ∧ (xbl P : Int) + b ≤ 60000 + n ∧ (xbl N : Int) + b ≤ 60000 + n))
theorem okT_0 {n : Int} : okT n tk0 := ⟨⟨Or.inl rfl, Or.inl rfl, Or.inl rfl, Or.inl rfl, Or.inl rfl, Or.inl rfl, Or.inl rfl⟩, by decide, Or.inl ⟨rfl, rfl, rfl⟩⟩
theorem xbl_addI {a b : Nat} {t : Int} (h1 : (xbl a : Int) ≤ t) (h2 : (xbl b : Int) ≤ t) : (xbl (a + b) : Int) ≤ t + 1 := by
  have := xbl_add (a := a) (b := b) (n := t.toNat) (by omega) (by omega)
  omega
theorem okT_tk {n : Int} {x : AT} {k sg : Int} {m : Nat} {sc : Int} (hn : 0 ≤ n) (h : okT n x) (hsc : k = 3 → -60000 ≤ sc ∧ sc ≤ 60000 ∧ (xbl m : Int) + sc ≤ 60000) : okT (n + 1) (tk x k sg m sc) := by
  obtain ⟨nan, inv, pi, mi, b, P, N, num, pz, nz⟩ := x
  obtain ⟨h1, h2, h3⟩ := h
  by_cases hk : k = 3
  · have hs := hsc hk
    have e : tk (nan, inv, pi, mi, b, P, N, num, pz, nz) k sg m sc = (nan, inv, pi, mi, nlo num b sc, shf P (if num = 0 then 0 else b - nlo num b sc) + (if sg = 0 then shf m (sc - nlo num b sc) else 0), shf N (if num = 0 then 0 else b - nlo num b sc) + (if sg = 0 then 0 else shf m (sc - nlo num b sc)), 1, pz, nz) := if_pos hk
    rw [e]
    have hb : (num = 0 ∧ nlo num b sc = sc) ∨ (num ≠ 0 ∧ nlo num b sc = min b sc) := by
      unfold nlo
      by_cases g : num = 0
      · exact Or.inl ⟨g, if_pos g⟩
      · exact Or.inr ⟨g, if_neg g⟩
    have hP : ∀ Y : Nat, (num = 0 ∧ Y = 0) ∨ (num ≠ 0 ∧ (xbl Y : Int) + b ≤ 60000 + n) → (xbl (shf Y (if num = 0 then 0 else b - nlo num b sc)) : Int) ≤ 60000 + n - nlo num b sc := by
      intro Y hY
      have := shf_ble Y (if num = 0 then 0 else b - nlo num b sc)
      by_cases g : num = 0
      · rw [if_pos g] at this ⊢
        rcases hY with g2 | g2
        · rw [g2.2, shf_0, xbl_zero]; omega
        · exact absurd g g2.1
      · rw [if_neg g] at this ⊢
        omega
    have hm := shf_ble m (sc - nlo num b sc)
    refine ⟨⟨h1.1, h1.2.1, h1.2.2.1, h1.2.2.2.1, Or.inr rfl, h1.2.2.2.2.2⟩, by omega, Or.inr ⟨by decide, ?_, ?_⟩⟩
    · have := xbl_addI (t := 60000 + n - nlo num b sc) (hP P (by omega)) (show (xbl (if sg = 0 then shf m (sc - nlo num b sc) else 0) : Int) ≤ 60000 + n - nlo num b sc by split <;> (try rw [xbl_zero]) <;> omega)
      omega
    · have := xbl_addI (t := 60000 + n - nlo num b sc) (hP N (by omega)) (show (xbl (if sg = 0 then 0 else shf m (sc - nlo num b sc)) : Int) ≤ 60000 + n - nlo num b sc by split <;> (try rw [xbl_zero]) <;> omega)
      omega
  · have e : tk (nan, inv, pi, mi, b, P, N, num, pz, nz) k sg m sc = (orI nan (k = 0), inv, orI pi (k = 1 ∧ sg = 0), orI mi (k = 1 ∧ sg ≠ 0), b, P, N, num, orI pz (k = 2 ∧ sg = 0), orI nz (k = 2 ∧ sg ≠ 0)) := if_neg hk
    rw [e]
    exact ⟨⟨orI_01 _ _, h1.2.1, orI_01 _ _, orI_01 _ _, h1.2.2.2.2.1, orI_01 _ _, orI_01 _ _⟩, h2, by omega⟩
section
variable {w0 w : xW} {L Z : Nat} {S S1 : Nat → Nat → Int} {V V1 : Nat → Nat} {d : Nat} {x : AT} {n : Int}
theorem aT_begin (hR : cX w0 L Z S V w) : ∃ w', xRun d 59 [.ref 19] w (.inl none) w' ∧ ∃ S2 V2, cX w0 L Z S2 V2 w' ∧ aT S V S2 V2 tk0 := by
  obtain ⟨w', h1, h2⟩ := x_begin (d := d) hR
  refine ⟨w', h1, _, _, h2, ?_, ?_, ?_⟩
  · exact (nC.up (nC.up (nC.up (nC.up (nC.up (nC.up (nC.up (nC.up nC.refl (by unfold cKeep; omega) (by omega)) (by unfold cKeep; omega) (by omega)) (by unfold cKeep; omega) (by omega)) (by unfold cKeep; omega) (by omega)) (by unfold cKeep; omega) (by omega)) (by unfold cKeep; omega) (by omega)) (by unfold cKeep; omega) (by omega)) (by unfold cKeep; omega) (by omega))
  · exact (nW.refl.up (by omega)).up (by omega)
  · refine ⟨?_, ?_, ?_, ?_, ?_, ?_, ?_, ?_, ?_, ?_⟩
    all_goals first | (simp only [u2_eq]; rfl) | (simp only [uv_e]; rfl)
theorem aT_take {a ng : Int} (hR : cX w0 L Z S1 V1 w) (hA : aT S V S1 V1 x) (hI : cI S V) (hx : okT n x) (hn : n ≤ 100) (ha : 0 ≤ a ∧ a ≤ 15) (hng : ng = 0 ∨ ng = 1) : ∃ w', xRun (d + 7) 60 [.ref 19, .ref (30 + 3 * a.toNat), .int (Int32.ofInt ng)] w (.inl none) w' ∧ ∃ S2 V2, cX w0 L Z S2 V2 w' ∧ aT S V S2 V2 (tk x (S (30 + 3 * a.toNat) 1) (xorI (S (30 + 3 * a.toNat) 2) ng) (V (30 + 3 * a.toNat + 1)) (S (30 + 3 * a.toNat) 3 - S (30 + 3 * a.toNat) 0)) := by
  obtain ⟨nan, inv, pi, mi, b, P, N, num, pz, nz⟩ := x
  obtain ⟨h1, h2, h3⟩ := hx
  have hP : xbl P ≤ 400000 := by
    rcases h3 with g | g
    · rw [g.2.1, xbl_zero]; omega
    · omega
  have hN : xbl N ≤ 400000 := by
    rcases h3 with g | g
    · rw [g.2.2, xbl_zero]; omega
    · omega
  by_cases hk : S (30 + 3 * a.toNat) 1 = 3
  · have e : tk (nan, inv, pi, mi, b, P, N, num, pz, nz) (S (30 + 3 * a.toNat) 1) (xorI (S (30 + 3 * a.toNat) 2) ng) (V (30 + 3 * a.toNat + 1)) (S (30 + 3 * a.toNat) 3 - S (30 + 3 * a.toNat) 0) = _ := if_pos hk
    rw [e]
    exact a_take3 (b := b) (P := P) (N := N) hR hA hI h1 (by omega) hP hN ha hng hk
  · have e : tk (nan, inv, pi, mi, b, P, N, num, pz, nz) (S (30 + 3 * a.toNat) 1) (xorI (S (30 + 3 * a.toNat) 2) ng) (V (30 + 3 * a.toNat + 1)) (S (30 + 3 * a.toNat) 3 - S (30 + 3 * a.toNat) 0) = _ := if_neg hk
    rw [e]
    exact a_takeS (b := b) (P := P) (N := N) hR hA hI h1 (by omega) hP hN ha hng hk
def sFinT (p least greatest gradual f mode : Int) (x : AT) : OO :=
  match x with
  | (nan, inv, pi, mi, b, P, N, num, pz, nz) => sFin p least greatest gradual f mode nan inv pi mi b P N num pz nz
theorem aT_fin {r mode : Int} (hR : cX w0 L Z S1 V1 w) (hA : aT S V S1 V1 x) (hI : cI S V) (hx : okT n x) (hn : n ≤ 100) (hr : 0 ≤ r ∧ r ≤ 15) (hmo : 0 ≤ mode ∧ mode ≤ 4) : ∃ w', xRun (d + 10) 64 [.ref 19, .ref 78, .ref (30 + 3 * r.toNat), .int (Int32.ofInt mode)] w (.inl (some (.int (Int32.ofInt (sFinT (S (30 + 3 * r.toNat) 0) (S 78 0) (S 78 1) (S 78 2) (S 78 3) mode x).2.2.2.2.1)))) w' ∧ ∃ S' V', cX w0 L Z S' V' w' ∧ cOut S S' V V' (30 + 3 * r.toNat) (sFinT (S (30 + 3 * r.toNat) 0) (S 78 0) (S 78 1) (S 78 2) (S 78 3) mode x) := by
  obtain ⟨nan, inv, pi, mi, b, P, N, num, pz, nz⟩ := x
  obtain ⟨h1, h2, h3⟩ := hx
  obtain ⟨a1, a2, a3, a4, a5, a6, a7, a8, a9, a10, a11, a12⟩ := hA
  have hP : xbl P ≤ 400000 := by
    rcases h3 with g | g
    · rw [g.2.1, xbl_zero]; omega
    · omega
  have hN : xbl N ≤ 400000 := by
    rcases h3 with g | g
    · rw [g.2.2, xbl_zero]; omega
    · omega
  dsimp only at a3 a4 a5 a6 a7 a8 a9 a10 a11 a12
  obtain ⟨w', k1, S', V', k2, k3⟩ := x_fin (d := d) (r := r) (mode := mode) hR (a1.cI a2 hI) hr hmo (by rw [a4]; exact h1.1) (by rw [a5]; exact h1.2.1) (by rw [a6]; exact h1.2.2.1) (by rw [a7]; exact h1.2.2.2.1) (by rw [a8]; exact h1.2.2.2.2.1) (by rw [a9]; exact h1.2.2.2.2.2.1) (by rw [a10]; exact h1.2.2.2.2.2.2) (by rw [a3]; omega) (by rw [a11]; omega) (by rw [a12]; omega)
  rw [a3, a4, a5, a6, a7, a8, a9, a10, a11, a12, a1.1 (30 + 3 * r.toNat) 0 (Or.inl (by omega)), a1.1 78 0 (Or.inl (by omega)), a1.1 78 1 (Or.inl (by omega)), a1.1 78 2 (Or.inl (by omega)), a1.1 78 3 (Or.inl (by omega))] at k1 k3
  exact ⟨w', k1, S', V', k2, k3.near a1 a2⟩
end
