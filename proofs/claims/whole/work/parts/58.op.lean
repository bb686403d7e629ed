/-! what an operation of the reference leaves: kind, sign, exponent, mantissa, answer, flags -/
abbrev OO : Type := Int × Int × Int × Nat × Int × Int
/-- a register's top and mantissa, whatever its kind -/
def mB (S : Nat → Nat → Int) (V : Nat → Nat) (r : Nat) : Prop := (-20479 ≤ S 155 r ∧ S 155 r ≤ 16385) ∧ xbl (V (160 + 2 * r)) ≤ 4096
theorem mB_eq {S S' : Nat → Nat → Int} {V V' : Nat → Nat} {r : Nat} (h1 : S' 155 r = S 155 r) (h2 : V' (160 + 2 * r) = V (160 + 2 * r)) : mB S V r → mB S' V' r := fun h => by unfold mB; rw [h1, h2]; exact h
def oP (S S' : Nat → Nat → Int) (V V' : Nat → Nat) (r : Nat) (o : OO) : Prop := S' 154 r = o.1 ∧ (o.1 ≠ 0 → S' 156 r = o.2.1) ∧ (S' 156 r = 0 ∨ S' 156 r = 1) ∧ ((o.1 = 3 → S' 155 r = o.2.2.1 ∧ V' (160 + 2 * r) = o.2.2.2.1) ∧ (o.1 ≠ 3 → mB S V r → mB S' V' r)) ∧ S' 128 19 = o.2.2.2.2.2 ∧ (∀ a j, a ≠ 128 → ¬ (a = 154 ∧ j = r) → ¬ (a = 155 ∧ j = r) → ¬ (a = 156 ∧ j = r) → S' a j = S a j) ∧ (∀ j, j ≠ 19 → (j < 26 ∨ 30 < j) → S' 128 j = S 128 j) ∧ ∀ k, 160 ≤ k → k ≠ 160 + 2 * r → V' k = V k
def oS (k sg f : Int) : OO := (k, sg, 0, 0, 0, f)
def oR (p least greatest gradual sg mode more : Int) (m : Nat) (e f : Int) : OO := ((rnd p least greatest gradual 0 sg mode more m e f).1, sg, (rnd p least greatest gradual 0 sg mode more m e f).2.1, (rnd p least greatest gradual 0 sg mode more m e f).2.2.1, (rnd p least greatest gradual 0 sg mode more m e f).2.2.2.1, (rnd p least greatest gradual 0 sg mode more m e f).2.2.2.2)
/-- nearly the same: but for the fields of sums, and the wide naturals -/
def nS (S S1 : Nat → Nat → Int) : Prop := (∀ a j, a ≠ 128 → S1 a j = S a j) ∧ ∀ j, j < 26 ∨ 30 < j → S1 128 j = S 128 j
def nV (V V1 : Nat → Nat) : Prop := ∀ k, 160 ≤ k → V1 k = V k
theorem nS.refl {S : Nat → Nat → Int} : nS S S := ⟨fun _ _ _ => rfl, fun _ _ => rfl⟩
theorem nV.refl {V : Nat → Nat} : nV V V := fun _ _ => rfl
theorem nS.up {S S1 : Nat → Nat → Int} {k : Nat} {v : Int} (h : nS S S1) (h1 : 26 ≤ k) (h2 : k ≤ 30) : nS S (u2 S1 128 k v) := by
  refine ⟨fun a j ha => ?_, fun j hj => ?_⟩
  · rw [u2_e, if_neg (fun e => ha e.1)]; exact h.1 a j ha
  · rw [u2_e, if_neg (by omega)]; exact h.2 j hj
theorem nV.up {V V1 : Nat → Nat} {k v : Nat} (h : nV V V1) (h1 : k < 160) : nV V (uv V1 k v) := by
  intro j hj
  rw [uv_n (by omega)]; exact h j hj
theorem nV.trans {V V1 V2 : Nat → Nat} (h : nV V V1) (h1 : nV V1 V2) : nV V V2 := fun k hk => (h1 k hk).trans (h k hk)
theorem nS.trans {V V1 V2 : Nat → Nat → Int} (h : nS V V1) (h1 : nS V1 V2) : nS V V2 := ⟨fun a j ha => (h1.1 a j ha).trans (h.1 a j ha), fun j hj => (h1.2 j hj).trans (h.2 j hj)⟩
section
variable {S S1 S' : Nat → Nat → Int} {V V1 V' : Nat → Nat} {r : Nat} {sg : Int}
theorem oP_round {p least greatest gradual mode more : Int} {m : Nat} {e f : Int} (hP : rPost S1 S' V1 V' r sg (rnd p least greatest gradual 0 sg mode more m e f)) (hs : sg = 0 ∨ sg = 1) (h1 : nS S S1) (h2 : nV V V1) : oP S S' V V' r (oR p least greatest gradual sg mode more m e f) := by
  obtain ⟨g1, g2, g3, g4, g5, g6⟩ := hP
  refine ⟨g1, fun _ => g2, by rw [g2]; exact hs, ⟨g3.1, fun h => mB_eq ((g3.2 h).1.trans (h1.1 155 r (by decide))) ((g3.2 h).2.trans (h2 _ (by omega)))⟩, g4, fun a j a0 a1 a2 a3 => ?_, fun j h3 h4 => ?_, fun k h3 h4 => ?_⟩
  · exact (g5 a j a1 a2 a3 (fun e => a0 e.1)).trans (h1.1 a j a0)
  · exact (g5 128 j (by omega) (by omega) (by omega) (by omega)).trans (h1.2 j h4)
  · exact (g6 k (by omega) (by omega) (by omega) (by omega) h4).trans (h2 k h3)
theorem oP_special {k f : Int} (hs : sg = 0 ∨ sg = 1) (hk : k ≠ 3) (h1 : nS S S1) (h2 : nV V V1) (hf : S 128 19 = f) : oP S (u2 (u2 S1 154 r k) 156 r sg) V V1 r (oS k sg f) := by
  refine ⟨by simp [u2_e, oS], fun _ => by simp [u2_e, oS], by simp [u2_e]; exact hs, ⟨fun h => absurd h hk, fun _ => mB_eq (by rw [u2_e, if_neg (by omega), u2_e, if_neg (by omega)]; exact h1.1 155 r (by decide)) (h2 _ (by omega))⟩, ?_, fun a j a0 a1 a2 a3 => ?_, fun j h3 h4 => ?_, fun k h3 _ => h2 k h3⟩
  · rw [u2_e, if_neg (by omega), u2_e, if_neg (by omega), h1.2 19 (by omega)]; exact hf
  · rw [u2_e, if_neg a3, u2_e, if_neg a1]; exact h1.1 a j a0
  · rw [u2_e, if_neg (by omega), u2_e, if_neg (by omega)]; exact h1.2 j h4
theorem oP_flag {k f c : Int} (hs : sg = 0 ∨ sg = 1) (hk : k ≠ 3) (h1 : nS S S1) (h2 : nV V V1) (hf : S1 128 19 = f) : oP S (u2 (u2 (u2 S1 128 19 (zor f c)) 154 r k) 156 r sg) V V1 r (oS k sg (zor f c)) := by
  refine ⟨by simp [u2_e, oS], fun _ => by simp [u2_e, oS], by simp [u2_e]; exact hs, ⟨fun h => absurd h hk, fun _ => mB_eq (by rw [u2_e, if_neg (by omega), u2_e, if_neg (by omega), u2_e, if_neg (by omega)]; exact h1.1 155 r (by decide)) (h2 _ (by omega))⟩, by simp [u2_e, oS], fun a j a0 a1 a2 a3 => ?_, fun j h3 h4 => ?_, fun k h3 _ => h2 k h3⟩
  · rw [u2_e, if_neg a3, u2_e, if_neg a1, u2_e, if_neg (by omega)]; exact h1.1 a j a0
  · rw [u2_e, if_neg (by omega), u2_e, if_neg (by omega), u2_e, if_neg (by omega)]; exact h1.2 j h4
theorem oP.near {o : OO} (h1 : nS S S1) (h2 : nV V V1) (h : oP S1 S' V1 V' r o) : oP S S' V V' r o := by
  obtain ⟨g1, g2, g3, g4, g5, g6, g7, g8⟩ := h
  exact ⟨g1, g2, g3, ⟨g4.1, fun h hb => g4.2 h (mB_eq (h1.1 155 r (by decide)) (h2 _ (by omega)) hb)⟩, g5, fun a j a0 a1 a2 a3 => (g6 a j a0 a1 a2 a3).trans (h1.1 a j a0), fun j h3 h4 => (g7 j h3 h4).trans (h1.2 j h4), fun k h3 h4 => (g8 k h3 h4).trans (h2 k h3)⟩
end
/-- a fact that omega does not see -/
def hid (P : Prop) : Prop := P
/-- what holds between the calls -/
def mI (S : Nat → Nat → Int) (V : Nat → Nat) : Prop := (∀ r, r < 16 → (2 ≤ S 153 r ∧ S 153 r ≤ 4096) ∧ (0 ≤ S 154 r ∧ S 154 r ≤ 3) ∧ (S 156 r = 0 ∨ S 156 r = 1) ∧ (-20479 ≤ S 155 r ∧ S 155 r ≤ 16385) ∧ xbl (V (160 + 2 * r)) ≤ 4096 ∧ hid (S 154 r = 3 → (xbl (V (160 + 2 * r)) : Int) = S 153 r ∧ S 155 r ≤ 16384)) ∧ (-16384 ≤ S 128 17 ∧ S 128 17 ≤ S 128 18 ∧ S 128 18 ≤ 16384) ∧ (S 128 20 = 0 ∨ S 128 20 = 1) ∧ S 128 21 = 0
theorem nS.mI {S S1 : Nat → Nat → Int} {V V1 : Nat → Nat} (h : nS S S1) (h2 : nV V V1) (hI : mI S V) : mI S1 V1 := by
  obtain ⟨i1, i2, i3, i4⟩ := hI
  refine ⟨fun r hr => ?_, ?_, ?_, ?_⟩
  · rw [h.1 153 r (by decide), h.1 154 r (by decide), h.1 155 r (by decide), h.1 156 r (by decide), h2 _ (by omega)]; exact i1 r hr
  · rw [h.2 17 (by omega), h.2 18 (by omega)]; exact i2
  · rw [h.2 20 (by omega)]; exact i3
  · rw [h.2 21 (by omega)]; exact i4
theorem mI.nz {S : Nat → Nat → Int} {V : Nat → Nat} {r : Nat} (hI : mI S V) (hr : r < 16) (hk : S 154 r = 3) : V (160 + 2 * r) ≠ 0 := by
  obtain ⟨h1, -, -, -, -, h6⟩ := hI.1 r hr
  have := (h6 hk).1
  intro e
  rw [e, xbl_zero] at this
  omega
