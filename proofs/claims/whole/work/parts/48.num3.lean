/-! number: what is answered, and what is left as it was -/
def xans (sg : Nat) (md E : Int) (pw : Prop) [Decidable pw] : Int32 :=
  if E ≤ 16384 then
    if -16384 ≤ E then 0
    else if md = 4 ∨ (md = 2 ∧ sg = 0) ∨ (md = 3 ∧ sg ≠ 0) ∨ (md = 0 ∧ E = -16385 ∧ ¬ pw) then (if sg = 0 then 1 else -1) else (if sg = 0 then -1 else 1)
  else if md = 0 ∨ md = 4 ∨ (md = 2 ∧ sg = 0) ∨ (md = 3 ∧ sg ≠ 0) then (if sg = 0 then 1 else -1) else (if sg = 0 then -1 else 1)
theorem xans_in {sg : Nat} {md E : Int} {pw : Prop} {dp : Decidable pw} (h1 : -16384 ≤ E) (h2 : E ≤ 16384) : @xans sg md E pw dp = 0 := by unfold xans; rw [if_pos h2, if_pos h1]
theorem xans_o1 {sg : Nat} {md E : Int} {pw : Prop} {dp : Decidable pw} (h : 16384 < E) (hc : md = 0 ∨ md = 4 ∨ (md = 2 ∧ sg = 0) ∨ (md = 3 ∧ sg ≠ 0)) : @xans sg md E pw dp = if sg = 0 then 1 else -1 := by unfold xans; rw [if_neg (by omega), if_pos hc]
theorem xans_o0 {sg : Nat} {md E : Int} {pw : Prop} {dp : Decidable pw} (h : 16384 < E) (hc : ¬ (md = 0 ∨ md = 4 ∨ (md = 2 ∧ sg = 0) ∨ (md = 3 ∧ sg ≠ 0))) : @xans sg md E pw dp = if sg = 0 then -1 else 1 := by unfold xans; rw [if_neg (by omega), if_neg hc]
theorem xans_u1 {sg : Nat} {md E : Int} {pw : Prop} {dp : Decidable pw} (h : E < -16384) (hc : md = 4 ∨ (md = 2 ∧ sg = 0) ∨ (md = 3 ∧ sg ≠ 0)) : @xans sg md E pw dp = if sg = 0 then 1 else -1 := by unfold xans; rw [if_pos (by omega), if_neg (by omega), if_pos (by rcases hc with h | h | h <;> simp [h])]
theorem xans_u2 {sg : Nat} {md E : Int} {pw : Prop} {dp : Decidable pw} (h : E < -16384) (hm : md = 0) (hE : E = -16385) (hp : ¬ pw) : @xans sg md E pw dp = if sg = 0 then 1 else -1 := by unfold xans; rw [if_pos (by omega), if_neg (by omega), if_pos (Or.inr (Or.inr (Or.inr ⟨hm, hE, hp⟩)))]
theorem xans_u0 {sg : Nat} {md E : Int} {pw : Prop} {dp : Decidable pw} (h : E < -16384) (hc : ¬ (md = 4 ∨ (md = 2 ∧ sg = 0) ∨ (md = 3 ∧ sg ≠ 0))) (hd : md = 0 → E = -16385 → pw) : @xans sg md E pw dp = if sg = 0 then -1 else 1 := by
  unfold xans
  rw [if_pos (by omega), if_neg (by omega), if_neg]
  intro hx
  rcases hx with h1 | h1 | h1 | ⟨h1, h2, h3⟩
  · exact hc (Or.inl h1)
  · exact hc (Or.inr (Or.inl h1))
  · exact hc (Or.inr (Or.inr h1))
  · exact h3 (hd h1 h2)
/-- what a run leaves as it was: the cells of P, the number of cells, their size -/
def xKp (w0 w1 : xW) (P : Nat → Prop) : Prop := (∀ h, P h → w1[h]? = w0[h]?) ∧ w1.length = w0.length ∧ xsz w1 = xsz w0
theorem xKp.refl {w : xW} {P : Nat → Prop} : xKp w w P := ⟨fun _ _ => rfl, rfl, rfl⟩
theorem xKp.set {w0 w1 : xW} {P : Nat → Prop} {a : Nat} {c c2 : xC} (k : xKp w0 w1 P) (hne : ∀ h, P h → a ≠ h) (hw : w1[a]? = some c) (hc : xcs c2 = xcs c) : xKp w0 (w1.set a c2) P :=
  ⟨fun h hh => (xgn (hne h hh) rfl).trans (k.1 h hh), (List.length_set ..).trans k.2.1, (xsz_set hc hw).trans k.2.2⟩
theorem xKp.trans {w0 w1 w2 : xW} {P : Nat → Prop} (k : xKp w0 w1 P) (l : xKp w1 w2 P) : xKp w0 w2 P := ⟨fun h hh => (l.1 h hh).trans (k.1 h hh), l.2.1.trans k.2.1, l.2.2.trans k.2.2⟩
def xPC (h : Nat) : Prop := (128 ≤ h ∧ h ≠ 194) ∨ h = 0
def xPM (h : Nat) : Prop := h < 128 ∨ h = 194
def xPW (m : Int64) : Prop := xul m % 2 ^ (xbl (xul m) - 1) = 0
def xpwd (m : Int64) : Decidable (xPW m) := inferInstanceAs (Decidable (_ = _))
def xres (sg : Nat) (m : Int64) (sc md : Int32) : Int32 := @xans sg md.toInt ((xbl (xul m) : Int) + sc.toInt) (xPW m) (xpwd m)
def xC1 (m : Int64) (B K : Int32) : Prop := 1 ≤ B.toInt ∧ B.toInt ≤ 32 ∧ (xhi m).toInt = 0 ∧ (xlo m).toInt ≠ 0 ∧ (xnlz (xlo m)).toInt = 32 - B.toInt ∧ (xbf 1 (xlo m) (0 : Int32) ((32 : Int32) - K)).toInt ≠ 0
def xC2 (m : Int64) (B K : Int32) : Prop := 33 ≤ B.toInt ∧ B.toInt ≤ 64 ∧ (xhi m).toInt ≠ 0 ∧ (xnlz (xhi m)).toInt = 64 - B.toInt ∧ (xbf 2 (xlo m) (xhi m) ((32 : Int32) - K)).toInt ≠ 0
theorem xregC {m : Int64} (hm : m ≠ 0) : ∃ B K : Int32, B.toInt = (xbl (xul m) : Int) ∧ K.toInt = 64 - B.toInt ∧ (xC1 m B K ∨ xC2 m B K) := by
  obtain ⟨B, K, P, G, hB, hK, hr⟩ := xreg hm
  refine ⟨B, K, hB, hK, ?_⟩
  rcases hr with h | h | h | h | h | h | h
  · obtain ⟨a0, a1, a2, a3, a4, a5, a6, a7, a8, a9, a10, a11, a12, a13, a14, a15, a16, a17, a18⟩ := h
    exact .inl ⟨a0, by omega, a2, a3, a4, a5⟩
  · obtain ⟨a0, a1, a2, a3, a4, a5, a6, a7, a8, a9, a10, a11, a12, a13, a14, a15, a16, a17⟩ := h
    exact .inl ⟨by omega, by omega, a2, a3, a4, a5⟩
  · obtain ⟨a0, a1, a2, a3, a4, a5, a6, a7, a8, a9, a10, a11, a12, a13, a14, a15, a16, a17, a18, a19⟩ := h
    exact .inl ⟨by omega, a1, a2, a3, a4, a5⟩
  · obtain ⟨a0, a1, a2, a3, a4, a5, a6, a7, a8, a9, a10, a11, a12, a13, a14, a15, a16, a17, a18⟩ := h
    exact .inr ⟨a0, by omega, a2, a3, a4⟩
  · obtain ⟨a0, a1, a2, a3, a4, a5, a6, a7, a8, a9, a10, a11, a12, a13, a14, a15, a16, a17⟩ := h
    exact .inr ⟨by omega, by omega, a2, a3, a4⟩
  · obtain ⟨a0, a1, a2, a3, a4, a5, a6, a7, a8, a9, a10, a11, a12, a13, a14, a15, a16, a17, a18, a19⟩ := h
    exact .inr ⟨by omega, by omega, a2, a3, a4⟩
  · obtain ⟨a0, a1, a2, a3, a4, a5, a6, a7, a8, a9, a10, a11, a12, a13, a14⟩ := h
    exact .inr ⟨by omega, a1, a2, a3, a4⟩
theorem xpowC1 {m : Int64} {B K : Int32} (hB : B.toInt = (xbl (xul m) : Int)) (h : xC1 m B K) : ((xntz (xlo m)).toInt = B.toInt - 1 ∧ xPW m) ∨ ((xntz (xlo m)).toInt ≠ B.toInt - 1 ∧ ¬ xPW m) := by
  obtain ⟨a0, a1, a2, a3, a4, a5⟩ := h
  have hN : xul m ≠ 0 := fun e => by rw [e] at hB; exact absurd hB (by show ¬ (B.toInt = (0 : Int)); omega)
  have hb := xbl_of hN
  have p0 := Nat.le_trans (Nat.pow_le_pow_right (n := 2) (by omega) (show 0 ≤ xbl (xul m) - 1 by omega)) hb.1
  have p1 := Nat.lt_of_lt_of_le hb.2.1 (Nat.pow_le_pow_right (n := 2) (by omega) (show xbl (xul m) ≤ 32 by omega))
  have c1 := xlo_n m
  have c2 := xhi_n m
  unfold xPW
  have hlo := xntz_pow (x := xlo m) a3
  rw [show xun (xlo m) = xul m by omega, ← hB] at hlo
  rcases Nat.eq_zero_or_pos (xul m % 2 ^ (xbl (xul m) - 1)) with hp | hp
  · exact .inl ⟨hlo.mpr hp, hp⟩
  · exact .inr ⟨fun e => absurd (hlo.mp e) (by omega), by omega⟩
theorem xpowC2 {m : Int64} {B K : Int32} (hB : B.toInt = (xbl (xul m) : Int)) (h : xC2 m B K) : ((xlo m).toInt ≠ 0 ∧ 0 ≤ (xntz (xlo m)).toInt ∧ (xntz (xlo m)).toInt ≤ 31 ∧ ¬ xPW m) ∨ ((xlo m).toInt = 0 ∧ (xntz (xhi m)).toInt = B.toInt - 33 ∧ xPW m) ∨ ((xlo m).toInt = 0 ∧ (xntz (xhi m)).toInt ≠ B.toInt - 33 ∧ ¬ xPW m) := by
  obtain ⟨a0, a1, a2, a3, a4⟩ := h
  have hN : xul m ≠ 0 := fun e => by rw [e] at hB; exact absurd hB (by show ¬ (B.toInt = (0 : Int)); omega)
  have hb := xbl_of hN
  have p0 := Nat.le_trans (Nat.pow_le_pow_right (n := 2) (by omega) (show 32 ≤ xbl (xul m) - 1 by omega)) hb.1
  have p1 := Nat.lt_of_lt_of_le hb.2.1 (Nat.pow_le_pow_right (n := 2) (by omega) (show xbl (xul m) ≤ 64 by omega))
  have c1 := xlo_n m
  have c2 := xhi_n m
  unfold xPW
  have e1 := xbl_hi (N := xul m) (k := 32) (by omega)
  rw [show xul m / 2 ^ 32 = xun (xhi m) by omega] at e1
  have hhi : xul m % 2 ^ 32 = 0 → ((xntz (xhi m)).toInt = B.toInt - 33 ↔ xul m % 2 ^ (xbl (xul m) - 1) = 0) := fun h0 => by
    rw [xscale h0 (by omega), show xul m / 2 ^ 32 = xun (xhi m) by omega, show xbl (xul m) - 1 - 32 = xbl (xun (xhi m)) - 1 by omega, ← xntz_pow (x := xhi m) a2]
    constructor <;> intro h <;> omega
  by_cases h0 : xul m % 2 ^ 32 = 0
  · have hl : (xlo m).toInt = 0 := xun_z.mp (by omega)
    rcases Nat.eq_zero_or_pos (xul m % 2 ^ (xbl (xul m) - 1)) with hp | hp
    · exact .inr (.inl ⟨hl, (hhi h0).mpr hp, hp⟩)
    · exact .inr (.inr ⟨hl, fun e => absurd ((hhi h0).mp e) (by omega), by omega⟩)
  · have hl : (xlo m).toInt ≠ 0 := xnz (by omega)
    have nl := xntz_lt hl
    have nb : xbl (xun (xlo m)) ≤ 32 := xbl_le (xun_lt _)
    exact .inl ⟨hl, nl.1, by omega, fun e => h0 (xdown (by omega) e)⟩
