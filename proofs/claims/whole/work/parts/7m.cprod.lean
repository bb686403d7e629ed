/-! sums of the class: products as terms; two terms are the reference's sum -/
def tkp (x : AT) (ka sa : Int) (ma : Nat) (ea kb sb : Int) (mb : Nat) (eb : Int) : AT :=
  if ka = 3 ∧ kb = 3 then tk x 3 (xorI sa sb) (ma * mb) (ea + eb)
  else if ka = 0 ∨ kb = 0 then (1, x.2)
  else if ka ≠ 1 ∧ kb ≠ 1 then tk x 2 (xorI sa sb) 0 0
  else if ka = 2 ∨ kb = 2 then (x.1, 1, x.2.2)
  else tk x 1 (xorI sa sb) 0 0
theorem okT_tkp {n : Int} {x : AT} {ka sa : Int} {ma : Nat} {ea kb sb : Int} {mb : Nat} {eb : Int} (hn : 0 ≤ n) (h : okT n x) (h1 : ka ≠ 3 ∨ (-30000 ≤ ea ∧ ea ≤ 30000 ∧ (xbl ma : Int) + ea ≤ 30000)) (h2 : kb ≠ 3 ∨ (-30000 ≤ eb ∧ eb ≤ 30000 ∧ (xbl mb : Int) + eb ≤ 30000)) : okT (n + 1) (tkp x ka sa ma ea kb sb mb eb) := by
  have hp := xbl_prod ma mb
  unfold tkp
  split
  · exact okT_tk hn h (fun _ => by omega)
  · split
    · obtain ⟨nan, inv, pi, mi, b, P, N, num, pz, nz⟩ := x
      obtain ⟨g1, g2, g3⟩ := h
      exact ⟨⟨Or.inr rfl, g1.2⟩, g2, by omega⟩
    · split
      · exact okT_tk hn h (fun e => absurd e (by decide))
      · split
        · obtain ⟨nan, inv, pi, mi, b, P, N, num, pz, nz⟩ := x
          obtain ⟨g1, g2, g3⟩ := h
          exact ⟨⟨g1.1, Or.inr rfl, g1.2.2⟩, g2, by omega⟩
        · exact okT_tk hn h (fun e => absurd e (by decide))
theorem tk_num {nan inv pi mi b : Int} {P N : Nat} {num pz nz k sg : Int} {m : Nat} {sc : Int} (hk : k = 3) : tk (nan, inv, pi, mi, b, P, N, num, pz, nz) k sg m sc = (nan, inv, pi, mi, nlo num b sc, shf P (if num = 0 then 0 else b - nlo num b sc) + (if sg = 0 then shf m (sc - nlo num b sc) else 0), shf N (if num = 0 then 0 else b - nlo num b sc) + (if sg = 0 then 0 else shf m (sc - nlo num b sc)), 1, pz, nz) := if_pos hk
theorem tk_spc {nan inv pi mi b : Int} {P N : Nat} {num pz nz k sg : Int} {m : Nat} {sc : Int} (hk : k ≠ 3) : tk (nan, inv, pi, mi, b, P, N, num, pz, nz) k sg m sc = (orI nan (k = 0), inv, orI pi (k = 1 ∧ sg = 0), orI mi (k = 1 ∧ sg ≠ 0), b, P, N, num, orI pz (k = 2 ∧ sg = 0), orI nz (k = 2 ∧ sg ≠ 0)) := if_neg hk
section
variable {w0 w : xW} {L Z : Nat} {S S1 : Nat → Nat → Int} {V V1 : Nat → Nat} {d : Nat} {x : AT} {n : Int}
theorem aT_prod {a e : Int} (hR : cX w0 L Z S1 V1 w) (hA : aT S V S1 V1 x) (hI : cI S V) (hx : okT n x) (hn : n ≤ 100) (ha : 0 ≤ a ∧ a ≤ 15) (he : 0 ≤ e ∧ e ≤ 15) : ∃ w', xRun (d + 7) 96 [.ref 19, .ref (30 + 3 * a.toNat), .ref (30 + 3 * e.toNat)] w (.inl none) w' ∧ ∃ S2 V2, cX w0 L Z S2 V2 w' ∧ aT S V S2 V2 (tkp x (S (30 + 3 * a.toNat) 1) (S (30 + 3 * a.toNat) 2) (V (30 + 3 * a.toNat + 1)) (S (30 + 3 * a.toNat) 3 - S (30 + 3 * a.toNat) 0) (S (30 + 3 * e.toNat) 1) (S (30 + 3 * e.toNat) 2) (V (30 + 3 * e.toNat + 1)) (S (30 + 3 * e.toNat) 3 - S (30 + 3 * e.toNat) 0)) := by
  have hka := (hI.1 a.toNat (by omega)).2.1
  have hke := (hI.1 e.toNat (by omega)).2.1
  obtain ⟨nan, inv, pi, mi, b, P, N, num, pz, nz⟩ := x
  obtain ⟨h1, h2, h3⟩ := hx
  have hP : xbl P ≤ 400000 := by
    rcases h3 with g | g
    · rw [g.2.1, xbl_zero]; omega
    · omega
  have hN : xbl N ≤ 400000 := by
    rcases h3 with g | g
    · rw [g.2.2, xbl_zero]; omega
    · omega
  unfold tkp
  by_cases k1 : S (30 + 3 * a.toNat) 1 = 3 ∧ S (30 + 3 * e.toNat) 1 = 3
  · rw [if_pos k1]
    rw [tk_num rfl]
    exact a_prod3 (b := b) (P := P) (N := N) hR hA hI h1 (by omega) hP hN ha he k1
  · rw [if_neg k1]
    by_cases k2 : S (30 + 3 * a.toNat) 1 = 0 ∨ S (30 + 3 * e.toNat) 1 = 0
    · rw [if_pos k2]
      exact a_prodN (b := b) (P := P) (N := N) hR hA hI h1 (by omega) hP hN ha he k2
    · rw [if_neg k2]
      by_cases k3 : S (30 + 3 * a.toNat) 1 ≠ 1 ∧ S (30 + 3 * e.toNat) 1 ≠ 1
      · rw [if_pos k3]
        rw [tk_spc (by decide)]
        exact a_prodZ (b := b) (P := P) (N := N) hR hA hI h1 (by omega) hP hN ha he (by omega)
      · rw [if_neg k3]
        by_cases k4 : S (30 + 3 * a.toNat) 1 = 2 ∨ S (30 + 3 * e.toNat) 1 = 2
        · rw [if_pos k4]
          exact a_prodV (b := b) (P := P) (N := N) hR hA hI h1 (by omega) hP hN ha he (by omega)
        · rw [if_neg k4]
          rw [tk_spc (by decide)]
          exact a_prodI (b := b) (P := P) (N := N) hR hA hI h1 (by omega) hP hN ha he (by omega)
end
/-- two terms -/
def sA2 (p least greatest gradual f mode ka sa : Int) (ma : Nat) (ea kb sb : Int) (mb : Nat) (eb : Int) : OO :=
  if ka = 0 ∨ kb = 0 then oS 0 0 f else if ka = 1 ∧ kb = 1 ∧ sa ≠ sb then oS 0 0 (zor f 8) else if ka = 1 ∨ kb = 1 then oS 1 (if ka = 1 then sa else sb) f
  else sum2 p least greatest gradual f mode ka sa ma ea kb sb mb eb
theorem k4 {k : Int} (h : 0 ≤ k ∧ k ≤ 3) : k = 0 ∨ k = 1 ∨ k = 2 ∨ k = 3 := by omega
set_option maxHeartbeats 8000000 in
theorem fin2 {p least greatest gradual f mode ka sa : Int} {ma : Nat} {ea kb sb : Int} {mb : Nat} {eb : Int} (hka : 0 ≤ ka ∧ ka ≤ 3) (hkb : 0 ≤ kb ∧ kb ≤ 3) (hsa : sa = 0 ∨ sa = 1) (hsb : sb = 0 ∨ sb = 1) : sFinT p least greatest gradual f mode (tk (tk tk0 ka sa ma ea) kb sb mb eb) = sA2 p least greatest gradual f mode ka sa ma ea kb sb mb eb := by
  have e1 : shf ma (ea - min ea eb) = ma * 2 ^ (ea - min ea eb).toNat := shf_nn (by omega)
  have e2 : shf mb (eb - min ea eb) = mb * 2 ^ (eb - min ea eb).toNat := shf_nn (by omega)
  rcases k4 hka with rfl | rfl | rfl | rfl <;> rcases k4 hkb with rfl | rfl | rfl | rfl <;> rcases hsa with rfl | rfl <;> rcases hsb with rfl | rfl <;> simp [tk, tk0, orI, nlo, sFinT, sFin, sA2, sum2, cP, cN, zP, zN, base2, shf_z, shf_0, e1, e2, show max (0 : Int) 1 = 1 from rfl, show max (1 : Int) 0 = 1 from rfl, show max (0 : Int) 0 = 0 from rfl, show max (1 : Int) 1 = 1 from rfl]
  all_goals rfl
