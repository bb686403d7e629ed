/-! runs of the naturals' methods as callers take them; what the walks of the reference use -/
section
variable {d : Nat} {w0 w : xW} {S : Nat → Nat → Int} {V : Nat → Nat} {h h2 h3 v v2 v3 c : Nat} {k : Int}
theorem r_setn (hR : mR w0 S V w) (hh : isN h) (hh2 : isN h2) (hv : V h2 = v) (hc : ncap h = c) (hb : xbl v ≤ 30 * c) : ∃ w', xRun (d + 2) 182 [.ref h, .ref h2] w (.inl none) w' ∧ mR w0 S (uv V h v) w' := by
  subst hv; subst hc
  obtain ⟨o, w', h1, rfl, h2⟩ := (m_setn (d := d) (Q := fun o w' => o = .inl none ∧ mR w0 S (uv V h (V h2)) w') hR hh hh2 hb (fun w' h => ⟨rfl, h⟩)).run
  exact ⟨w', h1, h2⟩
theorem r_setl {x : Int64} (hR : mR w0 S V w) (hh : isN h) (hx : xul x = v) : ∃ w', xRun (d + 2) 179 [.ref h, .long x] w (.inl none) w' ∧ mR w0 S (uv V h v) w' := by
  subst hx
  obtain ⟨o, w', h1, rfl, h2⟩ := (m_setl (d := d) (Q := fun o w' => o = .inl none ∧ mR w0 S (uv V h (xul x)) w') hR hh (fun w' h => ⟨rfl, h⟩)).run
  exact ⟨w', h1, h2⟩
theorem r_bits (hR : mR w0 S V w) (hh : isN h) (hv : V h = v) : xRun (d + 2) 181 [.ref h] w (.inl (some (.int (Int32.ofInt (xbl v))))) w := by
  subst hv
  obtain ⟨o, w', h1, rfl, h2⟩ := (m_bits (d := d) (Q := fun o w' => o = .inl (some (.int (Int32.ofInt (xbl (V h))))) ∧ w' = w) hR hh ⟨rfl, rfl⟩).run
  subst h2; exact h1
theorem r_bit (hR : mR w0 S V w) (hh : isN h) (hv : V h = v) (k0 : -2147483648 ≤ k) (k1 : k < 2147483648) : xRun (d + 2) 184 [.ref h, .int (Int32.ofInt k)] w (.inl (some (.int (Int32.ofInt (bb (nbit v k)))))) w := by
  subst hv
  obtain ⟨o, w', h1, rfl, h2⟩ := (m_bit (d := d) (Q := fun o w' => o = .inl (some (.int (Int32.ofInt (bb (nbit (V h) k))))) ∧ w' = w) hR hh k0 k1 ⟨rfl, rfl⟩).run
  subst h2; exact h1
theorem r_any (hR : mR w0 S V w) (hh : isN h) (hv : V h = v) (k0 : -2147483648 ≤ k) (k1 : k < 2147483648) : xRun (d + 2) 183 [.ref h, .int (Int32.ofInt k)] w (.inl (some (.int (Int32.ofInt (bb (nany v k)))))) w := by
  subst hv
  obtain ⟨o, w', h1, rfl, h2⟩ := (m_any (d := d) (Q := fun o w' => o = .inl (some (.int (Int32.ofInt (bb (nany (V h) k))))) ∧ w' = w) hR hh k0 k1 ⟨rfl, rfl⟩).run
  subst h2; exact h1
theorem r_cmp (hR : mR w0 S V w) (hh : isN h) (hh2 : isN h2) (hv : V h = v) (hv2 : V h2 = v2) : xRun (d + 2) 211 [.ref h, .ref h2] w (.inl (some (.int (Int32.ofInt (ncmp v v2))))) w := by
  subst hv; subst hv2
  obtain ⟨o, w', h1, rfl, h2⟩ := (m_cmp (d := d) (Q := fun o w' => o = .inl (some (.int (Int32.ofInt (ncmp (V h) (V h2))))) ∧ w' = w) hR hh hh2 ⟨rfl, rfl⟩).run
  subst h2; exact h1
theorem r_add (hR : mR w0 S V w) (hh : isN h) (hh2 : isN h2) (hne : h ≠ h2) (hv : V h = v) (hv2 : V h2 = v2) (hc : ncap h = c) (hb : xbl v + 30 ≤ 30 * c) (hb2 : xbl v2 + 30 ≤ 30 * c) : ∃ w', xRun (d + 2) 203 [.ref h, .ref h2] w (.inl none) w' ∧ mR w0 S (uv V h (v + v2)) w' := by
  subst hv; subst hv2; subst hc
  obtain ⟨o, w', h1, rfl, h2⟩ := (m_add (d := d) (Q := fun o w' => o = .inl none ∧ mR w0 S (uv V h (V h + V h2)) w') hR hh hh2 hne hb hb2 (fun w' h => ⟨rfl, h⟩)).run
  exact ⟨w', h1, h2⟩
theorem r_addi (hR : mR w0 S V w) (hh : isN h) (hv : V h = v) (hc : ncap h = c) (k0 : 0 ≤ k) (k1 : k < 1073741824) (hb : xbl v + 30 ≤ 30 * c) : ∃ w', xRun (d + 2) 189 [.ref h, .int (Int32.ofInt k)] w (.inl none) w' ∧ mR w0 S (uv V h (v + k.toNat)) w' := by
  subst hv; subst hc
  obtain ⟨o, w', h1, rfl, h2⟩ := (m_addi (d := d) (Q := fun o w' => o = .inl none ∧ mR w0 S (uv V h (V h + k.toNat)) w') hR hh k0 k1 hb (fun w' h => ⟨rfl, h⟩)).run
  exact ⟨w', h1, h2⟩
theorem r_less (hR : mR w0 S V w) (hh : isN h) (hh2 : isN h2) (hne : h ≠ h2) (hv : V h = v) (hv2 : V h2 = v2) (hle : v2 ≤ v) : ∃ w', xRun (d + 2) 191 [.ref h, .ref h2] w (.inl none) w' ∧ mR w0 S (uv V h (v - v2)) w' := by
  subst hv; subst hv2
  obtain ⟨o, w', h1, rfl, h2⟩ := (m_less (d := d) (Q := fun o w' => o = .inl none ∧ mR w0 S (uv V h (V h - V h2)) w') hR hh hh2 hne hle (fun w' h => ⟨rfl, h⟩)).run
  exact ⟨w', h1, h2⟩
theorem r_times (hR : mR w0 S V w) (hh : isN h) (hv : V h = v) (hc : ncap h = c) (k0 : 1 ≤ k) (k1 : k < 1073741824) (hb : xbl v + 30 ≤ 30 * c) : ∃ w', xRun (d + 2) 209 [.ref h, .int (Int32.ofInt k)] w (.inl none) w' ∧ mR w0 S (uv V h (v * k.toNat)) w' := by
  subst hv; subst hc
  obtain ⟨o, w', h1, rfl, h2⟩ := (m_times (d := d) (Q := fun o w' => o = .inl none ∧ mR w0 S (uv V h (V h * k.toNat)) w') hR hh k0 k1 hb (fun w' h => ⟨rfl, h⟩)).run
  exact ⟨w', h1, h2⟩
theorem r_over (hR : mR w0 S V w) (hh : isN h) (hv : V h = v) (k0 : 1 ≤ k) (k1 : k < 1073741824) : ∃ w', xRun (d + 2) 210 [.ref h, .int (Int32.ofInt k)] w (.inl (some (.int (Int32.ofInt ((v % k.toNat : Nat) : Int))))) w' ∧ mR w0 S (uv V h (v / k.toNat)) w' := by
  subst hv
  obtain ⟨o, w', h1, rfl, h2⟩ := (m_over (d := d) (Q := fun o w' => o = .inl (some (.int (Int32.ofInt ((V h % k.toNat : Nat) : Int)))) ∧ mR w0 S (uv V h (V h / k.toNat)) w') hR hh k0 k1 (fun w' h => ⟨rfl, h⟩)).run
  exact ⟨w', h1, h2⟩
theorem r_prod (hR : mR w0 S V w) (hh : isN h) (hh2 : isN h2) (hh3 : isN h3) (hne : h ≠ h2) (hne3 : h ≠ h3) (hv2 : V h2 = v2) (hv3 : V h3 = v3) (hc : ncap h = c) (hb : xbl v2 + xbl v3 + 58 ≤ 30 * c) : ∃ w', xRun (d + 2) 201 [.ref h, .ref h2, .ref h3] w (.inl none) w' ∧ mR w0 S (uv V h (v2 * v3)) w' := by
  subst hv2; subst hv3; subst hc
  obtain ⟨o, w', h1, rfl, h2⟩ := (m_prod (d := d) (Q := fun o w' => o = .inl none ∧ mR w0 S (uv V h (V h2 * V h3)) w') hR hh hh2 hh3 hne hne3 hb (fun w' h => ⟨rfl, h⟩)).run
  exact ⟨w', h1, h2⟩
theorem r_up (hR : mR w0 S V w) (hh : isN h) (hv : V h = v) (hc : ncap h = c) (k0 : 0 ≤ k) (hb : (xbl v : Int) + k + 59 ≤ 30 * c) : ∃ w', xRun (d + 2) 188 [.ref h, .int (Int32.ofInt k)] w (.inl none) w' ∧ mR w0 S (uv V h (v * 2 ^ k.toNat)) w' := by
  subst hv; subst hc
  have := hh.self
  obtain ⟨o, w', h1, rfl, h2⟩ := (m_up (d := d) (Q := fun o w' => o = .inl none ∧ mR w0 S (uv V h (V h * 2 ^ k.toNat)) w') hR hh k0 (by omega) hb (fun w' h => ⟨rfl, h⟩)).run
  exact ⟨w', h1, h2⟩
theorem r_down (hR : mR w0 S V w) (hh : isN h) (hv : V h = v) (k0 : 0 ≤ k) (k1 : k < 2147483648) : ∃ w', xRun (d + 2) 186 [.ref h, .int (Int32.ofInt k)] w (.inl none) w' ∧ mR w0 S (uv V h (v / 2 ^ k.toNat)) w' := by
  subst hv
  obtain ⟨o, w', h1, rfl, h2⟩ := (m_down (d := d) (Q := fun o w' => o = .inl none ∧ mR w0 S (uv V h (V h / 2 ^ k.toNat)) w') hR hh k0 k1 (fun w' h => ⟨rfl, h⟩)).run
  exact ⟨w', h1, h2⟩
theorem r_one (hR : mR w0 S V w) (hh : isN h) (hc : ncap h = c) (k0 : 0 ≤ k) (hb : k + 30 ≤ 30 * c) : ∃ w', xRun (d + 2) 190 [.ref h, .int (Int32.ofInt k)] w (.inl none) w' ∧ mR w0 S (uv V h (2 ^ k.toNat)) w' := by
  subst hc
  obtain ⟨o, w', h1, rfl, h2⟩ := (m_one (d := d) (Q := fun o w' => o = .inl none ∧ mR w0 S (uv V h (2 ^ k.toNat)) w') hR hh k0 hb (fun w' h => ⟨rfl, h⟩)).run
  exact ⟨w', h1, h2⟩
end
/-- a world of which one keeps what is known -/
theorem xgen {d y pc : Nat} {lv : xLv} {st : List Value} {w : xW} {Q : Option Value ⊕ Nat → xW → Prop} {P : xW → Prop} (hP : P w) (k : ∀ w, P w → xEv d y pc lv st w Q) : xEv d y pc lv st w Q := k w hP
theorem iNw {h : Nat} (h1 : 129 ≤ h) (h2 : h ≤ 151) (h3 : h % 2 = 1) : isN h := Or.inl ⟨h1, h2, h3⟩
theorem iNp {r : Int} (h0 : 0 ≤ r) (h1 : r < 17) : isN (160 + 2 * r.toNat) := Or.inr ⟨by omega, by omega, by omega⟩
theorem cNp {r : Nat} : ncap (160 + 2 * r) = 140 := if_neg (by omega)
theorem ra {s : Nat → Int} {T X : Int} (h0 : 0 ≤ T) (h1 : T < 2147483648) (hx : s T.toNat = X) : mrow s (Int32.ofInt T).toInt.toNat = .int (Int32.ofInt X) := by
  rw [oI (by omega) h1, ← hx]; rfl
theorem ix0 {T : Int} (h0 : 0 ≤ T) (h1 : T < 2147483648) : 0 ≤ (Int32.ofInt T).toInt := by rw [oI (by omega) h1]; exact h0
theorem ix1 {T : Int} {n : Nat} (h0 : 0 ≤ T) (h1 : T < 2147483648) (h2 : T < n) : (Int32.ofInt T).toInt < n := by rw [oI (by omega) h1]; exact h2
theorem ixn {T : Int} (h0 : 0 ≤ T) (h1 : T < 2147483648) : (Int32.ofInt T).toInt.toNat = T.toNat := by rw [oI (by omega) h1]
section
variable {a b : Int} {P : Prop}
theorem b_lt (h0 : -2147483648 ≤ a ∧ a < 2147483648) (h1 : -2147483648 ≤ b ∧ b < 2147483648) (k : a < b → P) : (Int32.ofInt a).toInt < (Int32.ofInt b).toInt → P := by rw [oI h0.1 h0.2, oI h1.1 h1.2]; exact k
theorem b_le (h0 : -2147483648 ≤ a ∧ a < 2147483648) (h1 : -2147483648 ≤ b ∧ b < 2147483648) (k : a ≤ b → P) : (Int32.ofInt a).toInt ≤ (Int32.ofInt b).toInt → P := by rw [oI h0.1 h0.2, oI h1.1 h1.2]; exact k
theorem b_eq (h0 : -2147483648 ≤ a ∧ a < 2147483648) (h1 : -2147483648 ≤ b ∧ b < 2147483648) (k : a = b → P) : (Int32.ofInt a).toInt = (Int32.ofInt b).toInt → P := by rw [oI h0.1 h0.2, oI h1.1 h1.2]; exact k
theorem b_ne (h0 : -2147483648 ≤ a ∧ a < 2147483648) (h1 : -2147483648 ≤ b ∧ b < 2147483648) (k : a ≠ b → P) : (Int32.ofInt a).toInt ≠ (Int32.ofInt b).toInt → P := by rw [oI h0.1 h0.2, oI h1.1 h1.2]; exact k
theorem z_lt (h0 : -2147483648 ≤ a ∧ a < 2147483648) (k : a < 0 → P) : (Int32.ofInt a).toInt < 0 → P := by rw [oI h0.1 h0.2]; exact k
theorem z_le (h0 : -2147483648 ≤ a ∧ a < 2147483648) (k : a ≤ 0 → P) : (Int32.ofInt a).toInt ≤ 0 → P := by rw [oI h0.1 h0.2]; exact k
theorem z_gt (h0 : -2147483648 ≤ a ∧ a < 2147483648) (k : 0 < a → P) : 0 < (Int32.ofInt a).toInt → P := by rw [oI h0.1 h0.2]; exact k
theorem z_ge (h0 : -2147483648 ≤ a ∧ a < 2147483648) (k : 0 ≤ a → P) : 0 ≤ (Int32.ofInt a).toInt → P := by rw [oI h0.1 h0.2]; exact k
theorem z_eq (h0 : -2147483648 ≤ a ∧ a < 2147483648) (k : a = 0 → P) : (Int32.ofInt a).toInt = 0 → P := by rw [oI h0.1 h0.2]; exact k
theorem z_ne (h0 : -2147483648 ≤ a ∧ a < 2147483648) (k : a ≠ 0 → P) : (Int32.ofInt a).toInt ≠ 0 → P := by rw [oI h0.1 h0.2]; exact k
end
/-- constants, and the forms above with them -/
theorem t_const : Int32.ofInt 5 = (5 : Int32) ∧ Int32.ofInt (-1) = (-1 : Int32) := ⟨rfl, rfl⟩
theorem t_addc (a : Int) : Int32.ofInt a + (5 : Int32) = Int32.ofInt (a + 5) := o_add a 5
theorem t_subc (a : Int) : (5 : Int32) - Int32.ofInt a = Int32.ofInt (5 - a) := o_sub 5 a
theorem t_b {a : Int} {P : Prop} (h : a = 7) (k : a < 5 → P) : (Int32.ofInt a).toInt < (5 : Int32).toInt → P := b_lt (b := 5) (by omega) (by omega) k
