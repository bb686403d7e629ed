/-! the class's objects and bytes, by value -/
section
variable {w0 w : xW} {L Z : Nat} {S : Nat → Nat → Int} {V : Nat → Nat} {h k r d : Nat} {v : Int}
theorem cX.obj (hX : cX w0 L Z S V w) (hk : kd h < 12) (h3 : kd h ≠ 3) : w[h]? = some (.inr (kd h, cF 0 h (S h))) := by
  obtain ⟨A, C, B, S0, hR, hv, hs⟩ := hX
  have := hR.2.1 h hk
  rw [cF_a (a' := 0) h3, hs h (Or.inl ⟨hk, h3⟩)] at this
  exact this
theorem cX.nat (hX : cX w0 L Z S V w) (hc : kd h = 3) : ∃ fs, w[h]? = some (.inr (3, fs)) := by
  obtain ⟨A, C, B, S0, hR, hv, hs⟩ := hX
  exact ⟨_, hR.n3 hc⟩
theorem cX.fld (hX : cX w0 L Z S V w) (hk : kd h < 12) (h3 : kd h ≠ 3) : cX w0 L Z (u2 S h r v) V (w.set h (.inr (kd h, cF 0 h (u2 S h r v h)))) := by
  obtain ⟨A, C, B, S0, hR, hv, hs⟩ := hX
  have e : u2 S0 h r v h = u2 S h r v h := by rw [u2_s, u2_s, hs h (Or.inl ⟨hk, h3⟩)]
  have hR' := hR.fld (r := r) (v := v) hk
  rw [cF_a (a' := 0) h3, e] at hR'
  refine ⟨A, C, B, _, hR', fun k hk' => ?_, fun b hb => ?_⟩
  · have a1 : k ≠ h := fun g => h3 (g ▸ hk')
    have h4 := kd_c hk'
    have a2 : k + 1 ≠ h := fun g => by rw [g] at h4; omega
    obtain ⟨n, n1, n2, n3, n4⟩ := hv k hk'
    exact ⟨n, by rw [u2_n a1]; exact n1, n2, by rw [u2_n a2]; exact n3, by rw [u2_n a2]; exact n4⟩
  · by_cases g : b = h
    · subst g; exact e
    · rw [u2_n g, u2_n g]; exact hs b hb
theorem cX.bytes {a n : Nat} (hX : cX w0 L Z S V w) (ha : (a = 29 ∧ n = 4096) ∨ (a = 114 ∧ n = 4112)) : w[a]? = some (.inl (1, n, mrow (S a))) := by
  obtain ⟨A, C, B, S0, hR, hv, hs⟩ := hX
  have h7 := hR.2.2.2.2.2.2.1
  rcases ha with ⟨rfl, rfl⟩ | ⟨rfl, rfl⟩
  · rw [← hs 29 (Or.inr (Or.inl rfl))]; exact h7.1
  · rw [← hs 114 (Or.inr (Or.inr rfl))]; exact h7.2
theorem cX.byte {a n : Nat} {z : Int32} (hX : cX w0 L Z S V w) (ha : (a = 29 ∧ n = 4096) ∨ (a = 114 ∧ n = 4112)) (hz : Int32.ofInt v = z) : cX w0 L Z (u2 S a r v) V (w.set a (.inl (1, n, xup (mrow (S a)) r (.int z)))) := by
  obtain ⟨A, C, B, S0, hR, hv, hs⟩ := hX
  have e : S0 a = S a := hs a (by omega)
  have hR' := hR.byte (r := r) (v := v) ha hz
  rw [e] at hR'
  refine ⟨A, C, B, _, hR', fun k hk' => ?_, fun b hb => ?_⟩
  · have h4 := kd_c hk'
    have h5 := kd_o (show kd k < 12 by omega)
    obtain ⟨n, n1, n2, n3, n4⟩ := hv k hk'
    exact ⟨n, by rw [u2_n (by omega)]; exact n1, n2, by rw [u2_n (by omega)]; exact n3, by rw [u2_n (by omega)]; exact n4⟩
  · by_cases g : b = a
    · subst g; rw [u2_s, u2_s, e]
    · rw [u2_n g, u2_n g]; exact hs b hb
theorem cX.regs (hX : cX w0 L Z S V w) : ∃ gr, w[8]? = some (.inl (4, 16, gr)) ∧ ∀ j, j < 16 → gr j = .ref (30 + 3 * j) := by
  obtain ⟨A, C, B, S0, hR, hv, hs⟩ := hX
  exact hR.2.2.2.2.2.1
end
