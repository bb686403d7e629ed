/-! the objects of the class by kind; kinds of its handles -/
theorem kq_7 : kd 7 = 0 := by decide +kernel
theorem kq_9 : kd 9 = 1 := by decide +kernel
theorem kq_10 : kd 10 = 2 := by decide +kernel
theorem kq_11 : kd 11 = 3 := by decide +kernel
theorem kq_13 : kd 13 = 2 := by decide +kernel
theorem kq_14 : kd 14 = 3 := by decide +kernel
theorem kq_16 : kd 16 = 4 := by decide +kernel
theorem kq_17 : kd 17 = 3 := by decide +kernel
theorem kq_19 : kd 19 = 5 := by decide +kernel
theorem kq_20 : kd 20 = 3 := by decide +kernel
theorem kq_22 : kd 22 = 3 := by decide +kernel
theorem kq_24 : kd 24 = 3 := by decide +kernel
theorem kq_26 : kd 26 = 4 := by decide +kernel
theorem kq_27 : kd 27 = 3 := by decide +kernel
theorem kq_30 : kd 30 = 2 := by decide +kernel
theorem kq_31 : kd 31 = 3 := by decide +kernel
theorem kq_33 : kd 33 = 2 := by decide +kernel
theorem kq_34 : kd 34 = 3 := by decide +kernel
theorem kq_36 : kd 36 = 2 := by decide +kernel
theorem kq_37 : kd 37 = 3 := by decide +kernel
theorem kq_39 : kd 39 = 2 := by decide +kernel
theorem kq_40 : kd 40 = 3 := by decide +kernel
theorem kq_42 : kd 42 = 2 := by decide +kernel
theorem kq_43 : kd 43 = 3 := by decide +kernel
theorem kq_45 : kd 45 = 2 := by decide +kernel
theorem kq_46 : kd 46 = 3 := by decide +kernel
theorem kq_48 : kd 48 = 2 := by decide +kernel
theorem kq_49 : kd 49 = 3 := by decide +kernel
theorem kq_51 : kd 51 = 2 := by decide +kernel
theorem kq_52 : kd 52 = 3 := by decide +kernel
theorem kq_54 : kd 54 = 2 := by decide +kernel
theorem kq_55 : kd 55 = 3 := by decide +kernel
theorem kq_57 : kd 57 = 2 := by decide +kernel
theorem kq_58 : kd 58 = 3 := by decide +kernel
theorem kq_60 : kd 60 = 2 := by decide +kernel
theorem kq_61 : kd 61 = 3 := by decide +kernel
theorem kq_63 : kd 63 = 2 := by decide +kernel
theorem kq_64 : kd 64 = 3 := by decide +kernel
theorem kq_66 : kd 66 = 2 := by decide +kernel
theorem kq_67 : kd 67 = 3 := by decide +kernel
theorem kq_69 : kd 69 = 2 := by decide +kernel
theorem kq_70 : kd 70 = 3 := by decide +kernel
theorem kq_72 : kd 72 = 2 := by decide +kernel
theorem kq_73 : kd 73 = 3 := by decide +kernel
theorem kq_75 : kd 75 = 2 := by decide +kernel
theorem kq_76 : kd 76 = 3 := by decide +kernel
theorem kq_78 : kd 78 = 1 := by decide +kernel
theorem kq_79 : kd 79 = 6 := by decide +kernel
theorem kq_80 : kd 80 = 3 := by decide +kernel
theorem kq_82 : kd 82 = 3 := by decide +kernel
theorem kq_84 : kd 84 = 3 := by decide +kernel
theorem kq_86 : kd 86 = 7 := by decide +kernel
theorem kq_87 : kd 87 = 3 := by decide +kernel
theorem kq_89 : kd 89 = 3 := by decide +kernel
theorem kq_91 : kd 91 = 3 := by decide +kernel
theorem kq_93 : kd 93 = 8 := by decide +kernel
theorem kq_94 : kd 94 = 4 := by decide +kernel
theorem kq_95 : kd 95 = 3 := by decide +kernel
theorem kq_97 : kd 97 = 3 := by decide +kernel
theorem kq_99 : kd 99 = 3 := by decide +kernel
theorem kq_101 : kd 101 = 9 := by decide +kernel
theorem kq_102 : kd 102 = 3 := by decide +kernel
theorem kq_104 : kd 104 = 3 := by decide +kernel
theorem kq_106 : kd 106 = 3 := by decide +kernel
theorem kq_108 : kd 108 = 10 := by decide +kernel
theorem kq_109 : kd 109 = 3 := by decide +kernel
theorem kq_111 : kd 111 = 3 := by decide +kernel
theorem kq_113 : kd 113 = 11 := by decide +kernel
theorem kq_115 : kd 115 = 3 := by decide +kernel
theorem kq_117 : kd 117 = 3 := by decide +kernel
theorem kq_119 : kd 119 = 3 := by decide +kernel
theorem kq_121 : kd 121 = 3 := by decide +kernel
theorem kq_123 : kd 123 = 3 := by decide +kernel
theorem kq_125 : kd 125 = 2 := by decide +kernel
theorem kq_126 : kd 126 = 3 := by decide +kernel
theorem kd_reg {r : Nat} (hr : r < 16) : kd (30 + 3 * r) = 2 := (show ∀ r, r < 16 → kd (30 + 3 * r) = 2 by decide +kernel) r hr
theorem kd_rem {r : Nat} (hr : r < 16) : kd (30 + 3 * r + 1) = 3 := (show ∀ r, r < 16 → kd (30 + 3 * r + 1) = 3 by decide +kernel) r hr
theorem h7k {h k : Nat} (hk : kd h = k) (hK : k < 12) : 7 ≤ h := (kd_o (by omega)).1
section
variable {w0 w : xW} {L Z : Nat} {S : Nat → Nat → Int} {V : Nat → Nat} {d h r : Nat} {v : Int}
theorem cX.k0 (hR : cX w0 L Z S V w) (hk : kd h = 0) : w[h]? = some (.inr (0, f0 (S h))) := by
  have e : cF 0 h (S h) = f0 (S h) := by unfold cF; rw [hk]; rfl
  have h1 := hR.obj (h := h) (by omega) (by omega)
  rw [e, hk] at h1
  exact h1
theorem cX.p0 (hR : cX w0 L Z S V w) (hk : kd h = 0) : cX w0 L Z (u2 S h r v) V (w.set h (.inr (0, f0 (u1 (S h) r v)))) := by
  have e : cF 0 h (u2 S h r v h) = f0 (u1 (S h) r v) := by unfold cF; rw [hk, u2_s]; rfl
  have h1 := hR.fld (h := h) (r := r) (v := v) (by omega) (by omega)
  rw [e, hk] at h1
  exact h1
theorem cX.k1 (hR : cX w0 L Z S V w) (hk : kd h = 1) : w[h]? = some (.inr (1, f1 (S h))) := by
  have e : cF 0 h (S h) = f1 (S h) := by unfold cF; rw [hk]; rfl
  have h1 := hR.obj (h := h) (by omega) (by omega)
  rw [e, hk] at h1
  exact h1
theorem cX.p1 (hR : cX w0 L Z S V w) (hk : kd h = 1) : cX w0 L Z (u2 S h r v) V (w.set h (.inr (1, f1 (u1 (S h) r v)))) := by
  have e : cF 0 h (u2 S h r v h) = f1 (u1 (S h) r v) := by unfold cF; rw [hk, u2_s]; rfl
  have h1 := hR.fld (h := h) (r := r) (v := v) (by omega) (by omega)
  rw [e, hk] at h1
  exact h1
theorem cX.k2 (hR : cX w0 L Z S V w) (hk : kd h = 2) : w[h]? = some (.inr (2, f2 h (S h))) := by
  have e : cF 0 h (S h) = f2 h (S h) := by unfold cF; rw [hk]; rfl
  have h1 := hR.obj (h := h) (by omega) (by omega)
  rw [e, hk] at h1
  exact h1
theorem cX.p2 (hR : cX w0 L Z S V w) (hk : kd h = 2) : cX w0 L Z (u2 S h r v) V (w.set h (.inr (2, f2 h (u1 (S h) r v)))) := by
  have e : cF 0 h (u2 S h r v h) = f2 h (u1 (S h) r v) := by unfold cF; rw [hk, u2_s]; rfl
  have h1 := hR.fld (h := h) (r := r) (v := v) (by omega) (by omega)
  rw [e, hk] at h1
  exact h1
theorem cX.k4 (hR : cX w0 L Z S V w) (hk : kd h = 4) : w[h]? = some (.inr (4, f4 h (S h))) := by
  have e : cF 0 h (S h) = f4 h (S h) := by unfold cF; rw [hk]; rfl
  have h1 := hR.obj (h := h) (by omega) (by omega)
  rw [e, hk] at h1
  exact h1
theorem cX.p4 (hR : cX w0 L Z S V w) (hk : kd h = 4) : cX w0 L Z (u2 S h r v) V (w.set h (.inr (4, f4 h (u1 (S h) r v)))) := by
  have e : cF 0 h (u2 S h r v h) = f4 h (u1 (S h) r v) := by unfold cF; rw [hk, u2_s]; rfl
  have h1 := hR.fld (h := h) (r := r) (v := v) (by omega) (by omega)
  rw [e, hk] at h1
  exact h1
theorem cX.k5 (hR : cX w0 L Z S V w) (hk : kd h = 5) : w[h]? = some (.inr (5, f5 (S h))) := by
  have e : cF 0 h (S h) = f5 (S h) := by unfold cF; rw [hk]; rfl
  have h1 := hR.obj (h := h) (by omega) (by omega)
  rw [e, hk] at h1
  exact h1
theorem cX.p5 (hR : cX w0 L Z S V w) (hk : kd h = 5) : cX w0 L Z (u2 S h r v) V (w.set h (.inr (5, f5 (u1 (S h) r v)))) := by
  have e : cF 0 h (u2 S h r v h) = f5 (u1 (S h) r v) := by unfold cF; rw [hk, u2_s]; rfl
  have h1 := hR.fld (h := h) (r := r) (v := v) (by omega) (by omega)
  rw [e, hk] at h1
  exact h1
theorem cX.k6 (hR : cX w0 L Z S V w) (hk : kd h = 6) : w[h]? = some (.inr (6, f6 (S h))) := by
  have e : cF 0 h (S h) = f6 (S h) := by unfold cF; rw [hk]; rfl
  have h1 := hR.obj (h := h) (by omega) (by omega)
  rw [e, hk] at h1
  exact h1
theorem cX.p6 (hR : cX w0 L Z S V w) (hk : kd h = 6) : cX w0 L Z (u2 S h r v) V (w.set h (.inr (6, f6 (u1 (S h) r v)))) := by
  have e : cF 0 h (u2 S h r v h) = f6 (u1 (S h) r v) := by unfold cF; rw [hk, u2_s]; rfl
  have h1 := hR.fld (h := h) (r := r) (v := v) (by omega) (by omega)
  rw [e, hk] at h1
  exact h1
theorem cX.k7 (hR : cX w0 L Z S V w) (hk : kd h = 7) : w[h]? = some (.inr (7, f7 )) := by
  have e : cF 0 h (S h) = f7  := by unfold cF; rw [hk]; rfl
  have h1 := hR.obj (h := h) (by omega) (by omega)
  rw [e, hk] at h1
  exact h1
theorem cX.k8 (hR : cX w0 L Z S V w) (hk : kd h = 8) : w[h]? = some (.inr (8, f8 )) := by
  have e : cF 0 h (S h) = f8  := by unfold cF; rw [hk]; rfl
  have h1 := hR.obj (h := h) (by omega) (by omega)
  rw [e, hk] at h1
  exact h1
theorem cX.k9 (hR : cX w0 L Z S V w) (hk : kd h = 9) : w[h]? = some (.inr (9, f9 (S h))) := by
  have e : cF 0 h (S h) = f9 (S h) := by unfold cF; rw [hk]; rfl
  have h1 := hR.obj (h := h) (by omega) (by omega)
  rw [e, hk] at h1
  exact h1
theorem cX.p9 (hR : cX w0 L Z S V w) (hk : kd h = 9) : cX w0 L Z (u2 S h r v) V (w.set h (.inr (9, f9 (u1 (S h) r v)))) := by
  have e : cF 0 h (u2 S h r v h) = f9 (u1 (S h) r v) := by unfold cF; rw [hk, u2_s]; rfl
  have h1 := hR.fld (h := h) (r := r) (v := v) (by omega) (by omega)
  rw [e, hk] at h1
  exact h1
theorem cX.k10 (hR : cX w0 L Z S V w) (hk : kd h = 10) : w[h]? = some (.inr (10, f10 (S h))) := by
  have e : cF 0 h (S h) = f10 (S h) := by unfold cF; rw [hk]; rfl
  have h1 := hR.obj (h := h) (by omega) (by omega)
  rw [e, hk] at h1
  exact h1
theorem cX.p10 (hR : cX w0 L Z S V w) (hk : kd h = 10) : cX w0 L Z (u2 S h r v) V (w.set h (.inr (10, f10 (u1 (S h) r v)))) := by
  have e : cF 0 h (u2 S h r v h) = f10 (u1 (S h) r v) := by unfold cF; rw [hk, u2_s]; rfl
  have h1 := hR.fld (h := h) (r := r) (v := v) (by omega) (by omega)
  rw [e, hk] at h1
  exact h1
theorem cX.k11 (hR : cX w0 L Z S V w) (hk : kd h = 11) : w[h]? = some (.inr (11, f11 (S h))) := by
  have e : cF 0 h (S h) = f11 (S h) := by unfold cF; rw [hk]; rfl
  have h1 := hR.obj (h := h) (by omega) (by omega)
  rw [e, hk] at h1
  exact h1
theorem cX.p11 (hR : cX w0 L Z S V w) (hk : kd h = 11) : cX w0 L Z (u2 S h r v) V (w.set h (.inr (11, f11 (u1 (S h) r v)))) := by
  have e : cF 0 h (u2 S h r v h) = f11 (u1 (S h) r v) := by unfold cF; rw [hk, u2_s]; rfl
  have h1 := hR.fld (h := h) (r := r) (v := v) (by omega) (by omega)
  rw [e, hk] at h1
  exact h1
theorem cX.size {u : Nat} (hX : cX w0 L Z S V w) (hc : kd h = 3) (hu : V h = u) : ∃ a, w[h]? = some (.inr (3, [.ref a, .int (Int32.ofInt (((xbl u + 31) / 32 : Nat) : Int))])) ∧ xbl u ≤ 1280000 := by
  obtain ⟨A, C, B, S0, hR, hv, hs⟩ := hX
  obtain ⟨n, n1, n2, n3, n4⟩ := hv h hc
  rw [hu] at n3
  have hcap := hR.cap hc
  have h1 : xbl u ≤ 32 * n := xbl_le (by rw [← n3]; exact cv_lt)
  have h2 : n = (xbl u + 31) / 32 := by rw [← n3]; exact nv_size n4
  refine ⟨A h, ?_, by omega⟩
  rw [← h2]
  exact hR.n3n hc n1
theorem cX.zero (hX : cX w0 L Z S V w) (hc : kd h = 3) : ∃ a v, w[h]? = some (.inr (3, [.ref a, v])) ∧ cX w0 L Z S (uv V h 0) (w.set h (.inr (3, [.ref a, .int 0]))) := by
  obtain ⟨A, C, B, S0, hR, hv, hs⟩ := hX
  refine ⟨A h, _, hR.n3 hc, ?_⟩
  exact cX.close hv hs hc (hR.set1 (v := 0) hc rfl) (fun _ => Nat.le_refl _) (fun b j g1 _ => by rw [u2_n g1]) ⟨0, by rw [u2_s, u1_s]; rfl, Nat.zero_le _, rfl, Or.inl rfl⟩
end
