/-! subtract by value -/
section
variable {w0 w : xW} {L Z : Nat} {A C B : Nat → Nat} {S S0 : Nat → Nat → Int} {V : Nat → Nat} {h h2 k r d : Nat} {v : Int}
/-- the end of many methods: trim, and the value -/
theorem X_trim {C0 : Nat → Nat} {S1 : Nat → Nat → Int} {n u : Nat} (hv : ∀ h, kd h = 3 → nv C0 S0 h (V h)) (hs : ∀ b, (kd b < 12 ∧ kd b ≠ 3) ∨ b = 29 ∨ b = 114 → S0 b = S b) (hc : kd h = 3) (hR : cR w0 L Z A C B S1 w) (hC : ∀ k, C0 k ≤ C k) (hS : ∀ b j, b ≠ h → b ≠ h + 1 → S1 b j = S0 b j) (hn : S1 h 1 = n) (hnC : n ≤ C h) (hu : cv (S1 (h + 1)) n = u) :
    ∃ w', xRun d 26 [.ref h] w (.inl none) w' ∧ cX w0 L Z S (uv V h u) w' := by
  obtain ⟨w', n', r1, hR', q1, q2, q3⟩ := c_trim (d := d) hR hc hn hnC
  refine ⟨w', r1, cX.close hv hs hc hR' hC (fun b j g1 g2 => by rw [u2_n g1]; exact hS b j g1 g2) ⟨n', by rw [u2_s, u1_s], by omega, ?_, ?_⟩⟩
  · rw [u2_n (by omega), q2, hu]
  · rw [u2_n (by omega)]; exact q3
theorem X_sub {u u2 : Nat} (hX : cX w0 L Z S V w) (hc : kd h = 3) (hc2 : kd h2 = 3) (hne : h ≠ h2) (hu : V h = u) (hu2 : V h2 = u2) (hle : u2 ≤ u) : ∃ w', xRun (d + 1) 67 [.ref h, .ref h2] w (.inl none) w' ∧ cX w0 L Z S (uv V h (u - u2)) w' := by
  obtain ⟨A, C, B, S0, hR, hv, hs⟩ := hX
  obtain ⟨n, n1, n2, n3, n4⟩ := hv h hc
  obtain ⟨m, m1, m2, m3, m4⟩ := hv h2 hc2
  rw [hu] at n3
  rw [hu2] at m3
  have hmn : m ≤ n := by
    rcases Nat.lt_or_ge n m with g | g
    · have := cv_short (s := S0 (h + 1)) g m4
      omega
    · exact g
  obtain ⟨o, ho⟩ : ∃ o : Nat → Int, o = fun j => if j < m then S0 (h2 + 1) j else 0 := ⟨_, rfl⟩
  have o1 : ∀ j, j < m → o j = S0 (h2 + 1) j := fun j hj => by rw [ho]; exact if_pos hj
  have o2 : ∀ j, m ≤ j → o j = 0 := fun j hj => by rw [ho]; exact if_neg (by omega)
  have o3 : cv o n = u2 := by
    rw [cv_zero hmn (fun i g1 g2 => by unfold cw; rw [o2 i g1]; rfl), cv_same o1, m3]
  have key : xEv (d + 1) 67 0 (lv_args 0 [.ref h, .ref h2]) [] w (fun o w' => o = .inl none ∧ cX w0 L Z S (uv V h (u - u2)) w') := by
    refine i_67_0 ?_
    refine i_67_1 rfl ?_
    refine i_67_2 ?_
    refine i_67_3 rfl ?_
    refine sub_loop hc hc2 hne (s0 := S0 (h + 1)) (o := o) n2 m2 o2 n (i := 0) (y := 0) hR n1 m1 (fun j hj => (o1 j hj).symm) (fun _ _ => rfl) (Or.inl rfl) (by omega) (by show (0 : Int) - 0 = 0 + 0 * _; omega) rfl rfl rfl rfl (fun lv' y' w' S' q1 q2 q3 q4 q5 l0 => ?_)
    rw [n3, o3] at q5
    have hlt : cv (S' (h + 1)) n < 2 ^ (32 * n) := cv_lt
    have hu' : cv (S' (h + 1)) n = u - u2 := by
      generalize 2 ^ (32 * n) = P at hlt q5
      rcases q4 with g | g
      · subst g; omega
      · subst g; omega
    obtain ⟨w2, r1, hX2⟩ := X_trim (d := d) hv hs hc q1 (fun _ => Nat.le_refl _) (fun b j g1 g2 => q3 b j g2) q2 n2 hu'
    refine i_67_79 l0 ?_
    refine i_67_80 (q1.n3 hc) (Nat.le_of_ble_eq_true rfl) r1 ?_
    exact i_67_83 ⟨rfl, hX2⟩
  obtain ⟨o, w', h1, rfl, h2⟩ := key.run
  exact ⟨w', h1, h2⟩
end
