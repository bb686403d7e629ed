/-! the class's naturals by their values -/
def nv (C : Nat → Nat) (S : Nat → Nat → Int) (h v : Nat) : Prop := ∃ n : Nat, S h 1 = n ∧ n ≤ C h ∧ cv (S (h + 1)) n = v ∧ (n = 0 ∨ cw (S (h + 1)) (n - 1) ≠ 0)
/-- the class's world: S the fields of its objects but the naturals, and its rows of bytes; V the values of its naturals by handle -/
def cX (w0 : xW) (L Z : Nat) (S : Nat → Nat → Int) (V : Nat → Nat) (w : xW) : Prop := ∃ A C B S0, cR w0 L Z A C B S0 w ∧ (∀ h, kd h = 3 → nv C S0 h (V h)) ∧ ∀ b, (kd b < 12 ∧ kd b ≠ 3) ∨ b = 29 ∨ b = 114 → S0 b = S b
section
variable {w0 w : xW} {L Z : Nat} {A C B : Nat → Nat} {S S0 : Nat → Nat → Int} {V : Nat → Nat} {h k r d : Nat} {v : Int}
/-- a natural alone has changed -/
theorem cX.close {A' C' B' : Nat → Nat} {S' : Nat → Nat → Int} {w' : xW} {u : Nat} (hv : ∀ h, kd h = 3 → nv C S0 h (V h)) (hs : ∀ b, (kd b < 12 ∧ kd b ≠ 3) ∨ b = 29 ∨ b = 114 → S0 b = S b) (hc : kd h = 3)
    (hR' : cR w0 L Z A' C' B' S' w') (hC : ∀ k, C k ≤ C' k) (hS : ∀ b j, b ≠ h → b ≠ h + 1 → S' b j = S0 b j) (hu : nv C' S' h u) : cX w0 L Z S (uv V h u) w' := by
  have h1 := kd_c hc
  have h2 := kd_o (show kd h < 12 by omega)
  refine ⟨A', C', B', S', hR', fun k hk => ?_, fun b hb => ?_⟩
  · by_cases e : k = h
    · subst e; rw [uv_s]; exact hu
    · rw [uv_n e]
      obtain ⟨n, n1, n2, n3, n4⟩ := hv k hk
      have h3 := kd_c hk
      have a1 : k ≠ h + 1 := fun g => by rw [← g] at h1; omega
      have a2 : k + 1 ≠ h := fun g => by rw [g] at h3; omega
      have e1 : S' k = S0 k := funext fun j => hS k j e a1
      have e2 : S' (k + 1) = S0 (k + 1) := funext fun j => hS (k + 1) j a2 (by omega)
      exact ⟨n, by rw [e1]; exact n1, Nat.le_trans n2 (hC k), by rw [e2]; exact n3, by rw [e2]; exact n4⟩
  · rw [← hs b hb]
    have a1 : b ≠ h := by
      intro g
      rw [g] at hb
      omega
    have a2 : b ≠ h + 1 := by
      intro g
      rw [g] at hb
      omega
    exact funext fun j => hS b j a1 a2
/-- nothing has changed but words of no meaning -/
theorem cX.same (hv : ∀ h, kd h = 3 → nv C S0 h (V h)) (hs : ∀ b, (kd b < 12 ∧ kd b ≠ 3) ∨ b = 29 ∨ b = 114 → S0 b = S b) (hR : cR w0 L Z A C B S0 w) : cX w0 L Z S V w := ⟨A, C, B, S0, hR, hv, hs⟩
/-- bits, by value -/
theorem X_bits {u : Nat} (hX : cX w0 L Z S V w) (hc : kd h = 3) (hu : V h = u) : xRun (d + 1) 29 [.ref h] w (.inl (some (.int (Int32.ofInt (xbl u : Nat))))) w := by
  obtain ⟨A, C, B, S0, hR, hv, hs⟩ := hX
  obtain ⟨n, n1, n2, n3, n4⟩ := hv h hc
  have := c_bits (d := d) hR hc n1 n2 n4
  rw [n3, hu] at this
  exact this
/-- the number of words of a value -/
theorem nv_size {n : Nat} {s : Nat → Int} (ht : n = 0 ∨ cw s (n - 1) ≠ 0) : n = (xbl (cv s n) + 31) / 32 := by
  rcases Nat.eq_zero_or_pos n with e | e
  · subst e
    show 0 = (xbl 0 + 31) / 32
    rw [xbl_zero]
  · obtain ⟨m, rfl⟩ : ∃ m, n = m + 1 := ⟨n - 1, by omega⟩
    have hz : cw s m ≠ 0 := by
      rcases ht with g | g
      · omega
      · exact g
    rw [cv_bl hz]
    have h1 : xbl (cw s m) ≤ 32 := xbl_le cw_lt
    have h2 := (xbl_of hz).2.2
    omega
/-- setLong, by value -/
theorem X_setl {x : Int64} (hX : cX w0 L Z S V w) (hc : kd h = 3) : ∃ w', xRun (d + 1) 25 [.ref h, .long x] w (.inl none) w' ∧ cX w0 L Z S (uv V h (xul x)) w' := by
  obtain ⟨A, C, B, S0, hR, hv, hs⟩ := hX
  have hcap := hR.cap hc
  have ha7 := (hR.apart hc).2.2.2.2.1
  have h7 := (kd_o (show kd h < 12 by omega)).1
  have key : xEv (d + 1) 25 0 (lv_args 0 [.ref h, .long x]) [] w (fun o w' => o = .inl none ∧ cX w0 L Z S (uv V h (xul x)) w') := by
    refine i_25_0 (x := h) rfl ?_
    refine i_25_1 (v := Value.ref (A h)) (hR.n3 hc) rfl ?_
    refine i_25_4 ?_
    refine i_25_5 (x := x) rfl ?_
    refine i_25_6 (c := Int32.ofInt (xlo x).toInt) (Int32.ofInt_toInt (xlo x)).symm ?_
    refine i_25_7 (hR.w3 hc) (by decide) (by show (0 : Int) < C h; omega) ha7 rfl ?_
    rw [show (0 : Int32).toInt.toNat = 0 from rfl]
    refine xgen (P := cR w0 L Z A C B (u2 S0 (h + 1) 0 (xlo x).toInt)) (hR.arr hc rfl) (fun w hR => ?_)
    refine i_25_8 (x := h) rfl ?_
    refine i_25_9 (v := Value.ref (A h)) (hR.n3 hc) rfl ?_
    refine i_25_12 ?_
    refine i_25_13 (x := x) rfl ?_
    refine i_25_14 ?_
    refine i_25_16 rfl ?_
    refine i_25_17 (c := Int32.ofInt (xhi x).toInt) (Int32.ofInt_toInt (xhi x)).symm ?_
    refine i_25_18 (hR.w3 hc) (by decide) (by show (1 : Int) < C h; omega) ha7 rfl ?_
    rw [show (1 : Int32).toInt.toNat = 1 from rfl]
    refine xgen (P := cR w0 L Z A C B (u2 (u2 S0 (h + 1) 0 (xlo x).toInt) (h + 1) 1 (xhi x).toInt)) (hR.arr hc rfl) (fun w hR => ?_)
    refine i_25_19 (x := h) rfl ?_
    refine i_25_20 ?_
    refine i_25_21 (fs2 := [Value.ref (A h), Value.int (Int32.ofInt 2)]) (hR.n3 hc) (Nat.le_of_ble_eq_true rfl) rfl h7 ?_
    refine xgen (P := cR w0 L Z A C B (u2 (u2 (u2 S0 (h + 1) 0 (xlo x).toInt) (h + 1) 1 (xhi x).toInt) h 1 2)) (hR.set1 (v := 2) hc rfl) (fun w hR => ?_)
    refine i_25_24 (x := h) rfl ?_
    generalize e3 : u2 (u2 (u2 S0 (h + 1) 0 (xlo x).toInt) (h + 1) 1 (xhi x).toInt) h 1 2 = S3 at hR
    have es : ∀ b j, S3 b j = if b = h ∧ j = 1 then 2 else if b = h + 1 ∧ j = 1 then (xhi x).toInt else if b = h + 1 ∧ j = 0 then (xlo x).toInt else S0 b j := fun b j => by rw [← e3, u2_eq, u2_eq, u2_eq]
    obtain ⟨w', n', r1, hR', q1, q2, q3⟩ := c_trim (d := d) (n := 2) hR hc (by rw [es, if_pos ⟨rfl, rfl⟩]; rfl) (by omega)
    refine i_25_25 (hR.n3 hc) (Nat.le_of_ble_eq_true rfl) r1 ?_
    refine i_25_28 ⟨rfl, cX.close hv hs hc hR' (fun k => Nat.le_refl _) (fun b j h1 h2 => ?_) ⟨n', by rw [u2_s, u1_s], by omega, ?_, ?_⟩⟩
    · rw [u2_eq, if_neg (by omega), es, if_neg (by omega), if_neg (by omega), if_neg (by omega)]
    · rw [u2_n (by omega), q2]
      have a0 : cw (S3 (h + 1)) 0 = xun (xlo x) := by rw [← cw_un, es, if_neg (by omega), if_neg (by omega), if_pos ⟨rfl, rfl⟩, Int32.ofInt_toInt]
      have a1 : cw (S3 (h + 1)) 1 = xun (xhi x) := by rw [← cw_un, es, if_neg (by omega), if_pos ⟨rfl, rfl⟩, Int32.ofInt_toInt]
      show 0 + cw (S3 (h + 1)) 0 * 2 ^ (32 * 0) + cw (S3 (h + 1)) 1 * 2 ^ (32 * 1) = _
      rw [a0, a1, xlo_n, xhi_n]
      omega
    · rw [u2_n (by omega)]; exact q3
  obtain ⟨o, w', h1, rfl, h2⟩ := key.run
  exact ⟨w', h1, h2⟩
end
