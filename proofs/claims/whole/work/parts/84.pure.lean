/-! sizes; the pure run of the law -/
theorem sum_le {f : Nat → Nat} {c : Nat} : ∀ (l : List Nat), (∀ h ∈ l, f h ≤ c) → (l.map f).sum ≤ l.length * c
  | [], _ => Nat.zero_le _
  | a :: l, h => by
    have h1 := h a List.mem_cons_self
    have h2 := sum_le l (fun x hx => h x (List.mem_cons_of_mem _ hx))
    rw [List.map_cons, List.sum_cons, List.length_cons, Nat.add_mul, Nat.one_mul]
    omega
theorem cL_kd : ∀ h ∈ cL, kd h = 3 := by decide +kernel
theorem cX.bd {w0 w : xW} {L Z : Nat} {S : Nat → Nat → Int} {V : Nat → Nat} (hX : cX w0 L Z S V w) : w.length ≤ L + 516 ∧ xsz w ≤ Z + 3440000 := by
  obtain ⟨A, C, B, S0, ⟨r1, r2, r3, r4, r5, r6, r7, r8, r9, r10⟩, hv, hS⟩ := hX
  have b1 := sum_le (f := B) (c := 12) cL (fun h hh => by
    obtain ⟨-, p, q⟩ := r3 h (cL_kd h hh)
    rcases Nat.lt_or_ge 12 (B h) with c | c
    · have e : 2 ^ 13 ≤ 2 ^ B h := Nat.pow_le_pow_right (by decide) c
      omega
    · exact c)
  have b2 := sum_le (f := fun h => 2 * C h) (c := 80000) cL (fun h hh => by
    have := (r3 h (cL_kd h hh)).2.2
    show 2 * C h ≤ 80000
    omega)
  rw [show cL.length = 43 from rfl] at b1 b2
  exact ⟨by omega, by omega⟩
theorem W0_K {L : Nat} {xs : Nat → Int32} : KC (W0 L xs) := ⟨W0_1, W0_2, W0_3, W0_4, rfl, rfl⟩
theorem law_pure (L : Nat) (xs : Nat → Int32) (hL : L ≤ 3072) : ∃ n w, xev 7 n 1000 287 0 [(0, .ref 0)] [] (xscr L xs) = some (.inl (some (.int 1)), w) ∧ w.length ≤ 601024 ∧ xsz w ≤ 7293034 := by
  have h0 : (W0 L xs)[0]? = some (.inl (0, L, fun j => .int (Int32.ofInt (xs j).toInt))) := by
    rw [show (fun j => Value.int (Int32.ofInt (xs j).toInt)) = fun j => Value.int (xs j) from funext (fun j => by rw [Int32.ofInt_toInt])]
    exact W0_0
  have hb : lvB (xst1 [(3, Value.ref 194), (2, Value.ref 128), (1, Value.ref 7), (0, Value.ref 0)] 4 (.int 0)) 0 := ⟨rfl, rfl, rfl, rfl, rfl⟩
  have K := lw_loop (d := 979) (f := fun j => (xs j).toInt) (W0_K (L := L) (xs := xs)) h0 (fun j => i32_b (xs j)) hL 512 0 195 (L + 76984) (W0 L xs) _ (by omega) (by omega) W0_I hb
  obtain ⟨n, o, w, h1, rfl, L', Z', h3, h4, S, V, Sm, Vm, g, hW, -⟩ := law_start (d := 995) (L := L) (xs := xs) (i_287_20 (i_287_21 rfl K))
  obtain ⟨z1, z2⟩ := hW.1.bd
  rw [List.append_nil] at h1
  exact ⟨n, w, h1, by omega, by omega⟩
