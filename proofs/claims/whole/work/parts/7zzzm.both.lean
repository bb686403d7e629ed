/-! class and reference in one world -/
theorem kd3_lt {h : Nat} (hk : kd h = 3) : h + 1 < 128 := by
  rcases Nat.lt_or_ge h 127 with c | c
  · omega
  · rcases Nat.eq_or_lt_of_le c with e | e
    · subst e
      exact absurd hk (by decide)
    · rw [kd_ge (by omega)] at hk
      omega
theorem kd12_lt {h : Nat} (hk : kd h < 12) : h < 128 := by
  rcases Nat.lt_or_ge h 128 with c | c
  · exact c
  · rw [kd_ge c] at hk
    omega
section
variable {W w0 w w' w1 w2 w4 : xW} {L Z : Nat} {S S' Sm Sm' : Nat → Nat → Int} {V V' Vm Vm' : Nat → Nat} {g g' : Nat → Value} {c : xC}
theorem cX.of (hX : cX w0 L Z S V w) (he : ∀ k, k < 128 ∨ 195 ≤ k → w'[k]? = w[k]?) (hl : w'.length = w.length) (hs : xsz w' = xsz w) : cX w' L Z S V w' := by
  obtain ⟨A, C, B, S0, ⟨r1, r2, r3, r4, r5, r6, r7, r8, r9, r10⟩, hv, hS⟩ := hX
  refine ⟨A, C, B, S0, ⟨fun _ _ => rfl, fun h hk => ?_, fun h hk => ?_, fun h hk => by rw [hl]; exact r4 h hk, r5, ?_, ⟨?_, ?_⟩, by omega, by omega, by omega⟩, hv, hS⟩
  · rw [he h (Or.inl (kd12_lt hk))]; exact r2 h hk
  · have := kd3_lt hk
    have := r4 h hk
    rw [he (A h) (by omega)]; exact r3 h hk
  · rw [he 8 (by omega)]; exact r6
  · rw [he 29 (by omega)]; exact r7.1
  · rw [he 114 (by omega)]; exact r7.2
theorem cX.len (hX : cX w0 L Z S V w) : 195 ≤ w.length := by
  obtain ⟨A, C, B, S0, ⟨r1, r2, r3, r4, r5, r6, r7, r8, r9, r10⟩, hv, hS⟩ := hX
  exact r8
theorem cX.out (hX : cX w0 L Z S V w) {k : Nat} (hk : k < 7 ∨ (128 ≤ k ∧ k < 195)) : w[k]? = w0[k]? := by
  obtain ⟨A, C, B, S0, ⟨r1, r2, r3, r4, r5, r6, r7, r8, r9, r10⟩, hv, hS⟩ := hX
  exact r1 k hk
theorem cX.app (hX : cX w0 L Z S V w) : cX (w ++ [c]) (L + 1) (Z + xcs c) S V (w ++ [c]) := by
  obtain ⟨A, C, B, S0, ⟨r1, r2, r3, r4, r5, r6, r7, r8, r9, r10⟩, hv, hS⟩ := hX
  have lk : ∀ {k : Nat} {x : xC}, w[k]? = some x → (w ++ [c])[k]? = some x := fun {k x} h => by
    rw [List.getElem?_append_left (List.getElem?_eq_some_iff.mp h).1]; exact h
  have e1 : (w ++ [c]).length = w.length + 1 := by rw [List.length_append]; rfl
  refine ⟨A, C, B, S0, ⟨fun _ _ => rfl, fun h hk => lk (r2 h hk), fun h hk => ⟨lk (r3 h hk).1, (r3 h hk).2⟩, fun h hk => ?_, r5, ?_, ⟨lk r7.1, lk r7.2⟩, by omega, by omega, by rw [xsz_push]; omega⟩, hv, hS⟩
  · rw [e1]
    have := r4 h hk
    omega
  · obtain ⟨gr, q1, q2⟩ := r6
    exact ⟨gr, lk q1, q2⟩
theorem cX.mono {L' Z' : Nat} (hX : cX w0 L Z S V w) (hl : L = L') (hz : Z ≤ Z') : cX w0 L' Z' S V w := by
  subst hl
  obtain ⟨A, C, B, S0, ⟨r1, r2, r3, r4, r5, r6, r7, r8, r9, r10⟩, hv, hS⟩ := hX
  exact ⟨A, C, B, S0, ⟨r1, r2, r3, r4, r5, r6, r7, r8, r9, by omega⟩, hv, hS⟩
theorem mR.of (hM : mR w0 Sm Vm w) (he : ∀ k, 128 ≤ k → k < 194 → w'[k]? = w[k]?) : mR w' Sm Vm w' := by
  obtain ⟨⟨l1, l2, l3⟩, c1, c2, c3, c4⟩ := hM
  refine ⟨⟨rfl, rfl, fun _ _ => rfl⟩, by rw [he 128 (by omega) (by omega)]; exact c1, fun a t n h => ?_, ?_, fun h hh => ?_⟩
  · have : 128 ≤ a ∧ a < 194 := by unfold isA at h; omega
    rw [he a this.1 this.2]; exact c2 a t n h
  · rw [he 157 (by omega) (by omega)]; exact c3
  · have : 128 ≤ h ∧ h + 1 < 194 := by unfold isN at hh; omega
    obtain ⟨n, g, e1, e2, e3⟩ := c4 h hh
    exact ⟨n, g, by rw [he h (by omega) (by omega)]; exact e1, by rw [he (h + 1) (by omega) (by omega)]; exact e2, e3⟩
/-- both, the row out, and what never changes -/
def IW (W : xW) (L Z : Nat) (S : Nat → Nat → Int) (V : Nat → Nat) (Sm : Nat → Nat → Int) (Vm : Nat → Nat) (g : Nat → Value) (w : xW) : Prop := cX w L Z S V w ∧ mR w Sm Vm w ∧ w[194]? = some (.inl (3, 1, g)) ∧ ∀ j, j < 7 → w[j]? = W[j]?
theorem IW.cls (h : IW W L Z S V Sm Vm g w) (hX : cX w L Z S' V' w2) : IW W L Z S' V' Sm Vm g w2 := by
  obtain ⟨h1, h2, h3, h4⟩ := h
  refine ⟨hX.of (fun _ _ => rfl) rfl rfl, h2.of (fun k a b => hX.out (by omega)), ?_, fun j hj => (hX.out (by omega)).trans (h4 j hj)⟩
  rw [hX.out (by omega)]; exact h3
theorem IW.put (h : IW W L Z S V Sm Vm g w) (g' : Nat → Value) : IW W L Z S V Sm Vm g' (w.set 194 (.inl (3, 1, g'))) := by
  obtain ⟨h1, h2, h3, h4⟩ := h
  have hl := h1.len
  have hn : ∀ k, k ≠ 194 → (w.set 194 (.inl (3, 1, g')))[k]? = w[k]? := fun k hk => List.getElem?_set_ne (Ne.symm hk)
  refine ⟨h1.of (fun k hk => hn k (by omega)) (List.length_set ..) (xsz_set (c := .inl (3, 1, g)) (c' := .inl (3, 1, g')) rfl h3), h2.of (fun k a b => hn k (by omega)), ?_, fun j hj => (hn j (by omega)).trans (h4 j hj)⟩
  rw [List.getElem?_set_self (by omega)]
theorem IW.clsT (h : IW W L Z S V Sm Vm g w) (hX : cX w L Z S' V' w1) : IW W (L + 1) (Z + xcs c) S' V' Sm Vm g (w1 ++ [c]) := by
  obtain ⟨h1, h2, h3, h4⟩ := h.cls hX
  have hl := h1.len
  have lk : ∀ k, k < 195 → (w1 ++ [c])[k]? = w1[k]? := fun k hk => List.getElem?_append_left (by omega)
  refine ⟨h1.app, h2.of (fun k a b => lk k (by omega)), (lk 194 (by omega)).trans h3, fun j hj => (lk j (by omega)).trans (h4 j hj)⟩
theorem IW.ref (h : IW W L Z S V Sm Vm g w) (hM : mR w Sm' Vm' w4) : IW W L Z S V Sm' Vm' g w4 := by
  obtain ⟨h1, h2, h3, h4⟩ := h
  obtain ⟨l1, l2, l3⟩ := hM.1
  refine ⟨h1.of (fun k hk => l3 k (by omega)) l1 l2, hM.of (fun _ _ _ => rfl), (l3 194 (by omega)).trans h3, fun j hj => (l3 j (by omega)).trans (h4 j hj)⟩
theorem IW.refT (h : IW W L Z S V Sm Vm g w) (hM : mR (w ++ [c]) Sm' Vm' w4) : IW W (L + 1) (Z + xcs c) S V Sm' Vm' g w4 := by
  obtain ⟨h1, h2, h3, h4⟩ := h
  have hl := h1.len
  have lk : ∀ k, k < 195 → (w ++ [c])[k]? = w[k]? := fun k hk => List.getElem?_append_left (by omega)
  obtain ⟨l1, l2, l3⟩ := hM.1
  refine ⟨(h1.app (c := c)).of (fun k hk => l3 k (by omega)) l1 l2, hM.of (fun _ _ _ => rfl), ((l3 194 (by omega)).trans (lk 194 (by omega))).trans h3, fun j hj => ((l3 j (by omega)).trans (lk j (by omega))).trans (h4 j hj)⟩
/-- what stands at the head of the law's loop; k: what the reference has thrown, v: the last answer -/
def IV (W : xW) (L Z : Nat) (k : Int) (v : Int64) (w : xW) : Prop := ∃ S V Sm Vm g, IW W L Z S V Sm Vm g w ∧ cI S V ∧ mI Sm Vm ∧ cJ S ∧ eqA S V Sm Vm ∧ Sm 128 31 = k ∧ (k = 0 → g 0 = .long v)
theorem n31 {k : Int} {a j : Nat} (h : ¬ (a = 128 ∧ j = 31)) : u2 Sm 128 31 k a j = Sm a j := by rw [u2_e, if_neg h]
theorem mI_31 {k : Int} (h : mI Sm Vm) : mI (u2 Sm 128 31 k) Vm := by
  obtain ⟨i1, i2, i3, i4⟩ := h
  refine ⟨fun r hr => ?_, ?_, ?_, ?_⟩
  · rw [n31 (by omega), n31 (by omega), n31 (by omega), n31 (by omega)]; exact i1 r hr
  · rw [n31 (by omega), n31 (by omega)]; exact i2
  · rw [n31 (by omega)]; exact i3
  · rw [n31 (by omega)]; exact i4
theorem eqA_31 {k : Int} (h : eqA S V Sm Vm) : eqA S V (u2 Sm 128 31 k) Vm := by
  obtain ⟨e1, ⟨e2, e3, e4, e5⟩, ⟨e6, e7⟩, e8, e9⟩ := h
  refine ⟨fun q hq => ?_, ⟨?_, ?_, ?_, ?_⟩, ⟨?_, fun j => ?_⟩, ?_, fun j hj => ?_⟩
  · unfold eqR
    rw [n31 (by omega), n31 (by omega), n31 (by omega), n31 (by omega)]; exact e1 q hq
  · rw [n31 (by omega)]; exact e2
  · rw [n31 (by omega)]; exact e3
  · rw [n31 (by omega)]; exact e4
  · rw [n31 (by omega)]; exact e5
  · rw [n31 (by omega)]; exact e6
  · rw [n31 (by omega)]; exact e7 j
  · rw [n31 (by omega)]; exact e8
  · rw [n31 (by omega)]; exact e9 j hj
/-- a good call with an outcome -/
theorem IV.op {r : Nat} {o : OO} {v : Int64} (h : IW W L Z S' V' Sm' Vm' g w) (hI : cI S V) (hM : mI Sm Vm) (hJ : cJ S) (hE : eqA S V Sm Vm) (hr : r < 16) (hC : cOut S S' V V' (30 + 3 * r) o) (hP : oP (u2 Sm 128 31 0) Sm' Vm Vm' r o) (ho : okOO (S (30 + 3 * r) 0) o) (hg : g 0 = .long v) : IV W L Z 0 v w := by
  have ho' : okOO (u2 Sm 128 31 0 153 r) o := by
    rw [n31 (by omega), (hE.1 r hr).1]
    exact ho
  refine ⟨S', V', Sm', Vm', g, h, cI_cOut hI hr hC ho, mI_oP (mI_31 hM) hr hP ho', cJ_out hJ hr hC ho, eqA_out (eqA_31 hE) hr hC hP, ?_, fun _ => hg⟩
  rw [hP.2.2.2.2.2.2.1 31 (by decide) (by omega), u2_e, if_pos ⟨rfl, rfl⟩]
/-- nothing but scratch has changed, the reference has thrown k -/
theorem IV.thr {k : Int} {v : Int64} (h : IW W L Z S V (u2 Sm 128 31 k) Vm g w) (hI : cI S V) (hM : mI Sm Vm) (hJ : cJ S) (hE : eqA S V Sm Vm) (hk : k ≠ 0) : IV W L Z k v w :=
  ⟨S, V, u2 Sm 128 31 k, Vm, g, h, hI, mI_31 hM, hJ, eqA_31 hE, by rw [u2_e, if_pos ⟨rfl, rfl⟩], fun c => absurd c hk⟩
/-- between the class's call and the reference's: the script and the reference stand -/
def K3 (W w : xW) : Prop := (∀ j, j < 7 → w[j]? = W[j]?) ∧ ∃ fs, w[128]? = some (.inr (12, fs))
theorem IW.k3 (h : IW W L Z S V Sm Vm g w) : K3 W w := ⟨h.2.2.2, _, h.2.1.2.1⟩
/-- one call of both -/
def SP (W : xW) (L Z d y z : Nat) (ca ra : List Value) (w : xW) : Prop := ∃ k w3, xRun d y ca w (.inl (some (.int (Int32.ofInt k)))) w3 ∧ (-2147483648 ≤ k ∧ k < 2147483648) ∧ ∃ v w4, xRun d z ra w3 (.inl (some (.int v))) w4 ∧ K3 W w3 ∧ ∃ L' Z', L' ≤ L + 2 ∧ Z' ≤ Z + 12 ∧ IV W L' Z' k v.toInt64 w4
end
