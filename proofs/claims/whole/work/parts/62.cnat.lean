/-! the class's naturals set anew -/
theorem cL_k : ∀ k, k < 16 → (31 + 3 * k) ∈ cL := by decide +kernel
theorem isC.mem {h : Nat} (hc : isC h) : h ∈ cL := by
  unfold isC at hc
  rcases hc with ⟨h1, h2, h3⟩ | hc
  · have e := cL_k ((h - 31) / 3) (by omega)
    rwa [show 31 + 3 * ((h - 31) / 3) = h by omega] at e
  · rcases hc with e | e | e | e | e | e | e | e | e | e | e | e | e | e | e | e | e | e | e | e | e | e | e | e | e | e | e <;> (rw [e]; decide +kernel)
theorem cL_nodup : cL.Nodup := by decide +kernel
theorem sum_up {f : Nat → Nat} {h v : Nat} : ∀ {l : List Nat}, l.Nodup → h ∈ l → (l.map (uv f h v)).sum + f h = (l.map f).sum + v := by
  intro l
  induction l with
  | nil => intro _ h0; cases h0
  | cons a l ih =>
    intro hn hm
    have hn' := List.nodup_cons.mp hn
    simp only [List.map_cons, List.sum_cons]
    by_cases e : h = a
    · subst e
      have e2 : l.map (uv f h v) = l.map f := List.map_congr_left fun x hx => uv_n (fun e => hn'.1 (e ▸ hx))
      rw [uv_s, e2]
      omega
    · have hm' : h ∈ l := by
        rcases List.mem_cons.mp hm with h1 | h1
        · exact absurd h1 e
        · exact h1
      have := ih hn'.2 hm'
      rw [uv_n (fun e2 => e e2.symm)]
      omega
section
variable {w0 w : xW} {L Z : Nat} {S : Nat → Nat → Int} {V : Nat → Nat} {h : Nat}
/-- cells that hold no natural of the class, nor a row of one -/
theorem cO.keep {w w' : xW} (ho : cO w S) (hk : ∀ k, k < 128 → ¬ isC k → (∀ x, isC x → k ≠ x + 1) → w'[k]? = w[k]?) : cO w' S := by
  have na : ∀ k, (∀ x, isC x → x + 1 ≠ k) ↔ (∀ x, isC x → k ≠ x + 1) := fun k => ⟨fun h x hx e => h x hx e.symm, fun h x hx e => h x hx e.symm⟩
  have hno : ∀ k, (isRng k ∨ isReg k ∨ isReal k ∨ k = 7 ∨ k = 8 ∨ k = 19 ∨ k = 29 ∨ k = 79 ∨ k = 86 ∨ k = 93 ∨ k = 101 ∨ k = 108 ∨ k = 113 ∨ k = 114) → w'[k]? = w[k]? := by
    intro k hk1
    refine hk k ?_ (fun hc => ?_) (fun x hx e => ?_)
    · unfold isRng isReg isReal at hk1; omega
    · obtain ⟨a1, a2, a3, a4⟩ := hc.o
      rcases hk1 with g | g | g | g
      · exact a1 g
      · exact a2 g
      · exact a3 g
      · omega
    · subst e
      obtain ⟨a1, a2, a3, a4⟩ := hx.a
      rcases hk1 with g | g | g | g
      · exact a1 g
      · exact a2 g
      · exact a3 g
      · omega
  obtain ⟨o1, o2, o3, o4, o5, o6, o7, o8, o9, o10, o11, o12, o13, o14⟩ := ho
  refine ⟨fun h hh => (hno h (Or.inl hh)).trans (o1 h hh), fun h hh => (hno h (Or.inr (Or.inl hh))).trans (o2 h hh), fun h hh => (hno h (Or.inr (Or.inr (Or.inl hh)))).trans (o3 h hh), (hno 7 (by simp)).trans o4, (hno 19 (by simp)).trans o5, (hno 79 (by simp)).trans o6, (hno 86 (by simp)).trans o7, (hno 93 (by simp)).trans o8, (hno 101 (by simp)).trans o9, (hno 108 (by simp)).trans o10, (hno 113 (by simp)).trans o11, ?_, (hno 29 (by simp)).trans o13, (hno 114 (by simp)).trans o14⟩
  obtain ⟨gr, g1, g2⟩ := o12
  exact ⟨gr, (hno 8 (by simp)).trans g1, g2⟩
/-- a natural and its row, set anew in place -/
def cput (w : xW) (h a c n : Nat) (g : Nat → Value) : xW := (w.set a (.inl (0, c, g))).set h (.inr (3, [.ref a, .int (Int32.ofNat n)]))
theorem cput_o {h a c n i : Nat} {g : Nat → Value} (h1 : h ≠ i) (h2 : a ≠ i) : (cput w h a c n g)[i]? = w[i]? := xgn h1 (xgn h2 rfl)
theorem cput_h {h a c n : Nat} {g : Nat → Value} {o : xC} (hw : w[h]? = some o) (hne : h ≠ a) : (cput w h a c n g)[h]? = some (.inr (3, [.ref a, .int (Int32.ofNat n)])) := xgs (xgn (fun e => hne e.symm) hw)
theorem cput_a {h a c n : Nat} {g : Nat → Value} {o : xC} (ha : w[a]? = some o) (hne : h ≠ a) : (cput w h a c n g)[a]? = some (.inl (0, c, g)) := xgn hne (xgs ha)
/-- what one has of a natural of the class -/
theorem cR.nat (hR : cR w0 L Z S V w) (hc : isC h) : ∃ a n c g, w[h]? = some (.inr (3, [.ref a, .int (Int32.ofNat n)])) ∧ w[a]? = some (.inl (0, c, g)) ∧ h ≠ a ∧ 7 ≤ h ∧ 7 ≤ a ∧ n ≤ c ∧ 8 ≤ c ∧ c ≤ 40000 ∧ ints g c ∧ cv g n = V h ∧ (n = 0 ∨ cw g (n - 1) ≠ 0) ∧
    (∀ n' g', n' ≤ c → ints g' c → (n' = 0 ∨ cw g' (n' - 1) ≠ 0) → cR w0 L Z S (uv V h (cv g' n')) (cput w h a c n' g')) := by
  obtain ⟨r1, ho, A, C, B, r2, r3, r4, r5, r6⟩ := hR
  obtain ⟨⟨n, g, e1, e2, e3, e4, e5, e6⟩, ea, eb, ec⟩ := r2 h hc
  have hb := hc.b
  have hp := Nat.one_le_two_pow (n := B h)
  have hne : h ≠ A h := by rcases ea with e | e <;> omega
  have h7 : 7 ≤ A h := by rcases ea with e | e <;> omega
  have hk0 : ∀ k, k < 7 ∨ (128 ≤ k ∧ k < 195) → h ≠ k ∧ A h ≠ k := fun k hk => by rcases ea with e | e <;> omega
  refine ⟨A h, n, C h, g, e1, e2, hne, by omega, h7, e3, by omega, ec, e4, e5, e6, fun n' g' h1 h2 h3 => ?_⟩
  refine ⟨fun k hk => (cput_o (hk0 k hk).1 (hk0 k hk).2).trans (r1 k hk), ho.keep (fun k k1 k2 k3 => cput_o (fun e => k2 (e ▸ hc)) (fun e => ?_)), A, C, B, fun k hk => ?_, r3, ?_, ?_, ?_⟩
  · rcases ea with ea | ea
    · exact k3 h hc (by omega)
    · omega
  · obtain ⟨⟨m, f, f1, f2, f3⟩, fa, fb⟩ := r2 k hk
    have hkb := hk.b
    refine ⟨?_, fa, fb⟩
    by_cases e : h = k
    · subst e
      exact ⟨n', g', cput_h e1 hne, cput_a e2 hne, h1, h2, by rw [uv_s], h3⟩
    · have hA : A h ≠ A k := fun e2 => e (r3 h k hc hk e2)
      have hx : A h ≠ k := by
        rcases ea with ea | ea
        · rw [ea]; intro e9; exact hc.a.2.2.2.2.2.2.2.2.2.2.2.2.2.2 (e9 ▸ hk)
        · omega
      have hy : h ≠ A k := by
        rcases fa with fa | fa
        · rw [fa]; intro e9; exact hk.a.2.2.2.2.2.2.2.2.2.2.2.2.2.2 (e9 ▸ hc)
        · omega
      exact ⟨m, f, (cput_o e hx).trans f1, (cput_o hy hA).trans f2, by rw [uv_n (fun e2 => e e2.symm)]; exact f3⟩
  · unfold cput; rw [List.length_set, List.length_set]; exact r4
  · unfold cput; rw [List.length_set, List.length_set]; exact r5
  · unfold cput
    rw [(xsz_set (c := .inr (3, [.ref (A h), .int (Int32.ofNat n)])) (c' := .inr (3, [.ref (A h), .int (Int32.ofNat n')])) rfl (xgn (fun e => hne e.symm) e1)).trans (xsz_set (c := .inl (0, C h, g)) (c' := .inl (0, C h, g')) rfl e2)]
    exact r6
end
