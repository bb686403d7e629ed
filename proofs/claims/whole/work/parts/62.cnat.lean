/-! the class's cells set anew -/
theorem sum_up {f : Nat → Nat} {h v : Nat} : ∀ {l : List Nat}, l.Nodup → h ∈ l → (l.map (uv f h v)).sum + f h = (l.map f).sum + v := by
  intro l
  induction l with
  | nil => intro _ h0; cases h0
  | cons a l ih =>
    intro hn hm
    have hn' := List.nodup_cons.mp hn
    simp only [List.map_cons, List.sum_cons]
    by_cases e : h = a
    · subst e
      have e2 : l.map (uv f h v) = l.map f := List.map_congr_left fun x hx => uv_n (fun e => hn'.1 (e ▸ hx))
      rw [uv_s, e2]
      omega
    · have hm' : h ∈ l := by
        rcases List.mem_cons.mp hm with h1 | h1
        · exact absurd h1 e
        · exact h1
      have := ih hn'.2 hm'
      rw [uv_n (fun e2 => e e2.symm)]
      omega
section
variable {w0 w : xW} {L Z : Nat} {A C B : Nat → Nat} {S : Nat → Nat → Int} {h k r : Nat} {v : Int}
/-- where a natural's row does not lie -/
theorem cR.apart (hR : cR w0 L Z A C B S w) (hc : kd h = 3) : (∀ k, kd k < 12 → A h ≠ k) ∧ A h ≠ 8 ∧ A h ≠ 29 ∧ A h ≠ 114 ∧ 7 ≤ A h ∧ (∀ k, k < 7 ∨ (128 ≤ k ∧ k < 195) → A h ≠ k) := by
  have ha := hR.2.2.2.1 h hc
  have h1 := kd_c hc
  have h2 := kd_o (show kd h < 12 by omega)
  refine ⟨fun k hk e => ?_, ?_, ?_, ?_, ?_, fun k hk => ?_⟩
  · have h3 := kd_o hk
    rcases ha with ha | ha
    · rw [← e, ha] at hk; omega
    · omega
  all_goals rcases ha with ha | ha <;> omega
/-- a field of an object -/
theorem cR.fld (hR : cR w0 L Z A C B S w) (hk : kd h < 12) : cR w0 L Z A C B (u2 S h r v) (w.set h (.inr (kd h, cF (A h) h (u2 S h r v h)))) := by
  have hR' := hR
  obtain ⟨r1, r2, r3, r4, r5, r6, r7, r8, r9, r10⟩ := hR
  have ho := kd_o hk
  refine ⟨fun k hk' => xgn (by omega) (r1 k hk'), fun k hk' => ?_, fun k hk' => ?_, fun k hk' => by rw [List.length_set]; exact r4 k hk', r5, ?_, ?_, by rw [List.length_set]; exact r8, by rw [List.length_set]; exact r9, ?_⟩
  · by_cases e : h = k
    · subst e; exact xgs (r2 h hk)
    · rw [u2_n (fun e2 => e e2.symm)]; exact xgn e (r2 k hk')
  · have h3 := (hR'.apart hk').1 h hk
    have h4 := kd_c hk'
    have h5 : k + 1 ≠ h := fun e => by rw [e] at h4; omega
    rw [u2_n h5]
    exact ⟨xgn (fun e => h3 e.symm) (r3 k hk').1, (r3 k hk').2⟩
  · obtain ⟨gr, g1, g2⟩ := r6
    exact ⟨gr, xgn ho.2.1 g1, g2⟩
  · rw [u2_n (fun e => ho.2.2.1 e.symm), u2_n (fun e => ho.2.2.2.1 e.symm)]
    exact ⟨xgn ho.2.2.1 r7.1, xgn ho.2.2.2.1 r7.2⟩
  · exact Nat.le_trans (Nat.le_of_eq (xsz_set (c := .inr (kd h, cF (A h) h (S h))) (c' := .inr (kd h, cF (A h) h (u2 S h r v h))) rfl (r2 h hk))) r10
/-- the words of a natural, all of them -/
theorem cR.row {s : Nat → Int} (hR : cR w0 L Z A C B S w) (hc : kd h = 3) : cR w0 L Z A C B (fun b => bif Nat.beq b (h + 1) then s else S b) (w.set (A h) (.inl (0, C h, mrow s))) := by
  have hR' := hR
  obtain ⟨r1, r2, r3, r4, r5, r6, r7, r8, r9, r10⟩ := hR
  have ha := hR'.apart hc
  have h4 := kd_c hc
  have es : ∀ b, b ≠ h + 1 → (fun b => bif Nat.beq b (h + 1) then s else S b) b = S b := fun b hb => by show (bif Nat.beq b (h + 1) then s else S b) = S b; rw [beq_ne hb]; rfl
  refine ⟨fun k hk' => xgn (ha.2.2.2.2.2 k hk') (r1 k hk'), fun k hk' => ?_, fun k hk' => ?_, fun k hk' => by rw [List.length_set]; exact r4 k hk', r5, ?_, ?_, by rw [List.length_set]; exact r8, by rw [List.length_set]; exact r9, ?_⟩
  · rw [es k (fun e => by rw [← e] at h4; omega)]
    exact xgn (ha.1 k hk') (r2 k hk')
  · refine ⟨?_, (r3 k hk').2⟩
    by_cases e : h = k
    · subst e
      show _ = some (Sum.inl (0, C h, mrow (bif Nat.beq (h + 1) (h + 1) then s else S (h + 1))))
      rw [Nat.beq_refl]
      exact xgs (r3 h hc).1
    · rw [es (k + 1) (by omega)]
      exact xgn (fun e2 => e (r5 h k hc hk' e2)) (r3 k hk').1
  · obtain ⟨gr, g1, g2⟩ := r6
    exact ⟨gr, xgn ha.2.1 g1, g2⟩
  · rw [es 29 (fun e => h4.2.2.1 e.symm), es 114 (fun e => h4.2.2.2.1 e.symm)]
    exact ⟨xgn ha.2.2.1 r7.1, xgn ha.2.2.2.1 r7.2⟩
  · exact Nat.le_trans (Nat.le_of_eq (xsz_set (c := .inl (0, C h, mrow (S (h + 1)))) (c' := .inl (0, C h, mrow s)) rfl (r3 h hc).1)) r10
/-- a word of a natural -/
theorem cR.arr {z : Int32} (hR : cR w0 L Z A C B S w) (hc : kd h = 3) (hz : Int32.ofInt v = z) : cR w0 L Z A C B (u2 S (h + 1) r v) (w.set (A h) (.inl (0, C h, xup (mrow (S (h + 1))) r (.int z)))) := by
  rw [mrow_up hz]
  exact hR.row hc (s := u1 (S (h + 1)) r v)
/-- a byte -/
theorem cR.byte {a n : Nat} {z : Int32} (hR : cR w0 L Z A C B S w) (ha : (a = 29 ∧ n = 4096) ∨ (a = 114 ∧ n = 4112)) (hz : Int32.ofInt v = z) : cR w0 L Z A C B (u2 S a r v) (w.set a (.inl (1, n, xup (mrow (S a)) r (.int z)))) := by
  rw [mrow_up hz]
  have hR' := hR
  obtain ⟨r1, r2, r3, r4, r5, r6, r7, r8, r9, r10⟩ := hR
  have hw : w[a]? = some (.inl (1, n, mrow (S a))) := by
    rcases ha with ⟨rfl, rfl⟩ | ⟨rfl, rfl⟩
    · exact r7.1
    · exact r7.2
  refine ⟨fun k hk' => xgn (by omega) (r1 k hk'), fun k hk' => ?_, fun k hk' => ?_, fun k hk' => by rw [List.length_set]; exact r4 k hk', r5, ?_, ?_, by rw [List.length_set]; exact r8, by rw [List.length_set]; exact r9, ?_⟩
  · have ho := kd_o hk'
    rw [u2_n (by omega)]
    exact xgn (by omega) (r2 k hk')
  · have h3 := hR'.apart hk'
    have h4 := kd_c hk'
    rw [u2_n (by omega)]
    exact ⟨xgn (by omega) (r3 k hk').1, (r3 k hk').2⟩
  · obtain ⟨gr, g1, g2⟩ := r6
    exact ⟨gr, xgn (by omega) g1, g2⟩
  · rcases ha with ⟨rfl, rfl⟩ | ⟨rfl, rfl⟩
    · rw [u2_s, u2_n (by decide)]; exact ⟨xgs r7.1, xgn (by decide) r7.2⟩
    · rw [u2_s, u2_n (by decide)]; exact ⟨xgn (by decide) r7.1, xgs r7.2⟩
  · exact Nat.le_trans (Nat.le_of_eq (xsz_set (c := .inl (1, n, mrow (S a))) (c' := .inl (1, n, mrow (u1 (S a) r v))) rfl hw)) r10
/-- a natural's row made anew, longer -/
theorem cR.grow {c : Nat} {s : Nat → Int} (hR : cR w0 L Z A C B S w) (hc : kd h = 3) (h2 : 2 * C h ≤ c) (h3 : c ≤ 40000) :
    cR w0 L Z (uv A h w.length) (uv C h c) (uv B h (B h + 1)) (fun b => bif Nat.beq b (h + 1) then s else S b) (List.set (w ++ [Sum.inl (0, c, mrow s)]) h (Sum.inr (3, [Value.ref w.length, vI (S h) 1]))) := by
  have hR' := hR
  obtain ⟨r1, r2, r3, r4, r5, r6, r7, r8, r9, r10⟩ := hR
  have h4 := kd_c hc
  have ho := kd_o (show kd h < 12 by omega)
  have es : ∀ b, b ≠ h + 1 → (fun b => bif Nat.beq b (h + 1) then s else S b) b = S b := fun b hb => by show (bif Nat.beq b (h + 1) then s else S b) = S b; rw [beq_ne hb]; rfl
  have hh : (w ++ [Sum.inl (0, c, mrow s)])[h]? = some (.inr (kd h, cF (A h) h (S h))) := xga (r2 h (by omega))
  have hAl : ∀ k, kd k = 3 → A k < w.length := fun k hk => (List.getElem?_eq_some_iff.mp (r3 k hk).1).1
  have up : ∀ k, k < w.length → (w ++ [Sum.inl (0, c, mrow s)])[k]? = w[k]? := fun k hk => List.getElem?_append_left hk
  refine ⟨fun k hk' => xgn (by omega) ((up k (by omega)).trans (r1 k hk')), fun k hk' => ?_, fun k hk' => ?_, fun k hk' => ?_, fun k1 k2 g1 g2 e => ?_, ?_, ?_, ?_, ?_, ?_⟩
  · have hk1 := kd_o hk'
    rw [es k (fun e => by rw [← e] at h4; omega)]
    by_cases e : h = k
    · subst e
      rw [uv_s, cF_3 hc, hc]
      exact xgs hh
    · rw [uv_n (fun e2 => e e2.symm)]
      exact xgn e ((up k (by omega)).trans (r2 k hk'))
  · have hk1 := kd_o (show kd k < 12 by omega)
    by_cases e : h = k
    · subst e
      rw [uv_s, uv_s, uv_s]
      refine ⟨?_, ?_, h3⟩
      · show _ = some (Sum.inl (0, c, mrow (bif Nat.beq (h + 1) (h + 1) then s else S (h + 1))))
        rw [Nat.beq_refl]
        exact xgn (by omega) xgl
      · have := (r3 h hc).2.1
        rw [Nat.pow_succ]; omega
    · rw [uv_n (fun e2 => e e2.symm), uv_n (fun e2 => e e2.symm), uv_n (fun e2 => e e2.symm), es (k + 1) (by omega)]
      exact ⟨xgn (fun e2 => (hR'.apart hk').1 h (by omega) e2.symm) ((up _ (hAl k hk')).trans (r3 k hk').1), (r3 k hk').2⟩
  · rw [List.length_set, List.length_append, List.length_singleton]
    by_cases e : h = k
    · subst e
      rw [uv_s]; exact Or.inr ⟨r8, by omega⟩
    · rw [uv_n (fun e2 => e e2.symm)]
      rcases r4 k hk' with g | g
      · exact Or.inl g
      · exact Or.inr ⟨g.1, by omega⟩
  · by_cases e1 : h = k1
    · subst e1
      by_cases e2 : h = k2
      · exact e2
      · rw [uv_s, uv_n (fun e3 => e2 e3.symm)] at e
        have := hAl k2 g2
        omega
    · rw [uv_n (fun e3 => e1 e3.symm)] at e
      by_cases e2 : h = k2
      · subst e2
        rw [uv_s] at e
        have := hAl k1 g1
        omega
      · rw [uv_n (fun e3 => e2 e3.symm)] at e
        exact r5 k1 k2 g1 g2 e
  · obtain ⟨gr, g1, g2⟩ := r6
    exact ⟨gr, xgn ho.2.1 (xga g1), g2⟩
  · rw [es 29 (fun e => h4.2.2.1 e.symm), es 114 (fun e => h4.2.2.2.1 e.symm)]
    exact ⟨xgn ho.2.2.1 (xga r7.1), xgn ho.2.2.2.1 (xga r7.2)⟩
  · rw [List.length_set, List.length_append, List.length_singleton]; omega
  · rw [List.length_set, List.length_append, List.length_singleton]
    have := sum_up (f := B) (v := B h + 1) cL_nodup h4.2.2.2.2
    omega
  · rw [xsz_set (c := .inr (kd h, cF (A h) h (S h))) (c' := .inr (3, [Value.ref w.length, vI (S h) 1])) (by rw [hc]; rfl) hh, xsz_push]
    have e1 := sum_up (f := fun h => 2 * C h) (v := 2 * c) cL_nodup h4.2.2.2.2
    have e2 : (fun k => 2 * uv C h c k) = uv (fun h => 2 * C h) h (2 * c) := by
      funext k
      by_cases e : k = h
      · subst e; rw [uv_s, uv_s]
      · rw [uv_n e, uv_n e]
    rw [e2]
    show xsz w + c ≤ _
    omega
end
