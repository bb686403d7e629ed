/-! class and reference agree: the spec functions read no more than what agrees -/
def eqR (S S' : Nat → Nat → Int) (V V' : Nat → Nat) (a : Nat) : Prop := S' 153 a = S 153 a ∧ S' 154 a = S 154 a ∧ (S 154 a ≠ 0 → S' 156 a = S 156 a) ∧ (S 154 a = 3 → S' 155 a = S 155 a ∧ V' (160 + 2 * a) = V (160 + 2 * a))
def eqG (S S' : Nat → Nat → Int) : Prop := S' 128 17 = S 128 17 ∧ S' 128 18 = S 128 18 ∧ S' 128 19 = S 128 19 ∧ S' 128 20 = S 128 20
section
variable {S S' : Nat → Nat → Int} {V V' : Nat → Nat} {r a b c : Nat} {mode : Int}
theorem eqR.ca (h : eqR S S' V V' a) (hk : 0 ≤ S 154 a ∧ S 154 a ≤ 3) : (S 154 a = 0 ∧ S' 154 a = 0) ∨ (S 154 a = 1 ∧ S' 154 a = 1 ∧ S' 156 a = S 156 a) ∨ (S 154 a = 2 ∧ S' 154 a = 2 ∧ S' 156 a = S 156 a) ∨ (S 154 a = 3 ∧ S' 154 a = 3 ∧ S' 156 a = S 156 a ∧ S' 155 a = S 155 a ∧ V' (160 + 2 * a) = V (160 + 2 * a)) := by
  obtain ⟨h1, h2, h3, h4⟩ := h
  rcases k4 hk with e | e | e | e
  · exact Or.inl ⟨e, h2.trans e⟩
  · exact Or.inr (Or.inl ⟨e, h2.trans e, h3 (by omega)⟩)
  · exact Or.inr (Or.inr (Or.inl ⟨e, h2.trans e, h3 (by omega)⟩))
  · exact Or.inr (Or.inr (Or.inr ⟨e, h2.trans e, h3 (by omega), h4 e⟩))
theorem eq_num {v sc : Int} (hg : eqG S S') (hr : S' 153 r = S 153 r) : sNum S' r v sc mode = sNum S r v sc mode := by
  obtain ⟨g1, g2, g3, g4⟩ := hg
  unfold sNum
  rw [hr, g1, g2, g3, g4]
theorem eq_frd {B : Int} (hg : eqG S S') (hr : S' 153 r = S 153 r) : sFrD S' r B mode = sFrD S r B mode := by
  obtain ⟨g1, g2, g3, g4⟩ := hg
  unfold sFrD
  rw [hr, g1, g2, g3, g4]
theorem eq_move {sg sg' : Int} (hg : eqG S S') (hr : S' 153 r = S 153 r) (ha : eqR S S' V V' a) (hk : 0 ≤ S 154 a ∧ S 154 a ≤ 3) (hs : S 154 a ≠ 0 → sg' = sg) : sMove S' V' r a sg' mode = sMove S V r a sg mode := by
  obtain ⟨g1, g2, g3, g4⟩ := hg
  unfold sMove
  rw [hr, g1, g2, g3, g4, ha.1]
  rcases ha.ca hk with ⟨k, k'⟩ | ⟨k, k', s⟩ | ⟨k, k', s⟩ | ⟨k, k', s, t, v⟩
  · simp [k, k']
  · simp [k, k', hs (by omega)]
  · simp [k, k', hs (by omega)]
  · simp [k, k', hs (by omega), t, v]
theorem eq_copy {how : Int} (hg : eqG S S') (hr : S' 153 r = S 153 r) (ha : eqR S S' V V' a) (hk : 0 ≤ S 154 a ∧ S 154 a ≤ 3) : sCopy S' V' r a how mode = sCopy S V r a how mode := by
  unfold sCopy
  exact eq_move hg hr ha hk (fun h => by rw [ha.2.2.1 h])
theorem eq_mul (hg : eqG S S') (hr : S' 153 r = S 153 r) (ha : eqR S S' V V' a) (hb : eqR S S' V V' b) (hk : 0 ≤ S 154 a ∧ S 154 a ≤ 3) (hl : 0 ≤ S 154 b ∧ S 154 b ≤ 3) (n1 : S 154 a ≠ 0) (n2 : S 154 b ≠ 0) : sMul S' V' r a b mode = sMul S V r a b mode := by
  obtain ⟨g1, g2, g3, g4⟩ := hg
  unfold sMul
  rw [hr, g1, g2, g3, g4, ha.1, hb.1, ha.2.2.1 n1, hb.2.2.1 n2]
  rcases ha.ca hk with ⟨k, k'⟩ | ⟨k, k', s⟩ | ⟨k, k', s⟩ | ⟨k, k', s, t, v⟩ <;> rcases hb.ca hl with ⟨m, m'⟩ | ⟨m, m', p⟩ | ⟨m, m', p⟩ | ⟨m, m', p, q, u⟩ <;> simp [*] at *
theorem eq_add {tn : Int} (hg : eqG S S') (hr : S' 153 r = S 153 r) (ha : eqR S S' V V' a) (hb : eqR S S' V V' b) (hk : 0 ≤ S 154 a ∧ S 154 a ≤ 3) (hl : 0 ≤ S 154 b ∧ S 154 b ≤ 3) (n1 : S 154 a ≠ 0) (n2 : S 154 b ≠ 0) : sAdd S' V' r a b tn mode = sAdd S V r a b tn mode := by
  obtain ⟨g1, g2, g3, g4⟩ := hg
  unfold sAdd ex
  rw [hr, g1, g2, g3, g4, ha.1, hb.1, ha.2.2.1 n1, hb.2.2.1 n2]
  have e1 := ha.1
  have e2 := hb.1
  rcases ha.ca hk with ⟨k, k'⟩ | ⟨k, k', s⟩ | ⟨k, k', s⟩ | ⟨k, k', s, t, v⟩ <;> rcases hb.ca hl with ⟨m, m'⟩ | ⟨m, m', p⟩ | ⟨m, m', p⟩ | ⟨m, m', p, q, u⟩ <;> first | exact absurd k n1 | exact absurd m n2 | (rw [k, k', m, m', t, v, q, u]; done) | (rw [k, k', m, m', t, v]; simp [sum2, sumS, cP, cN, base2]; done) | (rw [k, k', m, m', q, u]; simp [sum2, sumS, cP, cN, base2]; done) | (rw [k, k', m, m']; simp [sum2, sumS, cP, cN, base2]; done)
theorem eq_quo (hg : eqG S S') (hr : S' 153 r = S 153 r) (ha : eqR S S' V V' a) (hb : eqR S S' V V' b) (hk : 0 ≤ S 154 a ∧ S 154 a ≤ 3) (hl : 0 ≤ S 154 b ∧ S 154 b ≤ 3) (n1 : S 154 a ≠ 0) (n2 : S 154 b ≠ 0) : sQuo S' V' r a b mode = sQuo S V r a b mode := by
  obtain ⟨g1, g2, g3, g4⟩ := hg
  unfold sQuo sRat ex
  rw [hr, g1, g2, g3, g4, ha.1, hb.1, ha.2.2.1 n1, hb.2.2.1 n2]
  rcases ha.ca hk with ⟨k, k'⟩ | ⟨k, k', s⟩ | ⟨k, k', s⟩ | ⟨k, k', s, t, v⟩ <;> rcases hb.ca hl with ⟨m, m'⟩ | ⟨m, m', p⟩ | ⟨m, m', p⟩ | ⟨m, m', p, q, u⟩ <;> first | exact absurd k n1 | exact absurd m n2 | (rw [k, k', m, m', t, v, q, u]) | (rw [k, k', m, m']; simp; done)
theorem eq_rem {nr : Int} (hg : eqG S S') (hr : S' 153 r = S 153 r) (ha : eqR S S' V V' a) (hb : eqR S S' V V' b) (hk : 0 ≤ S 154 a ∧ S 154 a ≤ 3) (hl : 0 ≤ S 154 b ∧ S 154 b ≤ 3) (n1 : S 154 a ≠ 0) (n2 : S 154 b ≠ 0) : sRem S' V' r a b nr mode = sRem S V r a b nr mode := by
  have hmv := eq_move (mode := mode) (sg := S 156 a) (sg' := S' 156 a) hg hr ha hk (fun h => ha.2.2.1 h)
  obtain ⟨g1, g2, g3, g4⟩ := hg
  unfold sRem
  rw [hmv]
  unfold remX ex
  rw [hr, g1, g2, g3, g4, ha.1, hb.1, ha.2.2.1 n1]
  rcases ha.ca hk with ⟨k, k'⟩ | ⟨k, k', s⟩ | ⟨k, k', s⟩ | ⟨k, k', s, t, v⟩ <;> rcases hb.ca hl with ⟨m, m'⟩ | ⟨m, m', p⟩ | ⟨m, m', p⟩ | ⟨m, m', p, q, u⟩ <;> first | exact absurd k n1 | exact absurd m n2 | (rw [k, k', m, m', t, v, q, u]) | (rw [k, k', m, m']; simp; done)
theorem eq_rtd {e n sg : Int} {v : Nat} (hg : eqG S S') (hr : S' 153 r = S 153 r) : sRtd S' r e n sg mode v = sRtd S r e n sg mode v := by
  obtain ⟨g1, g2, g3, g4⟩ := hg
  unfold sRtd oRt
  rw [hr, g1, g2, g3, g4]
theorem eq_len (hg : eqG S S') (hr : S' 153 r = S 153 r) (ha : eqR S S' V V' a) (hb : eqR S S' V V' b) (hk : 0 ≤ S 154 a ∧ S 154 a ≤ 3) (hl : 0 ≤ S 154 b ∧ S 154 b ≤ 3) : sLen S' V' r a b mode = sLen S V r a b mode := by
  have h1 := eq_move (mode := mode) (sg := 0) (sg' := 0) hg hr ha hk (fun _ => rfl)
  have h2 := eq_move (mode := mode) (sg := 0) (sg' := 0) hg hr hb hl (fun _ => rfl)
  have g3 := hg.2.2.1
  unfold sLen
  rw [eq_rtd hg hr, g3]
  unfold ex
  rw [ha.1, hb.1]
  rcases ha.ca hk with ⟨k, k'⟩ | ⟨k, k', s⟩ | ⟨k, k', s⟩ | ⟨k, k', s, t, v⟩ <;> rcases hb.ca hl with ⟨m, m'⟩ | ⟨m, m', p⟩ | ⟨m, m', p⟩ | ⟨m, m', p, q, u⟩ <;> first | (rw [k, k', m, m', t, v, q, u]; simp; done) | (rw [k, k', m, m']; simp [h1, h2]; done)
theorem eq_rec {op : Int} (hg : eqG S S') (hr : S' 153 r = S 153 r) (ha : eqR S S' V V' a) (hb : eqR S S' V V' b) (hk : 0 ≤ S 154 a ∧ S 154 a ≤ 3) (hl : 0 ≤ S 154 b ∧ S 154 b ≤ 3) : sRec S' V' op r a b mode = sRec S V op r a b mode := by
  unfold sRec
  rw [eq_len hg hr ha hb hk hl, ha.2.1, hb.2.1, hg.2.2.1]
  by_cases h6 : op = 6
  · rw [if_pos h6, if_pos h6]
  · rw [if_neg h6, if_neg h6]
    by_cases h0 : S 154 a = 0 ∨ S 154 b = 0
    · rw [if_pos h0, if_pos h0]
    · have n1 : S 154 a ≠ 0 := fun c => h0 (Or.inl c)
      have n2 : S 154 b ≠ 0 := fun c => h0 (Or.inr c)
      rw [if_neg h0, if_neg h0, eq_add hg hr ha hb hk hl n1 n2, eq_add hg hr ha hb hk hl n1 n2, eq_mul hg hr ha hb hk hl n1 n2, eq_quo hg hr ha hb hk hl n1 n2, eq_rem hg hr ha hb hk hl n1 n2]
theorem eq_fus (hg : eqG S S') (hr : S' 153 r = S 153 r) (ha : eqR S S' V V' a) (hb : eqR S S' V V' b) (hc : eqR S S' V V' c) (hk : 0 ≤ S 154 a ∧ S 154 a ≤ 3) (hl : 0 ≤ S 154 b ∧ S 154 b ≤ 3) (hm : 0 ≤ S 154 c ∧ S 154 c ≤ 3) : sFus S' V' r a b c mode = sFus S V r a b c mode := by
  obtain ⟨g1, g2, g3, g4⟩ := hg
  unfold sFus ex
  rw [hr, g1, g2, g3, g4, ha.1, hb.1, hc.1, ha.2.1, hb.2.1, hc.2.1]
  by_cases h0 : S 154 a = 0 ∨ S 154 b = 0 ∨ S 154 c = 0
  · rw [if_pos h0, if_pos h0]
  · rw [if_neg h0, if_neg h0, ha.2.2.1 (by omega), hb.2.2.1 (by omega), hc.2.2.1 (by omega)]
    rcases ha.ca hk with ⟨k, k'⟩ | ⟨k, k', s⟩ | ⟨k, k', s⟩ | ⟨k, k', s, t, v⟩ <;> rcases hb.ca hl with ⟨m, m'⟩ | ⟨m, m', p⟩ | ⟨m, m', p⟩ | ⟨m, m', p, q, u⟩ <;> rcases hc.ca hm with ⟨n, n'⟩ | ⟨n, n', x⟩ | ⟨n, n', x⟩ | ⟨n, n', x, y, z⟩ <;> first | (exfalso; omega) | (rw [k, m, n, t, v, q, u, y, z]; done) | (rw [k, m, n, t, v, q, u]; simp [sum2, sumS, cP, cN, base2]; done) | (rw [k, m, n, y, z]; simp [sum2, sumS, cP, cN, base2]; done) | (rw [k, m, n]; simp [sum2, sumS, cP, cN, base2]; done)
theorem eq_root {n : Int} (hg : eqG S S') (hr : S' 153 r = S 153 r) (ha : eqR S S' V V' a) (hk : 0 ≤ S 154 a ∧ S 154 a ≤ 3) : sRoot S' V' r a n mode = sRoot S V r a n mode := by
  unfold sRoot
  rw [eq_rtd hg hr, hg.2.2.1, ha.1]
  rcases ha.ca hk with ⟨k, k'⟩ | ⟨k, k', s⟩ | ⟨k, k', s⟩ | ⟨k, k', s, t, v⟩
  · simp [k, k']
  · simp [k, k', s]
  · simp [k, k', s]
  · rw [k, k', s, t, v]
theorem eq_pow {n : Int} (hg : eqG S S') (hr : S' 153 r = S 153 r) (ha : eqR S S' V V' a) (hk : 0 ≤ S 154 a ∧ S 154 a ≤ 3) : sPow S' V' r a n mode = sPow S V r a n mode := by
  obtain ⟨g1, g2, g3, g4⟩ := hg
  unfold sPow sRat
  rw [hr, g1, g2, g3, g4, ha.1]
  rcases ha.ca hk with ⟨k, k'⟩ | ⟨k, k', s⟩ | ⟨k, k', s⟩ | ⟨k, k', s, t, v⟩
  · simp [k, k']
  · simp [k, k', s]
  · simp [k, k', s]
  · rw [k, k', s, t, v]
theorem eq_nei {up : Int} (hg : eqG S S') (ha : eqR S S' V V' a) (hk : 0 ≤ S 154 a ∧ S 154 a ≤ 3) : sNei S' V' a up = sNei S V a up := by
  obtain ⟨g1, g2, g3, g4⟩ := hg
  unfold sNei sFar sNea sMost
  rw [g1, g2, g3, g4, ha.1]
  rcases ha.ca hk with ⟨k, k'⟩ | ⟨k, k', s⟩ | ⟨k, k', s⟩ | ⟨k, k', s, t, v⟩
  · simp [k, k']
  · simp [k, k', s]
  · simp [k, k', s]
  · rw [k, k', s, t, v]
theorem eq_td (ha : eqR S S' V V' a) (hk : 0 ≤ S 154 a ∧ S 154 a ≤ 3) : sTd S' V' a mode = sTd S V a mode := by
  unfold sTd
  rw [ha.1]
  rcases ha.ca hk with ⟨k, k'⟩ | ⟨k, k', s⟩ | ⟨k, k', s⟩ | ⟨k, k', s, t, v⟩
  · simp [k, k', dbl]
  · simp [k, k', s]
  · simp [k, k', s]
  · rw [k, k', s, t, v]
theorem eq_tl (ha : eqR S S' V V' a) (h3 : S 154 a = 3) : tlX S' V' a mode = tlX S V a mode := by
  unfold tlX
  rw [ha.1, ha.2.2.1 (by omega), (ha.2.2.2 h3).1, (ha.2.2.2 h3).2]
theorem eq_wh {way : Int} (hg : eqG S S') (hr : S' 153 r = S 153 r) (ha : eqR S S' V V' a) (hk : 0 ≤ S 154 a ∧ S 154 a ≤ 3) : sWhR S' V' r a way mode = sWhR S V r a way mode := by
  obtain ⟨g1, g2, g3, g4⟩ := hg
  unfold sWhR
  rw [hr, g1, g2, g3, g4, ha.1]
  rcases ha.ca hk with ⟨k, k'⟩ | ⟨k, k', s⟩ | ⟨k, k', s⟩ | ⟨k, k', s, t, v⟩
  · simp [k, k']
  · simp [k, k', s]
  · simp [k, k', s]
  · rw [k, k', s, t, v]
end
