/-! locals of which one knows no more than what is loaded: for loops -/
theorem xld_f {lv : xLv} {j : Nat} {u : Value} {p : Nat × Value → Bool} (hp : p (j, u) = true) (h : xld lv j = some u) : xld (lv.filter p) j = some u := by
  induction lv with
  | nil => cases h
  | cons q r ih =>
    obtain ⟨k, v⟩ := q
    by_cases e : k = j
    · subst e
      have hv : v = u := by
        have : some v = some u := by
          simpa only [xld, Nat.beq_refl, cond_true] using h
        exact Option.some.inj this
      subst hv
      rw [List.filter_cons_of_pos hp]
      simp only [xld, Nat.beq_refl, cond_true]
    · have hb : Nat.beq k j = false := by
        cases hx : Nat.beq k j with
        | false => rfl
        | true => exact absurd (Nat.eq_of_beq_eq_true hx) e
      have h' : xld r j = some u := by
        simpa only [xld, hb, cond_false] using h
      have := ih h'
      cases hq : p (k, v) with
      | true => rw [List.filter_cons_of_pos hq]; simp only [xld, hb, cond_false]; exact this
      | false => rw [List.filter_cons_of_neg (by rw [hq]; exact Bool.false_ne_true)]; exact this
theorem xld_s1 {lv : xLv} {i : Nat} {v : Value} : xld (xst1 lv i v) i = some v := by
  unfold xst1
  simp only [xld, Nat.beq_refl, cond_true]
theorem xld_s2 {lv : xLv} {i : Nat} {v : Value} : xld (xst2 lv i v) i = some v := by
  unfold xst2
  simp only [xld, Nat.beq_refl, cond_true]
theorem xld_n1 {lv : xLv} {i j : Nat} {u v : Value} (hne : Nat.beq i j = false) (hp : (!(j == i) && !(j + 1 == i && u.category == 2)) = true) (h : xld lv j = some u) : xld (xst1 lv i v) j = some u := by
  unfold xst1
  simp only [xld, hne, cond_false]
  exact xld_f hp h
theorem xld_n2 {lv : xLv} {i j : Nat} {u v : Value} (hne : Nat.beq i j = false) (hp : (!(j == i) && (!(j == i + 1) && !(j + 1 == i && u.category == 2))) = true) (h : xld lv j = some u) : xld (xst2 lv i v) j = some u := by
  unfold xst2
  simp only [xld, hne, cond_false]
  exact xld_f hp h
theorem xld_try {lv : xLv} {x : Int32} {h : Nat} (e : xld lv 0 = some (.ref h)) : xld (xst2 (xst1 lv 4 (.int x)) 5 (.long 3)) 0 = some (.ref h) := xld_n2 rfl rfl (xld_n1 rfl rfl e)
