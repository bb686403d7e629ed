/-! what lies far outside rounds alike -/
theorem rFl_1 {free gradual x least way f : Int} (hw : way ≠ 0) (hn : ¬ (free = 0 ∧ gradual ≠ 0 ∧ x < least)) : rFl free gradual x least way f = zor f 1 := by
  unfold rFl
  rw [if_pos hw, if_neg hn]
theorem rFl_4 {free gradual x least way f : Int} (hw : way ≠ 0) (hn : free = 0 ∧ gradual ≠ 0 ∧ x < least) : rFl free gradual x least way f = zor (zor f 4) 1 := by
  unfold rFl
  rw [if_pos hw, if_pos hn]
section
variable {p least greatest gradual sg mode more e f : Int} {m : Nat}
def bigR (p greatest sg mode f : Int) : OO := if far mode sg = true then (1, sg, 0, 0, (if sg = 0 then 1 else -1), zor (zor f 2) 1) else (3, sg, xbl (2 ^ p.toNat - 1) + (greatest - p), nrm (2 ^ p.toNat - 1) p, (if sg = 0 then -1 else - -1), zor (zor f 2) 1)
theorem oR_big (hm : m ≠ 0) (hp : 1 ≤ p) (hl : least ≤ greatest) (hx : greatest < (xbl m : Int) + e) : oR p least greatest gradual sg mode more m e f = bigR p greatest sg mode f := by
  obtain ⟨x, ex⟩ : ∃ x : Int, x = (xbl m : Int) + e := ⟨_, rfl⟩
  obtain ⟨u, eu⟩ : ∃ u, u = rU p least gradual 0 x := ⟨_, rfl⟩
  have hu : u = x - p := by
    rw [eu]
    unfold rU
    rw [if_neg (fun h => absurd h.2.2 (by omega))]
  obtain ⟨q, eq⟩ : ∃ q, q = rq1 m (u - e) more sg mode := ⟨_, rfl⟩
  obtain ⟨ch, ec⟩ : ∃ ch, ch = rway (rE m (u - e) more) (rG m (u - e) more sg mode) := ⟨_, rfl⟩
  have hq := rq1_ge (m := m) (cut := u - e) (more := more) (sg := sg) (mode := mode) hm
  rw [← eq] at hq
  have hq0 : q ≠ 0 := by
    intro z
    rw [z, xbl_zero] at hq
    omega
  have nx : ¬ ((0 : Int) = 0 ∧ gradual ≠ 0 ∧ x < least) := fun h => absurd h.2.2 (by omega)
  unfold bigR
  by_cases hf : far mode sg = true
  · have eD : rD p least greatest gradual 0 sg mode x more m q u ch f = (1, 0, 0, 1, zor f 2) := by
      unfold rD
      rw [if_pos ⟨rfl, hq0, by omega⟩, if_pos hf]
    unfold oR
    rw [rnd_eq ex eu eq ec eD, if_pos hf]
    rw [rFl_1 (by decide) nx]
  · have eD : rD p least greatest gradual 0 sg mode x more m q u ch f = (3, xbl (2 ^ p.toNat - 1) + (greatest - p), nrm (2 ^ p.toNat - 1) p, -1, zor f 2) := by
      unfold rD
      rw [if_pos ⟨rfl, hq0, by omega⟩, if_neg hf]
    unfold oR
    rw [rnd_eq ex eu eq ec eD, if_neg hf]
    rw [rFl_1 (by decide) nx]
def tinR (p least gradual sg mode f : Int) : OO :=
  if gradual = 0 then (if away mode sg = true then (3, sg, xbl 1 + (least - 1), nrm 1 p, (if sg = 0 then 1 else -1), zor (zor f 4) 1) else (2, sg, 0, 0, (if sg = 0 then -1 else - -1), zor (zor f 4) 1))
  else (if away mode sg = true then (3, sg, xbl 1 + (least - p), nrm 1 p, (if sg = 0 then 1 else -1), zor (zor f 4) 1) else (2, sg, 0, 0, (if sg = 0 then -1 else - -1), zor (zor f 4) 1))
theorem away_0 (sg : Int) : away 0 sg = false := by simp [away]
theorem oR_tiny (hm : m ≠ 0) (hmo : more = 0 ∨ more = 1) (hp : 2 ≤ p) (hl : least ≤ greatest) (hx : (xbl m : Int) + e < least - p - 1) : oR p least greatest gradual sg mode more m e f = tinR p least gradual sg mode f := by
  obtain ⟨x, ex⟩ : ∃ x : Int, x = (xbl m : Int) + e := ⟨_, rfl⟩
  obtain ⟨u, eu⟩ : ∃ u, u = rU p least gradual 0 x := ⟨_, rfl⟩
  obtain ⟨q, eq⟩ : ∃ q, q = rq1 m (u - e) more sg mode := ⟨_, rfl⟩
  obtain ⟨ch, ec⟩ : ∃ ch, ch = rway (rE m (u - e) more) (rG m (u - e) more sg mode) := ⟨_, rfl⟩
  unfold tinR
  by_cases hg : gradual = 0
  · have hu : u = x - p := by
      rw [eu]
      unfold rU
      rw [if_neg (fun h => h.2.1 hg)]
    have hq := rq1_ge (m := m) (cut := u - e) (more := more) (sg := sg) (mode := mode) hm
    rw [← eq] at hq
    have hq0 : q ≠ 0 := by
      intro z
      rw [z, xbl_zero] at hq
      omega
    have hq1 : (xbl q : Int) ≤ p + 1 := by
      have h1 : (xbl (rq m (u - e)) : Int) ≤ p := by
        unfold rq
        split
        · rw [xbl_div]; omega
        · rw [xbl_pow _ _ hm]; omega
      have h2 : (bb (rG m (u - e) more sg mode)).toNat ≤ 1 := by cases rG m (u - e) more sg mode <;> decide
      have h3 := xbl_add (a := rq m (u - e)) (b := (bb (rG m (u - e) more sg mode)).toNat) (n := p.toNat) (by omega) (Nat.le_trans (xbl_le (n := _) (k := 1) (by omega)) (by omega))
      rw [eq]
      unfold rq1
      omega
    have hup : upU m x least more sg mode = away mode sg := by
      unfold upU
      rw [decide_eq_false (show ¬ least - 1 < x by omega), decide_eq_false (show ¬ x = least - 1 by omega)]
      simp
    rw [if_pos hg]
    by_cases ha : away mode sg = true
    · have eD : rD p least greatest gradual 0 sg mode x more m q u ch f = (3, xbl 1 + (least - 1), nrm 1 p, 1, zor f 4) := by
        unfold rD
        rw [if_neg (fun h => absurd h.2.2 (by omega)), if_neg hq0, if_pos ⟨rfl, hg, by omega⟩, if_pos (by rw [hup]; exact ha)]
      unfold oR
      rw [rnd_eq ex eu eq ec eD, if_pos ha]
      rw [rFl_1 (by decide) (fun h => h.2.1 hg)]
    · have eD : rD p least greatest gradual 0 sg mode x more m q u ch f = (2, 0, 0, -1, zor f 4) := by
        unfold rD
        rw [if_neg (fun h => absurd h.2.2 (by omega)), if_neg hq0, if_pos ⟨rfl, hg, by omega⟩, if_neg (by rw [hup]; exact ha)]
      unfold oR
      rw [rnd_eq ex eu eq ec eD, if_neg ha]
      rw [rFl_1 (by decide) (fun h => h.2.1 hg)]
  · have hu : u = least - p := by
      rw [eu]
      unfold rU
      rw [if_pos ⟨rfl, hg, by omega⟩]
    have hcut : (xbl m : Int) + 1 < u - e := by omega
    have hml := xbl_lt m
    have hm1 : m < 2 ^ ((u - e) - 1).toNat := Nat.lt_of_lt_of_le hml (Nat.pow_le_pow_right (by omega) (by omega))
    have hm2 : m < 2 ^ (u - e).toNat := Nat.lt_of_lt_of_le hml (Nat.pow_le_pow_right (by omega) (by omega))
    have hrq : rq m (u - e) = 0 := by
      unfold rq
      rw [if_pos (by omega)]
      exact Nat.div_eq_of_lt hm2
    have hny : nany m (u - e) = true := nany_t (by rw [Nat.mod_eq_of_lt hm2]; exact hm)
    have hnb : nbit m (u - e - 1) = false := by
      unfold nbit
      rw [Nat.div_eq_of_lt hm1]
      simp
    have hG : rG m (u - e) more sg mode = away mode sg := by
      unfold rG gU
      rw [decide_eq_true (show 0 < u - e by omega), Bool.true_and, if_neg (fun h => by rw [hny] at h; exact absurd h.2 (by decide)), hnb, Bool.false_and]
      by_cases h0 : mode = 0
      · rw [if_pos h0, h0, away_0]
      · rw [if_neg h0]
        rfl
    have hE : rE m (u - e) more = false := by
      unfold rE
      rw [hny, decide_eq_true (show 0 < u - e by omega)]
      simp
    rw [hE, hG] at ec
    have eq' : q = (bb (away mode sg)).toNat := by rw [eq]; unfold rq1; rw [hrq, hG, Nat.zero_add]
    rw [if_neg hg]
    by_cases ha : away mode sg = true
    · rw [ha] at eq' ec
      have eq1 : q = 1 := eq'
      have eD : rD p least greatest gradual 0 sg mode x more m q u ch f = (3, xbl 1 + (least - p), nrm 1 p, 1, f) := by
        unfold rD
        rw [eq1, xbl_one, if_neg (fun h => absurd h.2.2 (by omega)), if_neg (by decide), if_neg (fun h => hg h.2.1), hu, ec]
        rfl
      unfold oR
      rw [rnd_eq ex eu eq (by rw [hE, hG, ha]; exact ec) eD, if_pos ha]
      rw [rFl_4 (by decide) ⟨rfl, hg, by omega⟩]
    · have ha' : away mode sg = false := by simpa using ha
      rw [ha'] at eq' ec
      have eq1 : q = 0 := eq'
      have eD : rD p least greatest gradual 0 sg mode x more m q u ch f = (2, 0, 0, -1, f) := by
        unfold rD
        rw [eq1, if_neg (fun h => h.2.1 rfl), if_pos rfl]
      unfold oR
      rw [rnd_eq ex eu eq (by rw [hE, hG, ha']; exact ec) eD, if_neg ha]
      rw [rFl_4 (by decide) ⟨rfl, hg, by omega⟩]
end
