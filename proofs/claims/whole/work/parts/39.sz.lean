/-! how many cells a world has, and their size -/
def xLs (w : xW) (n z : Nat) : Prop := w.length ≤ n ∧ xsz w ≤ z
theorem xLs.set {w : xW} {n z h : Nat} {c c2 : xC} (k : xLs w n z) (hw : w[h]? = some c) (hc : xcs c2 = xcs c) : xLs (w.set h c2) n z :=
  ⟨Nat.le_trans (Nat.le_of_eq (List.length_set ..)) k.1, Nat.le_trans (Nat.le_of_eq (xsz_set hc hw)) k.2⟩
theorem xLs.app {w : xW} {n z m : Nat} {c : xC} (k : xLs w n z) (hc : xcs c = m) : xLs (w ++ [c]) (n + 1) (z + m) :=
  ⟨Nat.le_trans (Nat.le_of_eq (by rw [List.length_append]; rfl)) (Nat.succ_le_succ k.1), by rw [xsz_push, hc]; exact Nat.add_le_add_right k.2 m⟩
