theorem xcs_o {ci : Nat} {A B : List Value} : xcs (Sum.inr (ci, A)) = xcs (Sum.inr (ci, B)) := rfl
theorem xcs_a {t n : Nat} {f g : Nat → Value} : xcs (Sum.inl (t, n, f)) = xcs (Sum.inl (t, n, g)) := rfl
theorem xz_set {w : xW} {h n : Nat} {c c2 : xC} (hz : xsz w = n) (hw : w[h]? = some c) (hc : xcs c2 = xcs c) : xsz (w.set h c2) = n := by rw [xsz_set hc hw]; exact hz
theorem xz_app {w : xW} {n m : Nat} {c : xC} (hz : xsz w = n) (hc : xcs c = m) : xsz (w ++ [c]) = n + m := by rw [xsz_push, hz, hc]
theorem xadd_i {x y : Int32} (h0 : -2147483648 ≤ x.toInt + y.toInt) (h1 : x.toInt + y.toInt < 2147483648) : (x + y).toInt = x.toInt + y.toInt := by
  rw [Int32.toInt_add, Int.bmod_eq_of_le (by omega) (by omega)]
theorem xsub_i {x y : Int32} (h0 : -2147483648 ≤ x.toInt - y.toInt) (h1 : x.toInt - y.toInt < 2147483648) : (x - y).toInt = x.toInt - y.toInt := by
  rw [Int32.toInt_sub, Int.bmod_eq_of_le (by omega) (by omega)]
