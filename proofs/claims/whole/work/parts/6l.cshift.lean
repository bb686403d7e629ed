/-! a natural times a power of two: words of the value; setShifted -/
theorem lowz (t : Int) : (Int32.ofInt t).toInt64 &&& (4294967295 : Int64) = Int64.ofInt (t % 4294967296) := by
  rw [lowq]
  congr 1
  have := xun_m t
  omega
theorem lowcw {s : Nat → Int} {j : Nat} : (Int32.ofInt (s j)).toInt64 &&& (4294967295 : Int64) = Int64.ofInt (cw s j : Nat) := by rw [lowq, cw_un]
theorem bfn_lt {v : Nat} {p : Int} : bfn v p < 4294967296 := Nat.mod_lt _ (by decide)
theorem lowbf {v : Nat} {p : Int} : (Int32.ofInt (bfn v p : Nat)).toInt64 &&& (4294967295 : Int64) = Int64.ofInt (bfn v p : Nat) := by
  rw [lowq]
  congr 1
  have h1 := xun_m (bfn v p : Nat)
  have h2 := bfn_lt (v := v) (p := p)
  omega
/-- 32 bits hang on the words that they lie in -/
theorem bfn_ag {s s' : Nat → Int} {m : Nat} {p : Int} (h : ∀ q : Nat, ((q : Int) = p / 32 ∨ (p % 32 ≠ 0 ∧ (q : Int) = p / 32 + 1)) → s q = s' q) : bfn (cv s m) p = bfn (cv s' m) p := by
  have wa : ∀ i : Int, (∀ q : Nat, (q : Int) = i → s q = s' q) → wat (cv s m) i = wat (cv s' m) i := by
    intro i hi
    by_cases g : 0 ≤ i ∧ i < m
    · rw [← wat_in g.1 g.2, ← wat_in g.1 g.2]
      unfold cw
      rw [hi i.toNat (by omega)]
    · rw [wat_out (by omega), wat_out (by omega)]
  by_cases g : p % 32 = 0
  · rw [bfn_0 g, bfn_0 g]
    exact wa _ (fun q hq => h q (Or.inl hq))
  · rw [bfn_s (v := cv s m) (b := (p % 32).toNat) (by omega) (by omega), bfn_s (v := cv s' m) (b := (p % 32).toNat) (by omega) (by omega), wa _ (fun q hq => h q (Or.inl hq)), wa _ (fun q hq => h q (Or.inr ⟨g, hq⟩))]
def shf (u : Nat) (k : Int) : Nat := if 0 ≤ k then u * 2 ^ k.toNat else u / 2 ^ (-k).toNat
theorem bfn_sh {u j : Nat} {k : Int} : bfn u (32 * (j : Int) - k) = shf u k / 2 ^ (32 * j) % 4294967296 := by
  unfold bfn shf
  congr 1
  by_cases g : 0 ≤ k
  · rw [if_pos g]
    by_cases g2 : 0 ≤ 32 * (j : Int) - k
    · rw [if_pos g2, show 32 * j = (32 * (j : Int) - k).toNat + k.toNat by omega, Nat.pow_add, Nat.mul_div_mul_right _ _ (Nat.two_pow_pos _)]
    · rw [if_neg g2, show k.toNat = (-(32 * (j : Int) - k)).toNat + 32 * j by omega, Nat.pow_add, ← Nat.mul_assoc, Nat.mul_div_cancel _ (Nat.two_pow_pos _)]
  · rw [if_neg g, if_pos (by omega), Nat.div_div_eq_div_mul, ← Nat.pow_add, show (-k).toNat + 32 * j = (32 * (j : Int) - k).toNat by omega]
theorem cv_of {s : Nat → Int} {X n : Nat} (h : ∀ j, j < n → cw s j = X / 2 ^ (32 * j) % 4294967296) : cv s n = X % 2 ^ (32 * n) := by
  induction n with
  | zero => exact (Nat.mod_one X).symm
  | succ n ih =>
    show cv s n + cw s n * 2 ^ (32 * n) = _
    rw [ih (fun j hj => h j (by omega)), h n (by omega), show 32 * (n + 1) = 32 * n + 32 by omega, Nat.pow_add, Nat.mod_mul, Nat.mul_comm (2 ^ (32 * n))]
theorem shf_bl {u : Nat} {k : Int} (hu : u ≠ 0) : (xbl (shf u k) : Int) = max 0 ((xbl u : Int) + k) := by
  unfold shf
  split
  · rw [xbl_pow _ _ hu]; omega
  · rw [xbl_div]; omega
theorem cv_all {s : Nat → Int} {X n : Nat} (hn : n = (xbl X + 31) / 32) (h : ∀ j, j < n → cw s j = X / 2 ^ (32 * j) % 4294967296) : cv s n = X ∧ (n = 0 ∨ cw s (n - 1) ≠ 0) := by
  have hlt : X < 2 ^ (32 * n) := by
    by_cases g : X = 0
    · subst g; exact Nat.two_pow_pos _
    · exact Nat.lt_of_lt_of_le (xbl_of g).2.1 (Nat.pow_le_pow_right (by decide) (by omega))
  refine ⟨by rw [cv_of h, Nat.mod_eq_of_lt hlt], ?_⟩
  by_cases g : X = 0
  · left; subst g; rw [xbl_zero] at hn; omega
  · right
    have hx := (xbl_of g).2.2
    have hn0 : 0 < n := by omega
    rw [h (n - 1) (by omega)]
    have h4 : 2 ^ (32 * (n - 1)) ≤ X := Nat.le_trans (Nat.pow_le_pow_right (by decide) (by omega)) (xbl_of g).1
    have h5 : 0 < X / 2 ^ (32 * (n - 1)) := Nat.div_pos h4 (Nat.two_pow_pos _)
    have h6 : X / 2 ^ (32 * (n - 1)) < 4294967296 := by
      rw [Nat.div_lt_iff_lt_mul (Nat.two_pow_pos _), show (4294967296 : Nat) = 2 ^ 32 from rfl, ← Nat.pow_add, show 32 + 32 * (n - 1) = 32 * n by omega]
      exact hlt
    rw [Nat.mod_eq_of_lt h6]
    omega
section
variable {w0 w : xW} {L Z : Nat} {A C B : Nat → Nat} {S S0 : Nat → Nat → Int} {V : Nat → Nat} {h h2 r d : Nat} {v k : Int}
theorem shd_loop (hc : kd h = 3) (hc2 : kd h2 = 3) {u m ln : Nat} (k0 : -1000000000 ≤ k ∧ k ≤ 1000000) (hk : 0 ≤ k) (hm : m ≤ C h2) {Q : Option Value ⊕ Nat → xW → Prop} : ∀ (t : Nat) {lv : xLv} {w : xW} {S : Nat → Nat → Int}, cR w0 L Z A C B S w → S h2 1 = m → t ≤ C h → (∀ j : Nat, j < t → bfn (cv (S (h2 + 1)) m) (32 * (j : Int) - k) = bfn u (32 * (j : Int) - k)) → (xld lv 0 = some (.ref h)) → (xld lv 1 = some (.ref h2)) → (xld lv 2 = some (.int (Int32.ofInt k))) → (xld lv 3 = some (.int (Int32.ofInt (ln : Int)))) → (xld lv 4 = some (.int (Int32.ofInt ((t : Int) + (-1))))) →
    (∀ lv' w' S', cR w0 L Z A C B S' w' → (∀ b j, b ≠ h + 1 ∨ t ≤ j → S' b j = S b j) → (∀ j : Nat, j < t → S' (h + 1) j = (bfn u (32 * (j : Int) - k) : Nat)) → xld lv' 0 = some (.ref h) → xld lv' 3 = some (.int (Int32.ofInt (ln : Int))) → xEv (d + 1) 42 106 lv' [] w' Q) → xEv (d + 1) 42 41 lv [] w Q := by
  have hz : h2 ≠ h + 1 := fun g => by have := kd_c hc; rw [← g] at this; omega
  intro t
  induction t with
  | zero =>
    intro lv w S hR m1 ht hI l0 l1 l2 l3 l4 hQ
    refine i_42_41 l4 ?_
    refine i_42_43 (fun _ => ?_) (fun g => absurd g (by decide))
    refine i_42_70 ?_
    exact hQ lv w S hR (fun _ _ _ => rfl) (fun j hj => absurd hj (Nat.not_lt_zero j)) l0 l3
  | succ t ih =>
    intro lv w S hR m1 ht hI l0 l1 l2 l3 l4 hQ
    have hcap := hR.cap hc
    have hcap2 := hR.cap hc2
    rw [show ((t + 1 : Nat) : Int) + (-1) = (t : Int) by omega] at l4
    refine i_42_41 (x := Int32.ofInt (t : Int)) l4 ?_
    refine i_42_43 (z_lt (a := (t : Int)) ⟨by omega, by omega⟩ fun c0 => absurd c0 (by omega)) (z_ge (a := (t : Int)) ⟨by omega, by omega⟩ fun c0 => ?_)
    refine i_42_46 (x := h) l0 ?_
    refine i_42_47 (v := Value.ref (A h)) (hR.n3 hc) rfl ?_
    refine i_42_50 (x := Int32.ofInt (t : Int)) l4 ?_
    refine i_42_52 (x := h2) l1 ?_
    refine i_42_53 ?_
    refine i_42_55 (x := Int32.ofInt (t : Int)) l4 ?_
    refine i_42_57 (c := Int32.ofInt (32 * (t : Int))) (o_mul 32 (t : Int)) ?_
    refine i_42_58 (x := Int32.ofInt k) l2 ?_
    refine i_42_59 (c := Int32.ofInt ((32 * (t : Int)) - k)) (o_sub (32 * (t : Int)) k) ?_
    have hobj := hR.n3 hc2
    have hrun := c_bf (d := d) (p := (32 * (t : Int)) - k) hR hc2 m1 hm ⟨by omega, by omega⟩
    rw [hI t (by omega)] at hrun
    refine i_42_60 hobj (Nat.le_of_ble_eq_true rfl) hrun ?_
    refine i_42_63 (hR.w3 hc) (ix0 (T := (t : Int)) (by omega) (by omega)) (ix1 (T := (t : Int)) (by omega) (by omega) (by omega)) (hR.apart hc).2.2.2.2.1 rfl ?_
    rw [ixn (T := (t : Int)) (by omega) (by omega), show ((t : Int)).toNat = t from rfl]
    refine xgen (P := cR w0 L Z A C B (u2 S (h + 1) t (bfn u ((32 * (t : Int)) - k) : Int))) (hR.arr hc rfl) (fun w hR => ?_)
    replace m1 : (u2 S (h + 1) t (bfn u ((32 * (t : Int)) - k) : Int)) h2 1 = ((m : Nat) : Int) := by rw [u2_n (by omega)]; exact m1
    refine i_42_64 (x := (Int32.ofInt (t : Int))) (c := (Int32.ofInt ((t : Int) + (-1)))) l4 (o_dec (t : Int)) rfl ?_
    refine lgen1 (i := 4) (v := Value.int (Int32.ofInt ((t : Int) + (-1)))) (fun lv lg ls => ?_)
    replace l0 := lg 0 _ rfl rfl l0
    replace l1 := lg 1 _ rfl rfl l1
    replace l2 := lg 2 _ rfl rfl l2
    replace l3 := lg 3 _ rfl rfl l3
    have l4 := ls
    refine i_42_67 ?_
    refine ih hR m1 (by omega) (fun j hj => ?_) l0 l1 l2 l3 l4 (fun lv' w' S' q1 q2 q3 q4 q5 => ?_)
    · rw [← hI j (by omega)]
      exact bfn_ag (fun q hq => by rw [u2_eq, if_neg (by omega)])
    · refine hQ lv' w' S' q1 (fun b j hb => by rw [q2 b j (by omega), u2_eq, if_neg (by omega)]) (fun j hj => ?_) q4 q5
      by_cases e : j = t
      · subst e; rw [q2 _ _ (by omega), u2_eq, if_pos ⟨rfl, rfl⟩]
      · exact q3 j (by omega)
theorem shu_loop (hc : kd h = 3) (hc2 : kd h2 = 3) {u m ln : Nat} (k0 : -1000000000 ≤ k ∧ k ≤ 1000000) (hk : k < 0) (hm : m ≤ C h2) (hln : ln ≤ C h) {Q : Option Value ⊕ Nat → xW → Prop} : ∀ (t : Nat) {i : Nat} {lv : xLv} {w : xW} {S : Nat → Nat → Int}, cR w0 L Z A C B S w → S h2 1 = m → i + t = ln → (∀ j : Nat, i ≤ j → j < ln → bfn (cv (S (h2 + 1)) m) (32 * (j : Int) - k) = bfn u (32 * (j : Int) - k)) → (xld lv 0 = some (.ref h)) → (xld lv 1 = some (.ref h2)) → (xld lv 2 = some (.int (Int32.ofInt k))) → (xld lv 3 = some (.int (Int32.ofInt (ln : Int)))) → (xld lv 4 = some (.int (Int32.ofInt (i : Int)))) →
    (∀ lv' w' S', cR w0 L Z A C B S' w' → (∀ b j, b ≠ h + 1 ∨ ln ≤ j ∨ j < i → S' b j = S b j) → (∀ j : Nat, i ≤ j → j < ln → S' (h + 1) j = (bfn u (32 * (j : Int) - k) : Nat)) → xld lv' 0 = some (.ref h) → xld lv' 3 = some (.int (Int32.ofInt (ln : Int))) → xEv (d + 1) 42 106 lv' [] w' Q) → xEv (d + 1) 42 76 lv [] w Q := by
  have hz : h2 ≠ h + 1 := fun g => by have := kd_c hc; rw [← g] at this; omega
  intro t
  induction t with
  | zero =>
    intro i lv w S hR m1 ht hI l0 l1 l2 l3 l4 hQ
    have hcap := hR.cap hc
    have e : i = ln := by omega
    subst e
    refine i_42_76 l4 ?_
    refine i_42_78 l3 ?_
    refine i_42_79 (fun _ => ?_) (fun g => absurd g (by omega))
    exact hQ lv w S hR (fun _ _ _ => rfl) (fun j h1 h2 => absurd h1 (by omega)) l0 l3
  | succ t ih =>
    intro i lv w S hR m1 ht hI l0 l1 l2 l3 l4 hQ
    have hcap := hR.cap hc
    have hcap2 := hR.cap hc2
    refine i_42_76 (x := Int32.ofInt (i : Int)) l4 ?_
    refine i_42_78 (x := Int32.ofInt (ln : Int)) l3 ?_
    refine i_42_79 (b_le (a := (ln : Int)) (b := (i : Int)) ⟨by omega, by omega⟩ ⟨by omega, by omega⟩ fun c0 => absurd c0 (by omega)) (b_lt (a := (i : Int)) (b := (ln : Int)) ⟨by omega, by omega⟩ ⟨by omega, by omega⟩ fun c0 => ?_)
    refine i_42_82 (x := h) l0 ?_
    refine i_42_83 (v := Value.ref (A h)) (hR.n3 hc) rfl ?_
    refine i_42_86 (x := Int32.ofInt (i : Int)) l4 ?_
    refine i_42_88 (x := h2) l1 ?_
    refine i_42_89 ?_
    refine i_42_91 (x := Int32.ofInt (i : Int)) l4 ?_
    refine i_42_93 (c := Int32.ofInt (32 * (i : Int))) (o_mul 32 (i : Int)) ?_
    refine i_42_94 (x := Int32.ofInt k) l2 ?_
    refine i_42_95 (c := Int32.ofInt ((32 * (i : Int)) - k)) (o_sub (32 * (i : Int)) k) ?_
    have hobj := hR.n3 hc2
    have hrun := c_bf (d := d) (p := (32 * (i : Int)) - k) hR hc2 m1 hm ⟨by omega, by omega⟩
    rw [hI i (by omega) (by omega)] at hrun
    refine i_42_96 hobj (Nat.le_of_ble_eq_true rfl) hrun ?_
    refine i_42_99 (hR.w3 hc) (ix0 (T := (i : Int)) (by omega) (by omega)) (ix1 (T := (i : Int)) (by omega) (by omega) (by omega)) (hR.apart hc).2.2.2.2.1 rfl ?_
    rw [ixn (T := (i : Int)) (by omega) (by omega), show ((i : Int)).toNat = i from rfl]
    refine xgen (P := cR w0 L Z A C B (u2 S (h + 1) i (bfn u ((32 * (i : Int)) - k) : Int))) (hR.arr hc rfl) (fun w hR => ?_)
    replace m1 : (u2 S (h + 1) i (bfn u ((32 * (i : Int)) - k) : Int)) h2 1 = ((m : Nat) : Int) := by rw [u2_n (by omega)]; exact m1
    refine i_42_100 (x := (Int32.ofInt (i : Int))) (c := (Int32.ofInt ((i : Int) + 1))) l4 (o_add (i : Int) 1) rfl ?_
    refine lgen1 (i := 4) (v := Value.int (Int32.ofInt ((i : Int) + 1))) (fun lv lg ls => ?_)
    replace l0 := lg 0 _ rfl rfl l0
    replace l1 := lg 1 _ rfl rfl l1
    replace l2 := lg 2 _ rfl rfl l2
    replace l3 := lg 3 _ rfl rfl l3
    have l4 := ls
    refine i_42_103 ?_
    refine ih (i := i + 1) hR m1 (by omega) (fun j hj hj2 => ?_) l0 l1 l2 l3 l4 (fun lv' w' S' q1 q2 q3 q4 q5 => ?_)
    · rw [← hI j (by omega) hj2]
      exact bfn_ag (fun q hq => by rw [u2_eq, if_neg (by omega)])
    · refine hQ lv' w' S' q1 (fun b j hb => by rw [q2 b j (by omega), u2_eq, if_neg (by omega)]) (fun j hj hj2 => ?_) q4 q5
      by_cases e : j = i
      · subst e; rw [q2 _ _ (by omega), u2_eq, if_pos ⟨rfl, rfl⟩]
      · exact q3 j (by omega) hj2
end
