/-! quotients and remainders of ints; floorMod, floorDiv, abs; rooted of the reference -/
theorem o_tdiv {a b : Int} (ha : -2147483648 ≤ a ∧ a < 2147483648) (hb : 0 < b ∧ b < 2147483648) : Int32.ofInt a / Int32.ofInt b = Int32.ofInt (Int.tdiv a b) :=
  (Int32.ofInt_tdiv (by show (-2147483648 : Int) ≤ a; omega) (by show a ≤ (2147483647 : Int); omega) (by show (-2147483648 : Int) ≤ b; omega) (by show b ≤ (2147483647 : Int); omega)).symm
theorem o_tmod {a b : Int} (ha : -2147483648 ≤ a ∧ a < 2147483648) (hb : 0 < b ∧ b < 2147483648) : Int32.ofInt a - Int32.ofInt a / Int32.ofInt b * Int32.ofInt b = Int32.ofInt (Int.tmod a b) := by
  rw [o_tdiv ha hb, o_mul, o_sub, Int.tmod_def, Int.mul_comm]
section
variable {a b : Int} {P : Prop}
theorem xr_i (ha : -2147483648 ≤ a ∧ a < 2147483648) (hb : 0 < b ∧ b < 2147483648) : (Int32.ofInt a ^^^ Int32.ofInt b).toInt < 0 ↔ a < 0 := by
  have h1 : decide ((Int32.ofInt a ^^^ Int32.ofInt b).toInt < 0) = (decide ((Int32.ofInt a).toInt < 0) ^^ decide ((Int32.ofInt b).toInt < 0)) := by
    have e : ∀ x : Int32, decide (x.toInt < 0) = x.toBitVec.msb := fun x => BitVec.msb_eq_toInt.symm
    rw [e, e, e]
    exact BitVec.msb_xor
  rw [oI ha.1 ha.2, oI (by omega) hb.2, decide_eq_false (show ¬ b < 0 by omega), Bool.xor_false] at h1
  exact decide_eq_decide.mp h1
theorem xr_ge (ha : -2147483648 ≤ a ∧ a < 2147483648) (hb : 0 < b ∧ b < 2147483648) (k : 0 ≤ a → P) : 0 ≤ (Int32.ofInt a ^^^ Int32.ofInt b).toInt → P := fun h => k (by have := xr_i ha hb; omega)
theorem xr_lt (ha : -2147483648 ≤ a ∧ a < 2147483648) (hb : 0 < b ∧ b < 2147483648) (k : a < 0 → P) : (Int32.ofInt a ^^^ Int32.ofInt b).toInt < 0 → P := fun h => k (by have := xr_i ha hb; omega)
end
theorem tmod_b {a b : Int} (hb : 0 < b) : -b ≤ Int.tmod a b ∧ Int.tmod a b < b := by
  refine ⟨?_, Int.tmod_lt_of_pos a hb⟩
  have h := Int.tmod_eq_emod (a := a) (b := b)
  have h0 := Int.emod_nonneg a (show b ≠ 0 by omega)
  split at h <;> omega
theorem tmod_e {a b : Int} (hb : 0 < b) : (0 ≤ a → Int.tmod a b = a % b) ∧ (Int.tmod a b = 0 → a % b = 0) ∧ (a < 0 → Int.tmod a b ≠ 0 → Int.tmod a b + b = a % b) := by
  have h := Int.tmod_eq_emod (a := a) (b := b)
  refine ⟨fun h0 => by rw [h, if_pos (Or.inl h0)]; omega, fun h0 => Int.emod_eq_zero_of_dvd (Int.dvd_of_tmod_eq_zero h0), fun h0 h1 => ?_⟩
  have hnd : ¬ (0 ≤ a ∨ b ∣ a) := by
    rintro (h2 | h2)
    · omega
    · exact h1 (Int.tmod_eq_zero_of_dvd h2)
  rw [h, if_neg hnd]
  omega
theorem s_fmod {d : Nat} {w : xW} {a b : Int} (ha : -1073741824 ≤ a ∧ a < 1073741824) (hb : 0 < b ∧ b < 1073741824) : xRun (d + 1) 276 [.int (Int32.ofInt a), .int (Int32.ofInt b)] w (.inl (some (.int (Int32.ofInt (a % b))))) w := by
  have te := tmod_e (a := a) hb.1
  have tb := tmod_b (a := a) hb.1
  have key : xEv (d + 1) 276 0 (lv_args 0 [.int (Int32.ofInt a), .int (Int32.ofInt b)]) [] w (fun o w' => o = .inl (some (.int (Int32.ofInt (a % b)))) ∧ w' = w) := by
    refine i_276_0 (x := Int32.ofInt a) rfl ?_
    refine i_276_1 (x := Int32.ofInt b) rfl ?_
    refine i_276_2 (c := Int32.ofInt (Int.tmod a b)) (o_nz (b := b) ⟨by omega, by omega⟩) (o_tmod (a := a) (b := b) ⟨by omega, by omega⟩ ⟨by omega, by omega⟩) ?_
    refine i_276_3 (lv2 := [(2, Value.int (Int32.ofInt (Int.tmod a b))), (0, Value.int (Int32.ofInt a)), (1, Value.int (Int32.ofInt b))]) rfl ?_
    refine i_276_4 (x := Int32.ofInt a) rfl ?_
    refine i_276_5 (x := Int32.ofInt b) rfl ?_
    refine i_276_6 rfl ?_
    refine i_276_7 (xr_ge (a := a) (b := b) ⟨by omega, by omega⟩ ⟨by omega, by omega⟩ fun c0 => ?_) (xr_lt (a := a) (b := b) ⟨by omega, by omega⟩ ⟨by omega, by omega⟩ fun c0 => ?_)
    · refine i_276_18 (x := Int32.ofInt (Int.tmod a b)) rfl ?_
      refine i_276_19 ?_
      have e : a % b = Int.tmod a b := by first | exact (te.1 (by omega)).symm | exact (te.2.2 (by omega) (by omega)).symm | (rw [te.2.1 (by omega)]; omega)
      rw [e]
      exact ⟨rfl, rfl⟩
    · refine i_276_10 (x := Int32.ofInt (Int.tmod a b)) rfl ?_
      refine i_276_11 (z_eq (a := Int.tmod a b) ⟨by omega, by omega⟩ fun c1 => ?_) (z_ne (a := Int.tmod a b) ⟨by omega, by omega⟩ fun c1 => ?_)
      · refine i_276_18 (x := Int32.ofInt (Int.tmod a b)) rfl ?_
        refine i_276_19 ?_
        have e : a % b = Int.tmod a b := by first | exact (te.1 (by omega)).symm | exact (te.2.2 (by omega) (by omega)).symm | (rw [te.2.1 (by omega)]; omega)
        rw [e]
        exact ⟨rfl, rfl⟩
      · refine i_276_14 (x := Int32.ofInt (Int.tmod a b)) rfl ?_
        refine i_276_15 (x := Int32.ofInt b) rfl ?_
        refine i_276_16 (c := Int32.ofInt ((Int.tmod a b) + b)) (o_add (Int.tmod a b) b) ?_
        refine i_276_17 ?_
        have e : a % b = (Int.tmod a b) + b := by first | exact (te.1 (by omega)).symm | exact (te.2.2 (by omega) (by omega)).symm | (rw [te.2.1 (by omega)]; omega)
        rw [e]
        exact ⟨rfl, rfl⟩
  obtain ⟨o, w', h1, rfl, h2⟩ := key.run
  subst h2; exact h1
theorem s_abs {d : Nat} {w : xW} {a : Int} (ha : -1073741824 ≤ a ∧ a < 1073741824) : xRun (d + 1) 274 [.int (Int32.ofInt a)] w (.inl (some (.int (Int32.ofInt (a.natAbs : Int))))) w := by
  have key : xEv (d + 1) 274 0 (lv_args 0 [.int (Int32.ofInt a)]) [] w (fun o w' => o = .inl (some (.int (Int32.ofInt (a.natAbs : Int)))) ∧ w' = w) := by
    refine i_274_0 (x := Int32.ofInt a) rfl ?_
    refine i_274_1 (z_ge (a := a) ⟨by omega, by omega⟩ fun c0 => ?_) (z_lt (a := a) ⟨by omega, by omega⟩ fun c0 => ?_)
    · refine i_274_9 (x := Int32.ofInt a) rfl ?_
      refine i_274_10 ?_
      have e : (a.natAbs : Int) = a := by omega
      rw [e]
      exact ⟨rfl, rfl⟩
    · refine i_274_4 (x := Int32.ofInt a) rfl ?_
      refine i_274_5 (c := Int32.ofInt (-a)) (o_neg a) ?_
      refine i_274_6 ?_
      refine i_274_10 ?_
      have e : (a.natAbs : Int) = -a := by omega
      rw [e]
      exact ⟨rfl, rfl⟩
  obtain ⟨o, w', h1, rfl, h2⟩ := key.run
  subst h2; exact h1
theorem ro_more {d : Nat} {w : xW} {r e n sg mode : Int} {Q : Option Value ⊕ Nat → xW → Prop} (he : -1000000 ≤ e ∧ e ≤ 1000000) (hn : 1 ≤ n ∧ n ≤ 32) (k : Nat) : ∀ (mo : Int) (lv : xLv), 0 ≤ mo → mo + k ≤ 1000000 → (e - mo) % n = k → xld lv 0 = some (Value.ref 128) → xld lv 1 = some (Value.int (Int32.ofInt r)) → xld lv 2 = some (Value.int (Int32.ofInt e)) → xld lv 3 = some (Value.int (Int32.ofInt n)) → xld lv 4 = some (Value.int (Int32.ofInt sg)) → xld lv 5 = some (Value.int (Int32.ofInt mode)) → xld lv 6 = some (Value.int (Int32.ofInt mo)) → (∀ lv, xld lv 0 = some (Value.ref 128) → xld lv 1 = some (Value.int (Int32.ofInt r)) → xld lv 2 = some (Value.int (Int32.ofInt e)) → xld lv 3 = some (Value.int (Int32.ofInt n)) → xld lv 4 = some (Value.int (Int32.ofInt sg)) → xld lv 5 = some (Value.int (Int32.ofInt mode)) → xld lv 6 = some (Value.int (Int32.ofInt (mo + k))) → xEv (d + 2) 204 41 lv [] w Q) → xEv (d + 2) 204 24 lv [] w Q := by
  induction k with
  | zero =>
    intro mo lv hm0 hm1 hmod l0 l1 l2 l3 l4 l5 l6 hQ
    have hlt := Int.emod_lt_of_pos (e - mo) (show 0 < n by omega)
    refine i_204_24 (x := Int32.ofInt e) l2 ?_
    refine i_204_25 (x := Int32.ofInt mo) l6 ?_
    refine i_204_27 (c := Int32.ofInt (e - mo)) (o_sub e mo) ?_
    refine i_204_28 (x := Int32.ofInt n) l3 ?_
    have hrun := s_fmod (d := d + 0) (w := w) (a := e - mo) (b := n) (by omega) (by omega)
    refine i_204_29 (Nat.le_of_ble_eq_true rfl) hrun ?_
    refine i_204_32 (z_eq (a := (e - mo) % n) ⟨by omega, by omega⟩ fun c0 => ?_) (z_ne (a := (e - mo) % n) ⟨by omega, by omega⟩ fun c0 => absurd c0 (by omega))
    exact hQ _ l0 l1 l2 l3 l4 l5 (by rw [show mo + ((0 : Nat) : Int) = mo by omega]; exact l6)
  | succ k ih =>
    intro mo lv hm0 hm1 hmod l0 l1 l2 l3 l4 l5 l6 hQ
    have hlt := Int.emod_lt_of_pos (e - mo) (show 0 < n by omega)
    refine i_204_24 (x := Int32.ofInt e) l2 ?_
    refine i_204_25 (x := Int32.ofInt mo) l6 ?_
    refine i_204_27 (c := Int32.ofInt (e - mo)) (o_sub e mo) ?_
    refine i_204_28 (x := Int32.ofInt n) l3 ?_
    have hrun := s_fmod (d := d + 0) (w := w) (a := e - mo) (b := n) (by omega) (by omega)
    refine i_204_29 (Nat.le_of_ble_eq_true rfl) hrun ?_
    refine i_204_32 (z_eq (a := (e - mo) % n) ⟨by omega, by omega⟩ fun c0 => absurd c0 (by omega)) (z_ne (a := (e - mo) % n) ⟨by omega, by omega⟩ fun c0 => ?_)
    refine i_204_35 (x := (Int32.ofInt mo)) (c := (Int32.ofInt (mo + 1))) l6 (o_add mo 1) rfl ?_
    refine lgen1 (i := 6) (v := Value.int (Int32.ofInt (mo + 1))) (fun lv lg ls => ?_)
    replace l0 := lg 0 _ rfl rfl l0
    replace l1 := lg 1 _ rfl rfl l1
    replace l2 := lg 2 _ rfl rfl l2
    replace l3 := lg 3 _ rfl rfl l3
    replace l4 := lg 4 _ rfl rfl l4
    replace l5 := lg 5 _ rfl rfl l5
    have l6 := ls
    refine i_204_38 ?_
    have hd : (e - (mo + 1)) % n = (k : Int) := by
      have e1 : e - (mo + 1) = (k : Int) + n * ((e - mo) / n) := by have := Int.emod_add_mul_ediv (e - mo) n; omega
      have hlt := Int.emod_lt_of_pos (e - mo) (show 0 < n by omega)
      rw [e1, Int.add_mul_emod_self_left, Int.emod_eq_of_lt (by omega) (by omega)]
    exact ih _ _ (by omega) (by omega) hd l0 l1 l2 l3 l4 l5 l6 (fun lv l0 l1 l2 l3 l4 l5 l6 => hQ lv l0 l1 l2 l3 l4 l5 (by rw [show mo + ((k + 1 : Nat) : Int) = mo + 1 + (k : Int) by omega]; exact l6))
