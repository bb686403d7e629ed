/-! divideBy of the class's naturals -/
theorem q_or32 {y c : Nat} (hy : y < 4294967296) (hc : c < 4294967296) : Int64.ofInt ((y * 2 ^ 32 : Nat) : Int) ||| Int64.ofInt (c : Int) = Int64.ofInt ((y * 4294967296 + c : Nat) : Int) := by
  apply xul_inj
  have e1 : xul (Int64.ofInt ((y * 2 ^ 32 : Nat) : Int)) = 2 ^ 32 * y := by rw [xul_o (by omega) (by omega)]; omega
  have e2 : xul (Int64.ofInt (c : Int)) = c := by rw [xul_o (by omega) (by omega)]; rfl
  have e3 : xul (Int64.ofInt ((y * 4294967296 + c : Nat) : Int)) = y * 4294967296 + c := by rw [xul_o (by omega) (by omega)]; rfl
  have e4 : xul (Int64.ofInt ((y * 2 ^ 32 : Nat) : Int) ||| Int64.ofInt (c : Int)) = xul (Int64.ofInt ((y * 2 ^ 32 : Nat) : Int)) ||| xul (Int64.ofInt (c : Int)) := rfl
  rw [e4, e1, e2, e3, ← Nat.two_pow_add_eq_or_of_lt hc]
  omega
theorem q_remN {x dv : Nat} (hx : x < 9223372036854775808) (hd : 0 < dv ∧ dv < 2147483648) : Int64.ofInt (x : Int) - Int64.ofInt (x : Int) / Int64.ofInt (dv : Int) * Int64.ofInt (dv : Int) = Int64.ofInt ((x % dv : Nat) : Int) := by
  rw [q_div ⟨by omega, by omega⟩ ⟨by omega, by omega⟩, q_mul, q_sub]
  congr 1
  have e1 : ((x % dv : Nat) : Int) = (x : Int) % (dv : Int) := by first | exact Int.natCast_emod x dv | exact Int.natCast_mod x dv | simp
  rw [e1, Int.emod_def, Int.mul_comm]
/-- one word set anew -/
theorem cv_up {s : Nat → Int} {n i : Nat} {z : Int} (hi : i < n) : cv (u1 s i z) n + cw s i * 2 ^ (32 * i) = cv s n + (z % 4294967296).toNat * 2 ^ (32 * i) := by
  have h1 := cv_tail (s := u1 s i z) (s0 := s) (i := i + 1) (n := n) (fun j hj => u1_n (by omega)) (by omega)
  have h2 : cv (u1 s i z) (i + 1) = cv s i + (z % 4294967296).toNat * 2 ^ (32 * i) := by
    show cv (u1 s i z) i + cw (u1 s i z) i * 2 ^ (32 * i) = _
    rw [cv_same (g' := s) (fun j hj => u1_n (by omega))]
    unfold cw
    rw [u1_s]
  have h3 : cv s (i + 1) = cv s i + cw s i * 2 ^ (32 * i) := rfl
  omega
theorem div_alg {N N' c0 c q dv y y' P u x : Nat} (hN : N' + c * P = N + q * P) (h : (N - (c0 + c * P)) * dv + y * (4294967296 * P) + (c0 + c * P) = u) (hle : c0 + c * P ≤ N) (hx : x = y * 4294967296 + c) (hq : q * dv + y' = x) : (N' - c0) * dv + y' * P + c0 = u ∧ c0 ≤ N' := by
  have hle' : c0 ≤ N' := by omega
  refine ⟨?_, hle'⟩
  obtain ⟨D, hD⟩ : ∃ D, N = D + (c0 + c * P) := ⟨N - (c0 + c * P), by omega⟩
  have e1 : N' = D + q * P + c0 := by omega
  rw [show N - (c0 + c * P) = D by omega] at h
  rw [show N' - c0 = D + q * P by omega, Nat.add_mul]
  have e2 : q * P * dv = q * dv * P := Nat.mul_right_comm _ _ _
  have e3 : (q * dv + y') * P = (y * 4294967296 + c) * P := by rw [hq, hx]
  rw [Nat.add_mul, Nat.add_mul, Nat.mul_assoc y] at e3
  omega
section
variable {w0 w : xW} {L Z : Nat} {A C B : Nat → Nat} {S S0 : Nat → Nat → Int} {V : Nat → Nat} {h h2 k r d : Nat} {v : Int}
theorem dv_loop (hc : kd h = 3) {n dv u : Nat} {s0 : Nat → Int} (hd : 0 < dv ∧ dv < 2147483648) (hn : n ≤ C h) {Q : Option Value ⊕ Nat → xW → Prop} : ∀ (t : Nat) {y : Nat} {lv : xLv} {w : xW} {S : Nat → Nat → Int}, cR w0 L Z A C B S w → S h 1 = n → y < dv → t ≤ n → (∀ j, j < t → S (h + 1) j = s0 j) → (cv (S (h + 1)) n - cv s0 t) * dv + y * 2 ^ (32 * t) + cv s0 t = u → cv s0 t ≤ cv (S (h + 1)) n → xld lv 0 = some (.ref h) → xld lv 1 = some (.int (Int32.ofInt (dv : Int))) → xld lv 2 = some (.long (Int64.ofInt (y : Int))) → xld lv 4 = some (.int (Int32.ofInt ((t : Int) + (-1)))) →
    (∀ lv' y' w' S', cR w0 L Z A C B S' w' → S' h 1 = n → (∀ b j, b ≠ h + 1 → S' b j = S b j) → y' < dv → cv (S' (h + 1)) n * dv + y' = u → xld lv' 0 = some (.ref h) → xld lv' 2 = some (.long (Int64.ofInt ((y' : Nat) : Int))) → xEv d 88 62 lv' [] w' Q) → xEv d 88 16 lv [] w Q := by
  intro t
  induction t with
  | zero =>
    intro y lv w S hR n1 hy hi hs0 hv hle l0 l1 l2 l4 hQ
    refine i_88_16 l4 ?_
    refine i_88_18 (fun _ => ?_) (fun g => absurd g (by decide))
    have e : cv (S (h + 1)) n * dv + y = u := by
      rw [← hv]
      show _ = (cv (S (h + 1)) n - 0) * dv + y * 1 + 0
      rw [Nat.sub_zero, Nat.mul_one]
      omega
    exact hQ lv y w S hR n1 (fun _ _ _ => rfl) hy e l0 l2
  | succ t ih =>
    intro y lv w S hR n1 hy hi hs0 hv hle l0 l1 l2 l4 hQ
    have hcap := hR.cap hc
    have hcl : cw (S (h + 1)) t < 4294967296 := cw_lt
    rw [show ((t + 1 : Nat) : Int) + (-1) = (t : Int) by omega] at l4
    refine i_88_16 (x := Int32.ofInt (t : Int)) l4 ?_
    refine i_88_18 (z_lt (a := (t : Int)) ⟨by omega, by omega⟩ fun c0 => absurd c0 (by omega)) (z_ge (a := (t : Int)) ⟨by omega, by omega⟩ fun c0 => ?_)
    refine i_88_21 (x := Int64.ofInt (y : Int)) l2 ?_
    refine i_88_22 ?_
    refine i_88_24 (c := Int64.ofInt ((y * 2 ^ 32 : Nat) : Int)) (q_shlN (a := y) (q := 32) rfl (by decide) (by omega)) ?_
    refine i_88_25 (x := h) l0 ?_
    refine i_88_26 (v := Value.ref (A h)) (hR.n3 hc) rfl ?_
    refine i_88_29 (x := Int32.ofInt (t : Int)) l4 ?_
    refine i_88_31 (v := Value.int (Int32.ofInt (S (h + 1) t))) (hR.w3 hc) (ix0 (T := (t : Int)) (by omega) (by omega)) (ix1 (T := (t : Int)) (by omega) (by omega) (by omega)) (ra (T := (t : Int)) (by omega) (by omega) (congrArg _ rfl)) ?_
    refine i_88_32 rfl ?_
    refine i_88_33 ?_
    refine i_88_36 (c := Int64.ofInt (cw (S (h + 1)) t : Int)) (lowcw) ?_
    refine i_88_37 (c := Int64.ofInt ((y * 4294967296 + cw (S (h + 1)) t : Nat) : Int)) (q_or32 (by omega) (by omega)) ?_
    obtain ⟨x, hx⟩ : ∃ x : Nat, x = y * 4294967296 + cw (S (h + 1)) t := ⟨_, rfl⟩
    rw [← hx]
    refine i_88_38 rfl ?_
    refine lgen2 (i := 2) (v := Value.long (Int64.ofInt (x : Int))) (fun lv lg ls => ?_)
    replace l0 := lg 0 _ rfl rfl l0
    replace l1 := lg 1 _ rfl rfl l1
    replace l4 := lg 4 _ rfl rfl l4
    have l2 := ls
    refine i_88_39 (x := h) l0 ?_
    refine i_88_40 (v := Value.ref (A h)) (hR.n3 hc) rfl ?_
    refine i_88_43 (x := Int32.ofInt (t : Int)) l4 ?_
    refine i_88_45 (x := Int64.ofInt (x : Int)) l2 ?_
    refine i_88_46 (x := Int32.ofInt (dv : Int)) l1 ?_
    refine i_88_47 (c := Int64.ofInt (dv : Int)) (q_i2l (a := (dv : Int)) ⟨by omega, by omega⟩) ?_
    refine i_88_48 (c := Int64.ofInt ((x : Int) / (dv : Int))) (q_nz ⟨by omega, by omega⟩) (q_div ⟨by omega, by omega⟩ ⟨by omega, by omega⟩) ?_
    refine i_88_49 (c := Int32.ofInt ((x : Int) / (dv : Int))) (q_l2i ((x : Int) / (dv : Int))) ?_
    refine i_88_50 (hR.w3 hc) (ix0 (T := (t : Int)) (by omega) (by omega)) (ix1 (T := (t : Int)) (by omega) (by omega) (by omega)) (hR.apart hc).2.2.2.2.1 rfl ?_
    rw [ixn (T := (t : Int)) (by omega) (by omega), show ((t : Int)).toNat = t from rfl]
    refine xgen (P := cR w0 L Z A C B (u2 S (h + 1) t ((x : Int) / (dv : Int)))) (hR.arr hc rfl) (fun w hR => ?_)
    replace n1 : (u2 S (h + 1) t ((x : Int) / (dv : Int))) h 1 = ((n : Nat) : Int) := by rw [u2_n (by omega)]; exact n1
    refine i_88_51 (x := Int64.ofInt (x : Int)) l2 ?_
    refine i_88_52 (x := Int32.ofInt (dv : Int)) l1 ?_
    refine i_88_53 (c := Int64.ofInt (dv : Int)) (q_i2l (a := (dv : Int)) ⟨by omega, by omega⟩) ?_
    refine i_88_54 (c := Int64.ofInt ((x % dv : Nat) : Int)) (q_nz ⟨by omega, by omega⟩) (q_remN (by omega) hd) ?_
    refine i_88_55 rfl ?_
    refine lgen2 (i := 2) (v := Value.long (Int64.ofInt ((x % dv : Nat) : Int))) (fun lv lg ls => ?_)
    replace l0 := lg 0 _ rfl rfl l0
    replace l1 := lg 1 _ rfl rfl l1
    replace l4 := lg 4 _ rfl rfl l4
    have l2 := ls
    refine i_88_56 (x := (Int32.ofInt (t : Int))) (c := (Int32.ofInt ((t : Int) + (-1)))) l4 (o_dec (t : Int)) rfl ?_
    refine lgen1 (i := 4) (v := Value.int (Int32.ofInt ((t : Int) + (-1)))) (fun lv lg ls => ?_)
    replace l2 := lg 2 _ rfl rfl l2
    replace l0 := lg 0 _ rfl rfl l0
    replace l1 := lg 1 _ rfl rfl l1
    have l4 := ls
    refine i_88_59 ?_
    have hym : x % dv < dv := Nat.mod_lt _ hd.1
    have hql : x / dv < 4294967296 := by
      rw [Nat.div_lt_iff_lt_mul hd.1]
      have h1 : (y + 1) * 4294967296 ≤ dv * 4294967296 := Nat.mul_le_mul_right _ hy
      rw [Nat.mul_comm 4294967296]
      omega
    have ez : ((x : Int) / (dv : Int) % 4294967296).toNat = x / dv := by rw [show (x : Int) / (dv : Int) = ((x / dv : Nat) : Int) from by first | exact (Int.natCast_ediv x dv).symm | exact (Int.natCast_div x dv).symm | simp]; generalize x / dv = q at hql ⊢; omega
    have hup := cv_up (s := S (h + 1)) (n := n) (i := t) (z := (x : Int) / (dv : Int)) (by omega)
    rw [ez] at hup
    have ec : cw s0 t = cw (S (h + 1)) t := by unfold cw; rw [hs0 t (by omega)]
    have hvt : cv s0 (t + 1) = cv s0 t + cw (S (h + 1)) t * 2 ^ (32 * t) := by rw [← ec]; rfl
    rw [hvt, pow_s] at hv
    rw [hvt] at hle
    obtain ⟨g1, g2⟩ := div_alg hup hv hle hx (show x / dv * dv + x % dv = x by rw [Nat.mul_comm]; exact Nat.div_add_mod x dv)
    refine ih hR n1 hym (by omega) (fun j hj => by rw [u2_s, u1_n (by omega)]; exact hs0 j (by omega)) (by rw [u2_s]; exact g1) (by rw [u2_s]; exact g2) l0 l1 l2 l4 (fun lv' y' w' S' q1 q2 q3 q4 q5 q6 q7 => hQ lv' y' w' S' q1 q2 (fun b j hb => by rw [q3 b j hb, u2_n hb]) q4 q5 q6 q7)
theorem X_divBy {u dv : Nat} (hX : cX w0 L Z S V w) (hc : kd h = 3) (hu : V h = u) (hd : 0 < dv ∧ dv < 2147483648) : ∃ w', xRun (d + 1) 88 [.ref h, .int (Int32.ofInt (dv : Int))] w (.inl (some (.int (Int32.ofInt ((u % dv : Nat) : Int))))) w' ∧ cX w0 L Z S (uv V h (u / dv)) w' := by
  obtain ⟨A, C, B, S0, hR, hv, hs⟩ := hX
  obtain ⟨n, n1, n2, n3, n4⟩ := hv h hc
  rw [hu] at n3
  have hcap := hR.cap hc
  have key : ∀ lv, xld lv 0 = some (.ref h) → xld lv 1 = some (.int (Int32.ofInt (dv : Int))) → xEv (d + 1) 88 0 lv [] w (fun o w' => o = .inl (some (.int (Int32.ofInt ((u % dv : Nat) : Int)))) ∧ cX w0 L Z S (uv V h (u / dv)) w') := by
    intro lv l0 l1
    refine i_88_0 ?_
    refine i_88_1 rfl ?_
    refine lgen2 (i := 2) (v := Value.long 0) (fun lv lg ls => ?_)
    replace l0 := lg 0 _ rfl rfl l0
    replace l1 := lg 1 _ rfl rfl l1
    have l2 := ls
    refine i_88_2 (x := Int32.ofInt (dv : Int)) l1 ?_
    refine i_88_3 (z_gt (a := (dv : Int)) ⟨by omega, by omega⟩ fun c0 => ?_) (z_le (a := (dv : Int)) ⟨by omega, by omega⟩ fun c0 => ?_)
    · refine i_88_8 (x := h) l0 ?_
      refine i_88_9 (v := Value.int (Int32.ofInt (n : Int))) (hR.n3n hc n1) rfl ?_
      refine i_88_12 ?_
      refine i_88_13 (c := Int32.ofInt ((n : Int) - 1)) (o_sub (n : Int) 1) ?_
      refine i_88_14 rfl ?_
      refine lgen1 (i := 4) (v := Value.int (Int32.ofInt ((n : Int) - 1))) (fun lv lg ls => ?_)
      replace l2 := lg 2 _ rfl rfl l2
      replace l0 := lg 0 _ rfl rfl l0
      replace l1 := lg 1 _ rfl rfl l1
      have l4 := ls
      refine dv_loop (u := u) (s0 := S0 (h + 1)) hc hd n2 n (y := 0) hR n1 hd.1 (Nat.le_refl _) (fun _ _ => rfl) (by rw [n3, Nat.sub_self, Nat.zero_mul, Nat.zero_mul, Nat.zero_add]) (by rw [n3]; exact Nat.le_refl _) l0 l1 l2 l4 (fun lv y' w S' hR q1 q2 q3 q4 l0 l2 => ?_)
      have e1 : cv (S' (h + 1)) n = u / dv := by
        rw [← q4, Nat.mul_comm _ dv, Nat.mul_add_div hd.1, Nat.div_eq_of_lt q3, Nat.add_zero (cv (S' (h + 1)) n)]
      have e2 : y' = u % dv := by
        rw [← q4, Nat.mul_comm _ dv, Nat.mul_add_mod, Nat.mod_eq_of_lt q3]
      refine i_88_62 (x := h) l0 ?_
      obtain ⟨w2, hrun, hX2⟩ := X_trim (d := d) hv hs hc hR (fun _ => Nat.le_refl _) (fun b j _ g2 => q2 b j g2) q1 n2 e1
      have hobj := hR.n3 hc
      refine i_88_63 hobj (Nat.le_of_ble_eq_true rfl) hrun ?_
      refine i_88_66 (x := Int64.ofInt ((y' : Nat) : Int)) l2 ?_
      refine i_88_67 (c := Int32.ofInt ((y' : Nat) : Int)) (q_l2i ((y' : Nat) : Int)) ?_
      refine i_88_68 ?_
      exact ⟨by rw [e2], hX2⟩
    · refine i_88_6 ?_
      refine i_88_7 ?_
      exfalso; omega
  obtain ⟨o, w', h1, rfl, h2⟩ := (key (lv_args 0 [.ref h, .int (Int32.ofInt (dv : Int))]) rfl rfl).run
  exact ⟨w', h1, h2⟩
end
