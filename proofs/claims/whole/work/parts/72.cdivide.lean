/-! divide of the class's division -/
theorem cX.cong {w0 w : xW} {L Z : Nat} {S : Nat → Nat → Int} {V V' : Nat → Nat} (h : cX w0 L Z S V w) (e : ∀ k, kd k = 3 → V k = V' k) : cX w0 L Z S V' w := by
  obtain ⟨A, C, B, S0, hR, hv, hs⟩ := h
  exact ⟨A, C, B, S0, hR, fun k hk => by rw [← e k hk]; exact hv k hk, hs⟩
theorem uv_eq {V : Nat → Nat} {h v k : Nat} : uv V h v k = if k = h then v else V k := by
  by_cases e : k = h
  · subst e; rw [uv_s, if_pos rfl]
  · rw [uv_n e, if_neg e]
section
variable {w0 w : xW} {L Z : Nat} {A C B : Nat → Nat} {S S0 : Nat → Nat → Int} {V : Nat → Nat} {d : Nat}
/-- two naturals have changed -/
theorem cX.close2 {h g : Nat} {A' C' B' : Nat → Nat} {S' : Nat → Nat → Int} {w' : xW} {u v : Nat} (hv : ∀ h, kd h = 3 → nv C S0 h (V h)) (hs : ∀ b, (kd b < 12 ∧ kd b ≠ 3) ∨ b = 29 ∨ b = 114 → S0 b = S b) (hc : kd h = 3) (hg : kd g = 3)
    (hR' : cR w0 L Z A' C' B' S' w') (hC : ∀ k, C k ≤ C' k) (hS : ∀ b j, b ≠ h → b ≠ h + 1 → b ≠ g → b ≠ g + 1 → S' b j = S0 b j) (hu : nv C' S' h u) (hw : nv C' S' g v) (hne : g ≠ h) : cX w0 L Z S (uv (uv V h u) g v) w' := by
  have h1 := kd_c hc
  have h2 := kd_o (show kd h < 12 by omega)
  have g1 := kd_c hg
  have g2 := kd_o (show kd g < 12 by omega)
  refine ⟨A', C', B', S', hR', fun k hk => ?_, fun b hb => ?_⟩
  · by_cases e : k = g
    · subst e; rw [uv_s]; exact hw
    · rw [uv_n e]
      by_cases e' : k = h
      · subst e'; rw [uv_s]; exact hu
      · rw [uv_n e']
        obtain ⟨n, n1, n2, n3, n4⟩ := hv k hk
        have h3 := kd_c hk
        have a1 : k ≠ h + 1 := fun x => by rw [← x] at h1; omega
        have a2 : k + 1 ≠ h := fun x => by rw [x] at h3; omega
        have a3 : k ≠ g + 1 := fun x => by rw [← x] at g1; omega
        have a4 : k + 1 ≠ g := fun x => by rw [x] at h3; omega
        have e1 : S' k = S0 k := funext fun j => hS k j e' a1 e a3
        have e2 : S' (k + 1) = S0 (k + 1) := funext fun j => hS (k + 1) j a2 (by omega) a4 (by omega)
        exact ⟨n, by rw [e1]; exact n1, Nat.le_trans n2 (hC k), by rw [e2]; exact n3, by rw [e2]; exact n4⟩
  · rw [← hs b hb]
    have a1 : b ≠ h := fun x => by rw [x] at hb; omega
    have a2 : b ≠ h + 1 := fun x => by rw [x] at hb; omega
    have a3 : b ≠ g := fun x => by rw [x] at hb; omega
    have a4 : b ≠ g + 1 := fun x => by rw [x] at hb; omega
    exact funext fun j => hS b j a1 a2 a3 a4
theorem dx_loop {n N st s X0 D : Nat} (hn1 : 1 ≤ n) (hn : n ≤ C 91) (hN : N + 1 ≤ C 89) (hst : st + n = N + 1) (hsq : st ≤ C 87) {Q : Option Value ⊕ Nat → xW → Prop} : ∀ (t : Nat) {lv : xLv} {w : xW} {S : Nat → Nat → Int}, cR w0 L Z A C B S w → t ≤ st → (∀ j, j < t → cw (S (87 + 1)) j = 0) → cv (S (91 + 1)) n = D → 2147483648 ≤ cw (S (91 + 1)) (n - 1) → cv (S (89 + 1)) (N + 1) + cv (S (87 + 1)) st * D = X0 → cv (S (89 + 1)) (N + 1) < D * 2 ^ (32 * t) → xld lv 0 = some (.ref 86) → xld lv 3 = some (.int (Int32.ofInt (n : Int))) → xld lv 4 = some (.int (Int32.ofInt (s : Int))) → xld lv 6 = some (.int (Int32.ofInt ((t : Int) + (-1)))) →
    (∀ lv' w' S', cR w0 L Z A C B S' w' → (∀ b j, b ≠ 87 + 1 → b ≠ 89 + 1 → S' b j = S b j) → cv (S' (89 + 1)) (N + 1) + cv (S' (87 + 1)) st * D = X0 → cv (S' (89 + 1)) (N + 1) < D → xld lv' 0 = some (.ref 86) → xld lv' 4 = some (.int (Int32.ofInt (s : Int))) → xEv (d + 2) 72 138 lv' [] w' Q) → xEv (d + 2) 72 110 lv [] w Q := by
  intro t
  induction t with
  | zero =>
    intro lv w S hR ht hz0 hD hh hv hlt l0 l3 l4 l6 hQ
    refine i_72_110 l6 ?_
    refine i_72_112 (fun _ => ?_) (fun g => absurd g (by decide))
    rw [Nat.mul_zero, Nat.pow_zero, Nat.mul_one] at hlt
    exact hQ lv w S hR (fun _ _ _ _ => rfl) hv hlt l0 l4
  | succ t ih =>
    intro lv w S hR ht hz0 hD hh hv hlt l0 l3 l4 l6 hQ
    have hcap := hR.cap k89
    have hcap2 := hR.cap k91
    have hcap3 := hR.cap k87
    rw [show ((t + 1 : Nat) : Int) + (-1) = (t : Int) by omega] at l6
    refine i_72_110 (x := Int32.ofInt (t : Int)) l6 ?_
    refine i_72_112 (z_lt (a := (t : Int)) ⟨by omega, by omega⟩ fun c0 => absurd c0 (by omega)) (z_ge (a := (t : Int)) ⟨by omega, by omega⟩ fun c0 => ?_)
    refine i_72_115 (x := 86) l0 ?_
    refine i_72_116 (v := Value.ref 87) hR.dvn rfl ?_
    refine i_72_119 (v := Value.ref (A 87)) (hR.n3 k87) rfl ?_
    refine i_72_122 (x := Int32.ofInt (t : Int)) l6 ?_
    refine i_72_124 (x := 86) l0 ?_
    refine i_72_125 (x := Int32.ofInt (t : Int)) l6 ?_
    refine i_72_127 (x := Int32.ofInt (n : Int)) l3 ?_
    have hDl : cv (S (91 + 1)) n < 2 ^ (32 * n) := cv_lt
    have hvl : cv (S (89 + 1)) (N + 1) < 2 ^ (32 * (t + (n + 1))) := by
      have h1 : D * 2 ^ (32 * (t + 1)) ≤ 2 ^ (32 * n) * 2 ^ (32 * (t + 1)) := Nat.mul_le_mul_right _ (by rw [← hD]; omega)
      rw [← Nat.pow_add, show 32 * n + 32 * (t + 1) = 32 * (t + (n + 1)) by omega] at h1
      exact Nat.lt_of_lt_of_le hlt h1
    have hlow : cv (S (89 + 1)) (N + 1) = cv (S (89 + 1)) (t + (n + 1)) := by
      rw [← cv_mod (s := S (89 + 1)) (n := N + 1) (f := t + (n + 1)) (by omega), Nat.mod_eq_of_lt hvl]
    have hsp := cv_split (s := S (89 + 1)) (t := t) (k := n + 1)
    have hRD : cv (fun k => S (89 + 1) (t + k)) (n + 1) < cv (S (91 + 1)) n * 4294967296 := by
      refine Nat.lt_of_mul_lt_mul_right (a := 2 ^ (32 * t)) ?_
      rw [hD, Nat.mul_assoc, ← pow_s]
      omega
    have hobj := hR.dvn
    obtain ⟨w, S1, hrun, hR, y2, y3⟩ := c_next (d := d) (j := t) (n := n) hR hn1 hn (by omega) hh hRD
    obtain ⟨R, hRe⟩ : ∃ R, R = cv (fun k => S (89 + 1) (t + k)) (n + 1) := ⟨_, rfl⟩
    rw [← hRe, hD] at hrun y3 hRD
    rw [← hRe] at hsp
    refine i_72_128 hobj (Nat.le_of_ble_eq_true rfl) hrun ?_
    refine i_72_131 (hR.w3 k87) (ix0 (T := (t : Int)) (by omega) (by omega)) (ix1 (T := (t : Int)) (by omega) (by omega) (by omega)) (hR.apart k87).2.2.2.2.1 rfl ?_
    rw [ixn (T := (t : Int)) (by omega) (by omega), show ((t : Int)).toNat = t from rfl]
    refine xgen (P := cR w0 L Z A C B (u2 S1 (87 + 1) t ((R / D : Nat) : Int))) (hR.arr k87 rfl) (fun w hR => ?_)
    refine i_72_132 (x := (Int32.ofInt (t : Int))) (c := (Int32.ofInt ((t : Int) + (-1)))) l6 (o_dec (t : Int)) rfl ?_
    refine lgen1 (i := 6) (v := Value.int (Int32.ofInt ((t : Int) + (-1)))) (fun lv lg ls => ?_)
    replace l0 := lg 0 _ rfl rfl l0
    replace l3 := lg 3 _ rfl rfl l3
    replace l4 := lg 4 _ rfl rfl l4
    have l6 := ls
    refine i_72_135 ?_
    have hDp : 0 < D := by
      rcases Nat.eq_zero_or_pos D with g | g
      · rw [g, Nat.zero_mul] at hlt; omega
      · exact g
    have hqM : R / D < 4294967296 := (Nat.div_lt_iff_lt_mul hDp).mpr (by rw [Nat.mul_comm]; exact hRD)
    have hdm := Nat.div_add_mod R D
    have hml := Nat.mod_lt R hDp
    have e1 := cv_tail (s := S1 (89 + 1)) (s0 := S (89 + 1)) (i := t + (n + 1)) (n := N + 1) (fun j hj => y2 _ _ (by omega)) (by omega)
    have e2 := cv_split (s := S1 (89 + 1)) (t := t) (k := n + 1)
    have e2b : cv (S1 (89 + 1)) t = cv (S (89 + 1)) t := cv_same (fun j hj => y2 _ _ (by omega))
    rw [y3, e2b] at e2
    have e3 := cv_up (s := S1 (87 + 1)) (n := st) (i := t) (z := ((R / D : Nat) : Int)) (by omega)
    have e4 : cw (S1 (87 + 1)) t = 0 := by rw [← hz0 t (by omega)]; unfold cw; rw [y2 _ _ (Or.inl (by decide))]
    have e5 : cv (S1 (87 + 1)) st = cv (S (87 + 1)) st := cv_same (fun j _ => y2 _ _ (Or.inl (by decide)))
    rw [e4, e5, Nat.zero_mul, show (((R / D : Nat) : Int) % 4294967296).toNat = R / D by generalize R / D = q at hqM ⊢; omega] at e3
    have hlt2 : cv (S (89 + 1)) t < 2 ^ (32 * t) := cv_lt
    have e6 : (D * (R / D) + R % D) * 2 ^ (32 * t) = R * 2 ^ (32 * t) := by rw [hdm]
    rw [Nat.add_mul] at e6
    have e7 : (R % D + 1) * 2 ^ (32 * t) ≤ D * 2 ^ (32 * t) := Nat.mul_le_mul_right _ hml
    rw [Nat.add_mul, Nat.one_mul] at e7
    refine ih hR (by omega) (fun j hj => by unfold cw; rw [u2_s, u1_n (by omega), y2 _ _ (Or.inl (by decide))]; exact hz0 j (by omega)) ?_ ?_ ?_ ?_ l0 l3 l4 l6 (fun lv' w' S' q1 q2 q3 q4 q5 q6 => hQ lv' w' S' q1 (fun b j g1 g2 => by rw [q2 b j g1 g2, u2_n g1, y2 b j (Or.inl g2)]) q3 q4 q5 q6)
    · rw [u2_n (by decide), ← hD]; exact cv_same (fun j _ => y2 _ _ (Or.inl (by decide)))
    · rw [u2_n (by decide)]; unfold cw at hh ⊢; rw [y2 _ _ (Or.inl (by decide))]; exact hh
    · rw [u2_n (by decide), u2_s, show cv (u1 (S1 (87 + 1)) t ((R / D : Nat) : Int)) st = cv (S (87 + 1)) st + R / D * 2 ^ (32 * t) by omega, Nat.add_mul, show R / D * 2 ^ (32 * t) * D = D * (R / D) * 2 ^ (32 * t) by rw [Nat.mul_right_comm, Nat.mul_comm D]]
      omega
    · rw [u2_n (by decide)]; omega
end
