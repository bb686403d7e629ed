/-! bits, widen of the class's naturals -/
section
variable {w0 w : xW} {L Z : Nat} {A C B : Nat → Nat} {S : Nat → Nat → Int} {h k r d : Nat} {v : Int}
theorem cw_un {s : Nat → Int} {j : Nat} : xun (Int32.ofInt (s j)) = cw s j := by
  have := xun_m (s j)
  unfold cw
  omega
theorem c_bits {n : Nat} (hR : cR w0 L Z A C B S w) (hc : kd h = 3) (hn : S h 1 = n) (hC : n ≤ C h) (ht : n = 0 ∨ cw (S (h + 1)) (n - 1) ≠ 0) : xRun (d + 1) 29 [.ref h] w (.inl (some (.int (Int32.ofInt (xbl (cv (S (h + 1)) n) : Nat))))) w := by
  have hw := hR.n3 hc
  have ha := hR.w3 hc
  have hcap := hR.cap hc
  unfold vI at hw
  rw [hn] at hw
  have key : xEv (d + 1) 29 0 (lv_args 0 [.ref h]) [] w (fun o w' => o = .inl (some (.int (Int32.ofInt (xbl (cv (S (h + 1)) n) : Nat)))) ∧ w' = w) := by
    refine i_29_0 (x := h) rfl ?_
    refine i_29_1 (v := Value.int (Int32.ofInt (n : Int))) hw rfl ?_
    have e1 : (Int32.ofInt (n : Int)).toInt = (n : Int) := oI (by omega) (by omega)
    refine i_29_4 (fun g => ?_) (fun g => ?_)
    · obtain ⟨m, rfl⟩ : ∃ m, n = m + 1 := ⟨n - 1, by omega⟩
      have hz : cw (S (h + 1)) m ≠ 0 := by
        rcases ht with g2 | g2
        · omega
        · exact g2
      have e3 : (Int32.ofInt (m : Int)).toInt = (m : Int) := oI (by omega) (by omega)
      have e2 : Int32.ofInt ((m + 1 : Nat) : Int) - 1 = Int32.ofInt (m : Int) := by rw [show (1 : Int32) = Int32.ofInt 1 from rfl, o_sub]; congr 1; omega
      refine i_29_11 ?_
      refine i_29_13 (x := h) rfl ?_
      refine i_29_14 (v := Value.int (Int32.ofInt ((m + 1 : Nat) : Int))) hw rfl ?_
      refine i_29_17 (c := Int32.ofInt (32 * ((m + 1 : Nat) : Int))) (o_mul 32 _) ?_
      refine i_29_18 (x := h) rfl ?_
      refine i_29_19 (v := Value.ref (A h)) hw rfl ?_
      refine i_29_22 (x := h) rfl ?_
      refine i_29_23 (v := Value.int (Int32.ofInt ((m + 1 : Nat) : Int))) hw rfl ?_
      refine i_29_26 ?_
      refine i_29_27 e2 ?_
      refine i_29_28 (v := Value.int (Int32.ofInt (S (h + 1) m))) ha (by omega) (by omega) (by rw [e3]; rfl) ?_
      refine i_29_29 (Nat.le_of_ble_eq_true rfl) nlz_run ?_
      have hx : xbl (cw (S (h + 1)) m) ≤ 32 := xbl_le cw_lt
      have e4 : xnlz (Int32.ofInt (S (h + 1) m)) = Int32.ofInt (32 - (xbl (cw (S (h + 1)) m) : Int)) := by
        unfold xnlz
        rw [cw_un, ← oNn]
        congr 1
        omega
      rw [e4]
      refine i_29_32 (o_sub _ _) ?_
      refine i_29_33 ⟨?_, rfl⟩
      rw [cv_bl hz]
      congr 4
      omega
    · have e0 : n = 0 := by omega
      subst e0
      refine i_29_7 ?_
      refine i_29_8 ?_
      exact i_29_33 ⟨rfl, rfl⟩
  obtain ⟨o, w', h1, rfl, rfl⟩ := key.run
  exact h1
theorem widen_loop (hc : kd h = 3) {t : Int} (t0 : -2147483648 ≤ t) (t1 : t ≤ 20000) (t2 : t ≤ C h) {Q : Option Value ⊕ Nat → xW → Prop} : ∀ (m : Nat) {i : Nat} {w : xW} {S : Nat → Nat → Int}, cR w0 L Z A C B S w → t - i ≤ m → i ≤ 40000 →
    (∀ z w' S', cR w0 L Z A C B S' w' → (∀ b j, (b ≠ h + 1 ∨ j < i ∨ t ≤ (j : Int)) → S' b j = S b j) → (∀ j, i ≤ j → (j : Int) < t → S' (h + 1) j = 0) → xEv d 45 28 [(2, .int z), (0, .ref h), (1, .int (Int32.ofInt t))] [] w' Q) →
    xEv d 45 10 [(2, .int (Int32.ofInt (i : Int))), (0, .ref h), (1, .int (Int32.ofInt t))] [] w Q := by
  have e1 : (Int32.ofInt t).toInt = t := oI t0 (by omega)
  intro m
  induction m with
  | zero =>
    intro i w S hR hm hi hQ
    have e3 : (Int32.ofInt (i : Int)).toInt = (i : Int) := oI (by omega) (by omega)
    refine i_45_10 (x := Int32.ofInt (i : Int)) rfl ?_
    refine i_45_11 (x := Int32.ofInt t) rfl ?_
    refine i_45_12 (fun _ => ?_) (fun g => absurd g (by omega))
    exact hQ _ w S hR (fun _ _ _ => rfl) (fun j h1 h2 => by omega)
  | succ m ih =>
    intro i w S hR hm hi hQ
    have e3 : (Int32.ofInt (i : Int)).toInt = (i : Int) := oI (by omega) (by omega)
    refine i_45_10 (x := Int32.ofInt (i : Int)) rfl ?_
    refine i_45_11 (x := Int32.ofInt t) rfl ?_
    refine i_45_12 (fun _ => ?_) (fun g => ?_)
    · exact hQ _ w S hR (fun _ _ _ => rfl) (fun j h1 h2 => by omega)
    · have ha7 := (hR.apart hc).2.2.2.2.1
      refine i_45_15 (x := h) rfl ?_
      refine i_45_16 (v := Value.ref (A h)) (hR.n3 hc) rfl ?_
      refine i_45_19 (x := Int32.ofInt (i : Int)) rfl ?_
      refine i_45_20 ?_
      refine i_45_21 (hR.w3 hc) (by omega) (by omega) ha7 rfl ?_
      rw [show (Int32.ofInt (i : Int)).toInt.toNat = i by omega]
      refine xgen (P := cR w0 L Z A C B (u2 S (h + 1) i 0)) (hR.arr hc rfl) (fun w hR => ?_)
      refine i_45_22 (x := Int32.ofInt (i : Int)) (c := Int32.ofInt ((i + 1 : Nat) : Int)) (lv2 := [(2, Value.int (Int32.ofInt ((i + 1 : Nat) : Int))), (0, Value.ref h), (1, Value.int (Int32.ofInt t))]) rfl (o_add (i : Int) 1) rfl ?_
      refine i_45_25 ?_
      refine ih hR (by omega) (by omega) (fun z w' S' k1 k2 k3 => ?_)
      refine hQ z w' S' k1 (fun b j hbj => ?_) (fun j h1 h2 => ?_)
      · rw [k2 b j (by omega), u2_eq, if_neg (by omega)]
      · by_cases e : j = i
        · rw [k2 (h + 1) j (by omega), u2_eq, if_pos ⟨rfl, e⟩]
        · exact k3 j (by omega) h2
/-- widen: the words from the size on are 0 -/
theorem c_widen {n : Nat} {t : Int} (hR : cR w0 L Z A C B S w) (hc : kd h = 3) (hn : S h 1 = n) (hC : n ≤ C h) (t0 : -2147483648 ≤ t) (t1 : t ≤ 20000) : ∃ w' A' C' B' S', xRun (d + 3) 45 [.ref h, .int (Int32.ofInt t)] w (.inl none) w' ∧ cR w0 L Z A' C' B' S' w' ∧ (∀ k, C k ≤ C' k) ∧ S' h 1 = max (n : Int) t ∧ t ≤ C' h ∧ (∀ b j, (b ≠ h ∨ j ≠ 1) → (b ≠ h + 1 ∨ j < n) → S' b j = S b j) ∧ (∀ j, n ≤ j → (j : Int) < t → S' (h + 1) j = 0) := by
  have hcap := hR.cap hc
  have hw := hR.n3 hc
  have h7 := (kd_o (show kd h < 12 by omega)).1
  obtain ⟨w1, A1, C1, B1, S1, r1, hR1, q1, q2, q3⟩ := c_room (d := d) hR hc t0 t1
  have hn1 : S1 h 1 = n := by rw [q3 h 1 (by omega)]; exact hn
  have key : xEv (d + 3) 45 0 (lv_args 0 [.ref h, .int (Int32.ofInt t)]) [] w (fun o w' => o = .inl none ∧ ∃ A' C' B' S', cR w0 L Z A' C' B' S' w' ∧ (∀ k, C k ≤ C' k) ∧ S' h 1 = max (n : Int) t ∧ t ≤ C' h ∧ (∀ b j, (b ≠ h ∨ j ≠ 1) → (b ≠ h + 1 ∨ j < n) → S' b j = S b j) ∧ (∀ j, n ≤ j → (j : Int) < t → S' (h + 1) j = 0)) := by
    refine i_45_0 (x := h) rfl ?_
    refine i_45_1 (x := Int32.ofInt t) rfl ?_
    refine i_45_2 hw (Nat.le_of_ble_eq_true rfl) r1 ?_
    have hw1 := hR1.n3 hc
    unfold vI at hw1
    rw [hn1] at hw1
    refine i_45_5 (x := h) rfl ?_
    refine i_45_6 (v := Value.int (Int32.ofInt (n : Int))) hw1 rfl ?_
    refine i_45_9 (lv2 := [(2, Value.int (Int32.ofInt (n : Int))), (0, Value.ref h), (1, Value.int (Int32.ofInt t))]) rfl ?_
    refine widen_loop hc t0 t1 q1 (t - n).toNat hR1 (by omega) (by omega) (fun z w' S' k1 k2 k3 => ?_)
    have hn2 : S' h 1 = n := by rw [k2 h 1 (by omega)]; exact hn1
    have hw2 := k1.n3 hc
    unfold vI at hw2
    rw [hn2] at hw2
    refine i_45_28 (x := h) rfl ?_
    refine i_45_29 (x := h) rfl ?_
    refine i_45_30 (v := Value.int (Int32.ofInt (n : Int))) hw2 rfl ?_
    refine i_45_33 (x := Int32.ofInt t) rfl ?_
    refine i_45_34 (Nat.le_of_ble_eq_true rfl) (s_max (d := d + 1) (a := (n : Int)) (b := t) ⟨by omega, by omega⟩ ⟨by omega, by omega⟩) ?_
    refine i_45_37 (fs2 := [Value.ref (A1 h), Value.int (Int32.ofInt (max (n : Int) t))]) hw2 (Nat.le_of_ble_eq_true rfl) rfl h7 ?_
    refine i_45_40 ⟨rfl, A1, C1, B1, _, k1.set1 (v := max (n : Int) t) hc rfl, q2, by rw [u2_s, u1_s], q1, fun b j h1 h2 => ?_, fun j h1 h2 => ?_⟩
    · rw [u2_eq, if_neg (by omega), k2 b j (by omega), q3 b j (by omega)]
    · rw [u2_eq, if_neg (by omega)]; exact k3 j h1 h2
  obtain ⟨o, w', h1, rfl, h2⟩ := key.run
  obtain ⟨A', C', B', S', h3⟩ := h2
  exact ⟨w', A', C', B', S', h1, h3⟩
end
