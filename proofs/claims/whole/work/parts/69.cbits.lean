/-! bitsFrom, bit of the class's naturals -/
theorem wat_in {s : Nat → Int} {n : Nat} {i : Int} (h0 : 0 ≤ i) (h1 : i < n) : cw s i.toNat = wat (cv s n) i := by
  unfold wat
  rw [if_pos h0]
  exact cw_at (by omega)
theorem wat_out {s : Nat → Int} {n : Nat} {i : Int} (h : i < 0 ∨ (n : Int) ≤ i) : wat (cv s n) i = 0 := by
  unfold wat
  split
  · have h1 : cv s n < 2 ^ (32 * i.toNat) := Nat.lt_of_lt_of_le cv_lt (Nat.pow_le_pow_right (by decide) (by omega))
    rw [Nat.div_eq_of_lt h1]
  · rfl
section
variable {w0 w : xW} {L Z : Nat} {A C B : Nat → Nat} {S S0 : Nat → Nat → Int} {V : Nat → Nat} {h k r d : Nat} {v : Int}
theorem bf_low {n : Nat} {a b p : Int} {Q : Option Value ⊕ Nat → xW → Prop} (hR : cR w0 L Z A C B S w) (hc : kd h = 3) (hn : S h 1 = n) (hC : n ≤ C h) (ha : -2147483648 ≤ a ∧ a < 2147483648)
    (hQ : ∀ lo : Int32, xun lo = wat (cv (S (h + 1)) n) a → xEv d 35 33 [(4, .int lo), (3, .int (Int32.ofInt b)), (2, .int (Int32.ofInt a)), (0, .ref h), (1, .int (Int32.ofInt p))] [] w Q) :
    xEv d 35 9 [(3, .int (Int32.ofInt b)), (2, .int (Int32.ofInt a)), (0, .ref h), (1, .int (Int32.ofInt p))] [] w Q := by
  have hcap := hR.cap hc
  have e1 : (Int32.ofInt a).toInt = a := oI ha.1 ha.2
  have e2 : (Int32.ofInt (n : Int)).toInt = (n : Int) := oI (by omega) (by omega)
  refine i_35_9 (x := Int32.ofInt a) rfl ?_
  refine i_35_10 (fun g => ?_) (fun g => ?_)
  · refine i_35_21 ?_
    refine i_35_22 ?_
    refine i_35_31 rfl ?_
    exact hQ 0 (by rw [wat_out (by omega)]; rfl)
  · refine i_35_13 (x := Int32.ofInt a) rfl ?_
    refine i_35_14 (x := h) rfl ?_
    refine i_35_15 (v := Value.int (Int32.ofInt (n : Int))) (hR.n3n hc hn) rfl ?_
    refine i_35_18 (fun g2 => ?_) (fun g2 => ?_)
    · refine i_35_25 (x := h) rfl ?_
      refine i_35_26 (v := Value.ref (A h)) (hR.n3 hc) rfl ?_
      refine i_35_29 (x := Int32.ofInt a) rfl ?_
      refine i_35_30 (v := Value.int (Int32.ofInt (S (h + 1) a.toNat))) (hR.w3 hc) (by omega) (by omega) (by rw [e1]; rfl) ?_
      refine i_35_31 rfl ?_
      exact hQ _ (by rw [cw_un, wat_in (n := n) (by omega) (by omega)])
    · refine i_35_21 ?_
      refine i_35_22 ?_
      refine i_35_31 rfl ?_
      exact hQ 0 (by rw [wat_out (by omega)]; rfl)
theorem bf_high {n : Nat} {a b p : Int} {lo : Int32} {Q : Option Value ⊕ Nat → xW → Prop} (hR : cR w0 L Z A C B S w) (hc : kd h = 3) (hn : S h 1 = n) (hC : n ≤ C h) (ha : -2147483648 ≤ a ∧ a < 2147483647)
    (hQ : ∀ hi : Int32, xun hi = wat (cv (S (h + 1)) n) (a + 1) → xEv d 35 69 [(5, .int hi), (4, .int lo), (3, .int (Int32.ofInt b)), (2, .int (Int32.ofInt a)), (0, .ref h), (1, .int (Int32.ofInt p))] [] w Q) :
    xEv d 35 40 [(4, .int lo), (3, .int (Int32.ofInt b)), (2, .int (Int32.ofInt a)), (0, .ref h), (1, .int (Int32.ofInt p))] [] w Q := by
  have hcap := hR.cap hc
  have e1 : (Int32.ofInt a).toInt = a := oI ha.1 (by omega)
  have e3 : (Int32.ofInt (a + 1)).toInt = a + 1 := oI (by omega) (by omega)
  have e2 : (Int32.ofInt (n : Int)).toInt = (n : Int) := oI (by omega) (by omega)
  have em : (-1 : Int32).toInt = -1 := rfl
  refine i_35_40 (x := Int32.ofInt a) rfl ?_
  refine i_35_41 ?_
  refine i_35_42 (fun g => ?_) (fun g => ?_)
  · refine i_35_55 ?_
    refine i_35_56 ?_
    refine i_35_67 rfl ?_
    exact hQ 0 (by rw [wat_out (by omega)]; rfl)
  · refine i_35_45 (x := Int32.ofInt a) rfl ?_
    refine i_35_46 ?_
    refine i_35_47 (c := Int32.ofInt (a + 1)) (o_add a 1) ?_
    refine i_35_48 (x := h) rfl ?_
    refine i_35_49 (v := Value.int (Int32.ofInt (n : Int))) (hR.n3n hc hn) rfl ?_
    refine i_35_52 (fun g2 => ?_) (fun g2 => ?_)
    · refine i_35_59 (x := h) rfl ?_
      refine i_35_60 (v := Value.ref (A h)) (hR.n3 hc) rfl ?_
      refine i_35_63 (x := Int32.ofInt a) rfl ?_
      refine i_35_64 ?_
      refine i_35_65 (c := Int32.ofInt (a + 1)) (o_add a 1) ?_
      refine i_35_66 (v := Value.int (Int32.ofInt (S (h + 1) (a + 1).toNat))) (hR.w3 hc) (by omega) (by omega) (by rw [e3]; rfl) ?_
      refine i_35_67 rfl ?_
      exact hQ _ (by rw [cw_un, wat_in (n := n) (by omega) (by omega)])
    · refine i_35_55 ?_
      refine i_35_56 ?_
      refine i_35_67 rfl ?_
      exact hQ 0 (by rw [wat_out (by omega)]; rfl)
theorem c_bf {n : Nat} {p : Int} (hR : cR w0 L Z A C B S w) (hc : kd h = 3) (hn : S h 1 = n) (hC : n ≤ C h) (hp : -2147483648 ≤ p ∧ p < 2147483648) : xRun d 35 [.ref h, .int (Int32.ofInt p)] w (.inl (some (.int (Int32.ofInt (bfn (cv (S (h + 1)) n) p : Nat))))) w := by
  have key : xEv d 35 0 (lv_args 0 [.ref h, .int (Int32.ofInt p)]) [] w (fun o w' => o = .inl (some (.int (Int32.ofInt (bfn (cv (S (h + 1)) n) p : Nat)))) ∧ w' = w) := by
    refine i_35_0 (x := Int32.ofInt p) rfl ?_
    refine i_35_1 ?_
    refine i_35_2 (c := Int32.ofInt (p / 32)) (o_shr5 hp) ?_
    refine i_35_3 rfl ?_
    refine i_35_4 (x := Int32.ofInt p) rfl ?_
    refine i_35_5 ?_
    refine i_35_7 (c := Int32.ofInt (p % 32)) (o_mask5 p) ?_
    refine i_35_8 rfl ?_
    refine bf_low (a := p / 32) (b := p % 32) (p := p) hR hc hn hC (by omega) (fun lo hlo => ?_)
    have eb : (Int32.ofInt (p % 32)).toInt = p % 32 := oI (by omega) (by omega)
    refine i_35_33 (x := Int32.ofInt (p % 32)) rfl ?_
    refine i_35_34 (fun g => ?_) (fun g => ?_)
    · refine bf_high (a := p / 32) (b := p % 32) (p := p) (lo := lo) hR hc hn hC (by omega) (fun hi hhi => ?_)
      refine i_35_69 (x := lo) rfl ?_
      refine i_35_71 (x := Int32.ofInt (p % 32)) rfl ?_
      refine i_35_72 rfl ?_
      refine i_35_73 (x := hi) rfl ?_
      refine i_35_75 ?_
      refine i_35_77 (x := Int32.ofInt (p % 32)) rfl ?_
      refine i_35_78 (c := Int32.ofInt (32 - p % 32)) (o_sub 32 (p % 32)) ?_
      refine i_35_79 rfl ?_
      refine i_35_80 (bfn_or (b := (p % 32).toNat) (by omega) (by omega) hlo hhi) ?_
      exact i_35_81 ⟨rfl, rfl⟩
    · refine i_35_37 (x := lo) rfl ?_
      refine i_35_39 ⟨?_, rfl⟩
      rw [bfn_0 (by omega)]
      have e : lo = Int32.ofInt (wat (cv (S (h + 1)) n) (p / 32) : Nat) := by
        apply xun_inj
        have h1 := xun_m (wat (cv (S (h + 1)) n) (p / 32) : Nat)
        have h2 : wat (cv (S (h + 1)) n) (p / 32) < 4294967296 := wat_lt
        omega
      rw [← e]
  obtain ⟨o, w', h1, rfl, rfl⟩ := key.run
  exact h1
theorem X_bf {p : Int} {u : Nat} (hX : cX w0 L Z S V w) (hc : kd h = 3) (hu : V h = u) (hp : -2147483648 ≤ p ∧ p < 2147483648) : xRun d 35 [.ref h, .int (Int32.ofInt p)] w (.inl (some (.int (Int32.ofInt (bfn u p : Nat))))) w := by
  obtain ⟨A, C, B, S0, hR, hv, hs⟩ := hX
  obtain ⟨n, n1, n2, n3, n4⟩ := hv h hc
  have := c_bf (d := d) hR hc n1 n2 hp
  rw [n3, hu] at this
  exact this
theorem X_bit {p : Int} {u : Nat} (hX : cX w0 L Z S V w) (hc : kd h = 3) (hu : V h = u) (hp : -2147483648 ≤ p ∧ p < 2147483648) : xRun (d + 1) 34 [.ref h, .int (Int32.ofInt p)] w (.inl (some (.int (Int32.ofInt (bfn u p % 2 : Nat))))) w := by
  have hrun := X_bf (d := d) hX hc hu hp
  obtain ⟨A, C, B, S0, hR, hv, hs⟩ := hX
  have key : xEv (d + 1) 34 0 (lv_args 0 [.ref h, .int (Int32.ofInt p)]) [] w (fun o w' => o = .inl (some (.int (Int32.ofInt (bfn u p % 2 : Nat)))) ∧ w' = w) := by
    refine i_34_0 (x := h) rfl ?_
    refine i_34_1 (x := Int32.ofInt p) rfl ?_
    refine i_34_2 (hR.n3 hc) (Nat.le_of_ble_eq_true rfl) hrun ?_
    refine i_34_5 ?_
    refine i_34_6 rfl ?_
    have h1 := xun_and1 (Int32.ofInt (bfn u p : Nat))
    have h2 := xun_m (bfn u p : Nat)
    have h3 : bfn u p < 4294967296 := Nat.mod_lt _ (by decide)
    refine i_34_7 (fun g => ?_) (fun g => ?_)
    · have g2 := xun_z.mpr g
      refine i_34_14 ?_
      refine i_34_15 rfl ⟨?_, rfl⟩
      rw [show bfn u p % 2 = 0 by omega]
      rfl
    · have g2 : xun (Int32.ofInt (bfn u p : Nat) &&& 1) ≠ 0 := fun e => g (xun_z.mp e)
      refine i_34_10 ?_
      refine i_34_11 ?_
      refine i_34_15 rfl ⟨?_, rfl⟩
      rw [show bfn u p % 2 = 1 by omega]
      rfl
  obtain ⟨o, w', h1, rfl, rfl⟩ := key.run
  exact h1
end
