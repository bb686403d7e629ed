/-! formPower of the class -/
theorem nb_eq {v u : Nat} {k : Int} (hk : 0 ≤ k) (h : bb (nbit v k) = bb (nbit u k)) : v / 2 ^ k.toNat % 2 = u / 2 ^ k.toNat % 2 := by
  unfold nbit at h
  rw [decide_eq_true hk, Bool.true_and, Bool.true_and] at h
  have h1 := Nat.mod_lt (v / 2 ^ k.toNat) (show 0 < 2 by decide)
  have h2 := Nat.mod_lt (u / 2 ^ k.toNat) (show 0 < 2 by decide)
  by_cases a : v / 2 ^ k.toNat % 2 = 1
  · by_cases b : u / 2 ^ k.toNat % 2 = 1
    · omega
    · rw [decide_eq_true a, decide_eq_false b] at h; exact absurd h (by decide)
  · by_cases b : u / 2 ^ k.toNat % 2 = 1
    · rw [decide_eq_false a, decide_eq_true b] at h; exact absurd h (by decide)
    · omega
def pwO (p : Nat) (least greatest gradual sg mode : Int) (n : Int) (L : Nat) (e f : Int) : OO :=
  if 0 < n then oR (p : Int) least greatest gradual sg mode 0 (L ^ n.natAbs) e f
  else oR (p : Int) least greatest gradual sg mode (if 1 * 2 ^ (xbl (L ^ n.natAbs) + p + 3) % L ^ n.natAbs = 0 then 0 else 1) (1 * 2 ^ (xbl (L ^ n.natAbs) + p + 3) / L ^ n.natAbs) (e - ((xbl (L ^ n.natAbs) + p + 3 : Nat) : Int)) f
def fpOk (p : Nat) (n : Int) (L : Nat) (sc more : Int) (M : Nat) : Prop := M ≠ 0 ∧ xbl M ≤ 135300 ∧ (more = 0 ∨ more = 1) ∧ (more = 0 ∨ p + 1 ≤ xbl M) ∧ ((0 < n ∧ 0 ≤ sc ∧ sc ≤ 150000) ∨ (n < 0 ∧ -150000 ≤ sc ∧ sc ≤ 0)) ∧ ∀ least greatest gradual sg mode e f, oR (p : Int) least greatest gradual sg mode more M (sc + e) f = pwO p least greatest gradual sg mode n L e f
section
variable {p L : Nat} {n most : Int} {x : PT}
theorem pr_b (hL : 0 < L) (hLb : xbl L ≤ 4096) (hn : -32 ≤ n ∧ n ≤ 32) : xbl (L ^ n.natAbs) ≤ 131080 := by
  have h1 := xbl_npow L n.natAbs
  have h2 : n.natAbs * xbl L ≤ 32 * 4096 := Nat.mul_le_mul (by omega) hLb
  omega
theorem pr_f (hL : 0 < L) (hLb : xbl L ≤ 4096) (hn : -32 ≤ n ∧ n ≤ 32) (hn0 : n ≠ 0) (hm : 2 ≤ most) (ex : x = pR most L n.natAbs) : 0 < x.1 ∧ 0 ≤ x.2.1 ∧ xbl x.1 + x.2.1.toNat ≤ 131081 ∧ xbl x.1 ≤ 131080 ∧ (x.2.2 = 0 ∨ x.2.2 = 1) := by
  have hJ := pR_J (most := most) (W := 2 ^ (32 * (most.toNat - 1))) (b := L) (n := n.natAbs) hm rfl hL (by omega) (by omega)
  rw [← ex] at hJ
  have hb := pr_b hL hLb hn
  obtain ⟨h1, h2, h3, -, -, -, h7⟩ := hJ
  unfold pA at h3
  have h4 := xbl_mono h3
  have h5 := xbl_pow x.1 x.2.1.toNat (by omega)
  exact ⟨h1, h2, by omega, by omega, h7⟩
theorem f_p0 (hL : 0 < L) (hLb : xbl L ≤ 4096) (hn : -32 ≤ n ∧ n ≤ 32) (hn0 : 0 < n) (hm : 2 ≤ most) (ex : x = pR most L n.natAbs) (hc : x.2.2 = 0) : fpOk p n L x.2.1 x.2.2 x.1 := by
  obtain ⟨f1, f2, f3, f4, f5⟩ := pr_f hL hLb hn (by omega) hm ex
  have hJ := pR_J (most := most) (W := 2 ^ (32 * (most.toNat - 1))) (b := L) (n := n.natAbs) hm rfl hL (by omega) (by omega)
  rw [← ex] at hJ
  have hA := hJ.2.2.2.2.1 hc
  refine ⟨by omega, by omega, f5, Or.inl hc, (by omega), fun least greatest gradual sg mode e f => ?_⟩
  unfold pwO
  rw [if_pos hn0, hc, ← hA]
  unfold pA
  have := oR_sc (p := (p : Int)) (least := least) (greatest := greatest) (gradual := gradual) (sg := sg) (mode := mode) (e := x.2.1 + e) (f := f) (m := x.1) (k := x.2.1.toNat) (by omega)
  rw [← this, show x.2.1 + e - (x.2.1.toNat : Int) = e by omega]
theorem pR_s0 (hL : 0 < L) (ho : L % 2 = 1) (hn : -32 ≤ n ∧ n ≤ 32) (hn0 : n ≠ 0) (hm : 2 ≤ most) (ex : x = pR most L n.natAbs) (hc : x.2.2 = 0) : x.2.1 = 0 := by
  have hJ := pR_J (most := most) (W := 2 ^ (32 * (most.toNat - 1))) (b := L) (n := n.natAbs) hm rfl hL (by omega) (by omega)
  rw [← ex] at hJ
  have hA := hJ.2.2.2.2.1 hc
  have h0 := hJ.2.1
  unfold pA at hA
  have hodd := odd_pow ho n.natAbs
  rw [← hA] at hodd
  rcases Nat.eq_zero_or_pos x.2.1.toNat with z | z
  · omega
  · rw [show x.2.1.toNat = (x.2.1.toNat - 1) + 1 by omega, Nat.pow_succ, ← Nat.mul_assoc, Nat.mul_mod_left] at hodd
    exact absurd hodd (by decide)
theorem wide (hL : 0 < L) (hn0 : n ≠ 0) (hn : -32 ≤ n ∧ n ≤ 32) (hm : (p : Int) / 32 + 4 ≤ most) (ex : x = pR most L n.natAbs) (hc : x.2.2 ≠ 0) : p + 66 ≤ xbl x.1 ∧ 2 ^ 64 ≤ x.1 := by
  have h1 := pR_W (most := most) (W := 2 ^ (32 * (most.toNat - 1))) (b := L) (n := n.natAbs) (by omega) rfl hL (by omega)
  rw [← ex] at h1
  have h2 := h1 hc
  have h3 := xbl_ge h2
  refine ⟨by omega, Nat.le_trans (Nat.pow_le_pow_right (by omega) (by omega)) h2⟩
theorem f_p1 (hL : 0 < L) (hLb : xbl L ≤ 4096) (hp : p ≤ 4096) (hn : -32 ≤ n ∧ n ≤ 32) (hn0 : 0 < n) (hm : (p : Int) / 32 + 4 ≤ most) (ex : x = pR most L n.natAbs) (hc : x.2.2 ≠ 0) (hb : (xbl x.1 - p - 1 : Nat) = ((xbl x.1 : Int) - p - 1).toNat) (hbit : bb (nbit (x.1 + 2 ^ 42) ((xbl x.1 : Int) - p - 1)) = bb (nbit x.1 ((xbl x.1 : Int) - p - 1))) : fpOk p n L x.2.1 x.2.2 x.1 := by
  obtain ⟨f1, f2, f3, f4, f5⟩ := pr_f hL hLb hn (by omega) (by omega) ex
  have hJ := pR_J (most := most) (W := 2 ^ (32 * (most.toNat - 1))) (b := L) (n := n.natAbs) (by omega) rfl hL (by omega) (by omega)
  rw [← ex] at hJ
  obtain ⟨w1, w2⟩ := wide hL (by omega) hn hm ex hc
  have hxb : (xbl x.1 : Int) ≤ 32 * most := by rw [ex]; exact pF_b (by omega) _ _ (by show ((xbl 1 : Nat) : Int) ≤ _; rw [xbl_one]; omega)
  have ht := pJ_top (by omega) rfl hJ hxb
  have hlt := hJ.2.2.2.2.2.1 hc
  have hc1 : x.2.2 = 1 := by omega
  replace hbit := (nb_eq (by omega) hbit).symm
  rw [← hb] at hbit
  refine ⟨by omega, by omega, f5, Or.inr (by omega), (by omega), fun least greatest gradual sg mode e f => ?_⟩
  unfold pwO
  rw [if_pos hn0, hc1]
  have := fp_up (least := least) (greatest := greatest) (gradual := gradual) (sg := sg) (mode := mode) (e := e) (f := f) (p := p) (T := L ^ n.natAbs) (M := x.1) (s := x.2.1.toNat) (b := xbl x.1 - p - 1) (by omega) (by omega) hbit hlt ht
  rw [show ((x.2.1.toNat : Nat) : Int) = x.2.1 by omega] at this
  exact this
theorem f_n0 (hL : 0 < L) (hLb : xbl L ≤ 4096) (hp : p ≤ 4096) (ho : L % 2 = 1) (hn : -32 ≤ n ∧ n ≤ 32) (hn0 : n < 0) (hm : 2 ≤ most) (ex : x = pR most L n.natAbs) (hc : x.2.2 = 0) (hs0 : x.2.1 = 0) : fpOk p n L (if xbl x.1 = 1 then -x.2.1 - 0 else -x.2.1 - ((xbl x.1 + (p + 3) : Nat) : Int)) (if xbl x.1 = 1 then 0 else 1) (if xbl x.1 = 1 then 2 ^ 0 / x.1 else 2 ^ (xbl x.1 + (p + 3)) / x.1) := by
  obtain ⟨f1, f2, f3, f4, f5⟩ := pr_f hL hLb hn (by omega) hm ex
  have hJ := pR_J (most := most) (W := 2 ^ (32 * (most.toNat - 1))) (b := L) (n := n.natAbs) hm rfl hL (by omega) (by omega)
  rw [← ex] at hJ
  have hA := hJ.2.2.2.2.1 hc
  unfold pA at hA
  rw [hs0, show (0 : Int).toNat = 0 from rfl, Nat.pow_zero, Nat.mul_one] at hA
  have hodd := odd_pow ho n.natAbs
  rw [← hA] at hodd
  by_cases h1 : xbl x.1 = 1
  · have hx1 : x.1 = 1 := by
      have := xbl_lt x.1
      rw [h1] at this
      omega
    rw [if_pos h1, if_pos h1, if_pos h1, hx1, hs0]
    refine ⟨by decide, by decide, Or.inl rfl, Or.inl rfl, Or.inr ⟨hn0, by decide, by decide⟩, fun least greatest gradual sg mode e f => ?_⟩
    unfold pwO
    rw [if_neg (by omega), ← hA, hx1, show (-(0 : Int) - 0 + e) = e by omega]
    exact fp_one
  · have hx1 : 1 < x.1 := by
      rcases (show x.1 = 1 ∨ 1 < x.1 by omega) with e | e
      · rw [e, xbl_one] at h1; exact absurd rfl h1
      · exact e
    have r1 := xbl_ge (rc_ge f1 (xbl x.1 + (p + 3)) (p + 3) (by omega))
    rw [Nat.one_mul] at r1
    have r2 := xbl_mono (Nat.div_le_self (2 ^ (xbl x.1 + (p + 3))) x.1)
    rw [xbl_2pow] at r2
    rw [if_neg h1, if_neg h1, if_neg h1, hs0]
    refine ⟨fun e => by rw [e, xbl_zero] at r1; omega, by omega, Or.inr rfl, Or.inr (by omega), (by omega), fun least greatest gradual sg mode e f => ?_⟩
    unfold pwO
    rw [if_neg (by omega), ← hA, show (-(0 : Int) - ((xbl x.1 + (p + 3) : Nat) : Int) + e) = e - ((xbl x.1 + (p + 3) : Nat) : Int) by omega]
    exact fp_ex hodd hx1
theorem inv_x (hL : 0 < L) (hLb : xbl L ≤ 4096) (hn : -32 ≤ n ∧ n ≤ 32) (hn0 : n < 0) (hm : (p : Int) / 32 + 4 ≤ most) (ex : x = pR most L n.natAbs) (hc : x.2.2 ≠ 0) : (2 ^ (xbl x.1 + xbl x.1) / x.1 - 2 ^ 40) * L ^ n.natAbs < 2 ^ (xbl x.1 + xbl x.1 + x.2.1.toNat) ∧ 2 ^ (xbl x.1 + xbl x.1 + x.2.1.toNat) < (2 ^ (xbl x.1 + xbl x.1) / x.1 - 2 ^ 40 + 2 ^ 42) * L ^ n.natAbs ∧ 2 ^ 40 ≤ 2 ^ (xbl x.1 + xbl x.1) / x.1 ∧ xbl x.1 ≤ xbl (2 ^ (xbl x.1 + xbl x.1) / x.1 - 2 ^ 40) ∧ xbl (2 ^ (xbl x.1 + xbl x.1) / x.1 - 2 ^ 40) ≤ xbl x.1 + 1 :=
  inv_near (most := most) (W := 2 ^ (32 * (most.toNat - 1))) (G := x.1) (P := L ^ n.natAbs) (sc := x.2.1.toNat) (m := 0) (by omega) rfl (wide hL (by omega) hn hm ex hc).2 (by rw [ex]; exact pF_b (by omega) _ _ (by show ((xbl 1 : Nat) : Int) ≤ _; rw [xbl_one]; omega)) (by
    have hJ := pR_K (most := most) (W := 2 ^ (32 * (most.toNat - 1))) (b := L) (n := n.natAbs) (by omega) rfl hL (by omega) (by omega)
    rw [← ex] at hJ
    exact hJ.2.2.2.2.2.1 hc) (by
    have hJ := pR_K (most := most) (W := 2 ^ (32 * (most.toNat - 1))) (b := L) (n := n.natAbs) (by omega) rfl hL (by omega) (by omega)
    rw [← ex] at hJ
    exact hJ.2.2.2.1)
theorem f_n1 (hL : 0 < L) (hLb : xbl L ≤ 4096) (hp : p ≤ 4096) (hn : -32 ≤ n ∧ n ≤ 32) (hn0 : n < 0) (hm : (p : Int) / 32 + 4 ≤ most ∧ most ≤ 300) (ex : x = pR most L n.natAbs) (hc : x.2.2 ≠ 0) {M : Nat} (eM : M = 2 ^ (xbl x.1 + xbl x.1) / x.1 - 2 ^ 40) (hbit : bb (nbit (M + 2 ^ 42) ((xbl M : Int) - p - 1)) = bb (nbit M ((xbl M : Int) - p - 1))) : fpOk p n L (-x.2.1 - ((xbl x.1 + xbl x.1 : Nat) : Int)) 1 M := by
  obtain ⟨f1, f2, f3, f4, f5⟩ := pr_f hL hLb hn (by omega) (by omega) ex
  obtain ⟨w1, w2⟩ := wide hL (by omega) hn hm.1 ex hc
  obtain ⟨i1, i2, i3, i4, i5⟩ := inv_x hL hLb hn hn0 hm.1 ex hc
  rw [← eM] at i1 i2 i4 i5
  have hxb : (xbl x.1 : Int) ≤ 32 * most := by rw [ex]; exact pF_b (by omega) _ _ (by show ((xbl 1 : Nat) : Int) ≤ _; rw [xbl_one]; omega)
  replace hbit := (nb_eq (by omega) hbit).symm
  rw [show ((xbl M : Int) - p - 1).toNat = xbl M - p - 1 by omega] at hbit
  refine ⟨fun e => by rw [e, xbl_zero] at i4; omega, by omega, Or.inr rfl, Or.inr (by omega), (by omega), fun least greatest gradual sg mode e f => ?_⟩
  unfold pwO
  rw [if_neg (by omega)]
  have := fp_dn (least := least) (greatest := greatest) (gradual := gradual) (sg := sg) (mode := mode) (e := e) (f := f) (p := p) (T := L ^ n.natAbs) (M := M) (A := xbl x.1 + xbl x.1 + x.2.1.toNat) (b := xbl M - p - 1) (by omega) (by omega) hbit (Nat.pow_pos hL) i1 i2
  rw [← this, show (-x.2.1 - ((xbl x.1 + xbl x.1 : Nat) : Int) + e) = e - ((xbl x.1 + xbl x.1 + x.2.1.toNat : Nat) : Int) by omega]
end
section
variable {w0 w : xW} {L Z : Nat} {S : Nat → Nat → Int} {V : Nat → Nat} {d p Lo : Nat} {n most : Int}

set_option maxHeartbeats 8000000 in
theorem x_formP (hR : cX w0 L Z S V w) (hpw : pwP S) (hL : V 99 = Lo) (hL0 : 0 < Lo) (hLb : xbl Lo ≤ 4096) (hLo : Lo % 2 = 1) (hn : -32 ≤ n ∧ n ≤ 32) (hnp : 0 < n) (hp : p ≤ 4096) (hmost : ((p : Int) / 32 + 4 ≤ most ∧ most ≤ 300) ∨ most = 16777216) : ∃ w' b, xRun (d + 6) 103 [Value.ref 93, Value.int (Int32.ofInt n), Value.int (Int32.ofInt (p : Int)), Value.int (Int32.ofInt most)] w (.inl (some (.int (Int32.ofInt (bb b))))) w' ∧ ∃ S' V', cX w0 L Z S' V' w' ∧ (∀ b j, b ≠ 79 → ¬ (b = 94 ∧ (j = 2 ∨ j = 3)) → S' b j = S b j) ∧ pwP S' ∧ (∀ i, i ≠ 80 → i ≠ 82 → i ≠ 84 → i ≠ 87 → i ≠ 89 → i ≠ 91 → i ≠ 95 → i ≠ 97 → V' i = V i) ∧ (b = true → fpOk p n Lo (S' 94 2) (S' 94 3) (V' 95)) ∧ (most = 16777216 → b = true) := by
  have key : ∀ lv, xld lv 0 = some (Value.ref 93) → xld lv 1 = some (Value.int (Int32.ofInt n)) → xld lv 2 = some (Value.int (Int32.ofInt (p : Int))) → xld lv 3 = some (Value.int (Int32.ofInt most)) → xEv (d + 6) 103 0 lv [] w (fun o w' => ∃ b, o = .inl (some (.int (Int32.ofInt (bb b)))) ∧ ∃ S' V', cX w0 L Z S' V' w' ∧ (∀ b j, b ≠ 79 → ¬ (b = 94 ∧ (j = 2 ∨ j = 3)) → S' b j = S b j) ∧ pwP S' ∧ (∀ i, i ≠ 80 → i ≠ 82 → i ≠ 84 → i ≠ 87 → i ≠ 89 → i ≠ 91 → i ≠ 95 → i ≠ 97 → V' i = V i) ∧ (b = true → fpOk p n Lo (S' 94 2) (S' 94 3) (V' 95)) ∧ (most = 16777216 → b = true)) := by
    intro lv l0 l1 l2 l3
    have hn0 : n ≠ 0 := by omega
    refine i_103_0 (x := 93) l0 ?_
    refine i_103_1 (v := Value.ref 79) (hR.k8 kq_93) rfl ?_
    refine i_103_4 (x := 93) l0 ?_
    refine i_103_5 (v := Value.ref 99) (hR.k8 kq_93) rfl ?_
    refine i_103_8 (x := Int32.ofInt n) l1 ?_
    have hrun := s_abs (d := d + 4) (w := w) (a := n) (by omega)
    refine i_103_9 (Nat.le_of_ble_eq_true rfl) hrun ?_
    refine i_103_12 (x := Int32.ofInt most) l3 ?_
    have hobj := hR.k6 kq_79
    obtain ⟨w, hrun, S1, V1, hv, hR, r1, r2, r3, r4, r5, r6, r7, r8, r9⟩ := x_raiseP (d := d) (hb := 99) (n := n.natAbs) (most := most) hR kq_99 (by decide) (by decide) (by decide) hpw ⟨by omega, by omega⟩ ⟨by omega, by omega⟩ (by rw [hL]; omega) (by
      rw [hL]
      rcases hmost with h | h
      · exact pOk_cut (by omega) (by omega) _ _ (by show ((xbl 1 : Nat) : Int) ≤ _; rw [xbl_one]; omega)
      · rw [h]; exact (pR_ex (most := 16777216) (b := Lo) (n := n.natAbs) (by decide) hL0 (by omega) (by have := pr_b hL0 hLb hn; omega)).2)
    rw [hL] at r5 r6 r7 r9
    obtain ⟨x, ex⟩ : ∃ x : PT, x = pR most Lo n.natAbs := ⟨_, rfl⟩
    rw [← ex] at r5 r6 r7 r9
    have khv : kd hv = 3 := by rcases r4 with rfl | rfl <;> decide +kernel
    obtain ⟨y1, y2, y3, y4, y5⟩ := pr_f hL0 hLb hn hn0 (by omega) ex
    have yv : xbl (V1 hv) ≤ 131080 := by rw [r7]; exact y4
    have p6 := r7
    have hexq : most = 16777216 → x.2.2 = 0 ∧ x.2.1 = 0 := fun h => by rw [ex, h, (pR_ex (most := 16777216) (b := Lo) (n := n.natAbs) (by decide) hL0 (by omega) (by have := pr_b hL0 hLb hn; omega)).1]; exact ⟨rfl, rfl⟩
    refine i_103_13 hobj (Nat.le_of_ble_eq_true rfl) hrun ?_
    by_cases hcut : x.2.2 = 0
    · refine i_103_16 (x := Int32.ofInt n) l1 ?_
      refine i_103_17 (z_le (a := n) ⟨by omega, by omega⟩ fun c0 => absurd c0 (by omega)) (z_gt (a := n) ⟨by omega, by omega⟩ fun c0 => ?_)
      refine i_103_20 (x := 93) l0 ?_
      refine i_103_21 (v := Value.ref 94) (hR.k8 kq_93) rfl ?_
      refine i_103_24 (v := Value.ref 95) (hR.k4 kq_94) rfl ?_
      refine i_103_27 (x := 93) l0 ?_
      refine i_103_28 (v := Value.ref 79) (hR.k8 kq_93) rfl ?_
      refine i_103_31 (v := Value.ref (S1 79 0).toNat) (hR.k6 kq_79) rfl ?_
      rw [show (S1 79 0).toNat = hv by rw [r3]; rfl]
      obtain ⟨fs, hobj⟩ := hR.nat kq_95
      obtain ⟨w, hrun, hR⟩ := X_set (d := d + 2) (h := 95) (h2 := hv) (u := x.1) hR kq_95 khv (by omega) (p6) (by omega)
      refine i_103_34 hobj (Nat.le_of_ble_eq_true rfl) hrun ?_
      refine i_103_37 (x := 93) l0 ?_
      refine i_103_38 (v := Value.ref 94) (hR.k8 kq_93) rfl ?_
      refine i_103_41 (x := 93) l0 ?_
      refine i_103_42 (v := Value.ref 79) (hR.k8 kq_93) rfl ?_
      refine i_103_45 (v := Value.int (Int32.ofInt (S1 79 3))) (hR.k6 kq_79) rfl ?_
      rw [r5]
      refine i_103_48 (fs2 := f4 94 (u1 (S1 94) 2 x.2.1)) (hR.k4 kq_94) (Nat.le_of_ble_eq_true rfl) rfl (h7k kq_94 (by decide)) ?_
      refine xgen (P := cX w0 L Z (u2 S1 94 2 x.2.1) (uv V1 95 x.1)) (hR.p4 kq_94) (fun w hR => ?_)
      refine i_103_51 (x := 93) l0 ?_
      refine i_103_52 (v := Value.ref 94) (hR.k8 kq_93) rfl ?_
      refine i_103_55 (x := 93) l0 ?_
      refine i_103_56 (v := Value.ref 79) (hR.k8 kq_93) rfl ?_
      refine i_103_59 (v := Value.int (Int32.ofInt ((u2 S1 94 2 x.2.1) 79 4))) (hR.k6 kq_79) rfl ?_
      rw [show Int32.ofInt ((u2 S1 94 2 x.2.1) 79 4) = Int32.ofInt (S1 79 4) by rw [u2_eq, if_neg (fun e => absurd e.2 (by decide))]]
      rw [r6]
      refine i_103_62 (fs2 := f4 94 (u1 ((u2 S1 94 2 x.2.1) 94) 3 x.2.2)) (hR.k4 kq_94) (o_bool (by omega)) (Nat.le_of_ble_eq_true rfl) rfl (h7k kq_94 (by decide)) ?_
      refine xgen (P := cX w0 L Z (u2 (u2 S1 94 2 x.2.1) 94 3 x.2.2) (uv V1 95 x.1)) (hR.p4 kq_94) (fun w hR => ?_)
      refine i_103_65 ?_
      refine i_103_73 (x := 93) l0 ?_
      refine i_103_74 (v := Value.ref 79) (hR.k8 kq_93) rfl ?_
      refine i_103_77 (v := Value.int (Int32.ofInt ((u2 (u2 S1 94 2 x.2.1) 94 3 x.2.2) 79 4))) (hR.k6 kq_79) rfl ?_
      rw [show Int32.ofInt ((u2 (u2 S1 94 2 x.2.1) 94 3 x.2.2) 79 4) = Int32.ofInt (S1 79 4) by rw [u2_eq, if_neg (fun e => absurd e.2 (by decide)), u2_eq, if_neg (fun e => absurd e.2 (by decide))]]
      rw [r6]
      refine i_103_80 (z_ne (a := x.2.2) ⟨by omega, by omega⟩ fun c1 => absurd c1 (by omega)) (z_eq (a := x.2.2) ⟨by omega, by omega⟩ fun c1 => ?_)
      refine i_103_83 ?_
      refine i_103_84 rfl ?_
      refine ⟨true, rfl, _, _, hR, fun b j b1 b2 => by rw [u2_eq, if_neg (by omega), u2_eq, if_neg (by omega), r1 b j b1], by unfold pwP at r2 ⊢; rw [u2_eq, if_neg (by omega), u2_eq, if_neg (by omega), u2_eq, if_neg (by omega), u2_eq, if_neg (by omega)]; exact r2, fun i i1 i2 i3 i4 i5 i6 i7 i8 => (uv_n (by omega)).trans (r8 i i1 i2 i3), ?_, ?_⟩
      · intro _
        rw [show (u2 (u2 S1 94 2 x.2.1) 94 3 x.2.2) 94 2 = x.2.1 by rw [u2_eq, if_neg (fun e => absurd e.2 (by decide)), u2_eq, if_pos ⟨rfl, rfl⟩], show (u2 (u2 S1 94 2 x.2.1) 94 3 x.2.2) 94 3 = x.2.2 by rw [u2_eq, if_pos ⟨rfl, rfl⟩], show (uv V1 95 x.1) 95 = x.1 from uv_s]
        exact f_p0 hL0 hLb hn (by omega) (by omega) ex ‹_›
      · exact fun _ => rfl
    · refine i_103_16 (x := Int32.ofInt n) l1 ?_
      refine i_103_17 (z_le (a := n) ⟨by omega, by omega⟩ fun c0 => absurd c0 (by omega)) (z_gt (a := n) ⟨by omega, by omega⟩ fun c0 => ?_)
      refine i_103_20 (x := 93) l0 ?_
      refine i_103_21 (v := Value.ref 94) (hR.k8 kq_93) rfl ?_
      refine i_103_24 (v := Value.ref 95) (hR.k4 kq_94) rfl ?_
      refine i_103_27 (x := 93) l0 ?_
      refine i_103_28 (v := Value.ref 79) (hR.k8 kq_93) rfl ?_
      refine i_103_31 (v := Value.ref (S1 79 0).toNat) (hR.k6 kq_79) rfl ?_
      rw [show (S1 79 0).toNat = hv by rw [r3]; rfl]
      obtain ⟨fs, hobj⟩ := hR.nat kq_95
      obtain ⟨w, hrun, hR⟩ := X_set (d := d + 2) (h := 95) (h2 := hv) (u := x.1) hR kq_95 khv (by omega) (p6) (by omega)
      refine i_103_34 hobj (Nat.le_of_ble_eq_true rfl) hrun ?_
      refine i_103_37 (x := 93) l0 ?_
      refine i_103_38 (v := Value.ref 94) (hR.k8 kq_93) rfl ?_
      refine i_103_41 (x := 93) l0 ?_
      refine i_103_42 (v := Value.ref 79) (hR.k8 kq_93) rfl ?_
      refine i_103_45 (v := Value.int (Int32.ofInt (S1 79 3))) (hR.k6 kq_79) rfl ?_
      rw [r5]
      refine i_103_48 (fs2 := f4 94 (u1 (S1 94) 2 x.2.1)) (hR.k4 kq_94) (Nat.le_of_ble_eq_true rfl) rfl (h7k kq_94 (by decide)) ?_
      refine xgen (P := cX w0 L Z (u2 S1 94 2 x.2.1) (uv V1 95 x.1)) (hR.p4 kq_94) (fun w hR => ?_)
      refine i_103_51 (x := 93) l0 ?_
      refine i_103_52 (v := Value.ref 94) (hR.k8 kq_93) rfl ?_
      refine i_103_55 (x := 93) l0 ?_
      refine i_103_56 (v := Value.ref 79) (hR.k8 kq_93) rfl ?_
      refine i_103_59 (v := Value.int (Int32.ofInt ((u2 S1 94 2 x.2.1) 79 4))) (hR.k6 kq_79) rfl ?_
      rw [show Int32.ofInt ((u2 S1 94 2 x.2.1) 79 4) = Int32.ofInt (S1 79 4) by rw [u2_eq, if_neg (fun e => absurd e.2 (by decide))]]
      rw [r6]
      refine i_103_62 (fs2 := f4 94 (u1 ((u2 S1 94 2 x.2.1) 94) 3 x.2.2)) (hR.k4 kq_94) (o_bool (by omega)) (Nat.le_of_ble_eq_true rfl) rfl (h7k kq_94 (by decide)) ?_
      refine xgen (P := cX w0 L Z (u2 (u2 S1 94 2 x.2.1) 94 3 x.2.2) (uv V1 95 x.1)) (hR.p4 kq_94) (fun w hR => ?_)
      refine i_103_65 ?_
      refine i_103_73 (x := 93) l0 ?_
      refine i_103_74 (v := Value.ref 79) (hR.k8 kq_93) rfl ?_
      refine i_103_77 (v := Value.int (Int32.ofInt ((u2 (u2 S1 94 2 x.2.1) 94 3 x.2.2) 79 4))) (hR.k6 kq_79) rfl ?_
      rw [show Int32.ofInt ((u2 (u2 S1 94 2 x.2.1) 94 3 x.2.2) 79 4) = Int32.ofInt (S1 79 4) by rw [u2_eq, if_neg (fun e => absurd e.2 (by decide)), u2_eq, if_neg (fun e => absurd e.2 (by decide))]]
      rw [r6]
      refine i_103_80 (z_ne (a := x.2.2) ⟨by omega, by omega⟩ fun c1 => ?_) (z_eq (a := x.2.2) ⟨by omega, by omega⟩ fun c1 => absurd c1 (by omega))
      refine i_103_85 (x := 93) l0 ?_
      refine i_103_86 (v := Value.ref 94) (hR.k8 kq_93) rfl ?_
      refine i_103_89 (v := Value.ref 95) (hR.k4 kq_94) rfl ?_
      obtain ⟨fs, hobj⟩ := hR.nat kq_95
      have hrun := X_bits (d := d + 4) (h := 95) (u := x.1) hR kq_95 (uv_s)
      refine i_103_92 hobj (Nat.le_of_ble_eq_true rfl) hrun ?_
      refine i_103_95 (x := Int32.ofInt (p : Int)) l2 ?_
      refine i_103_96 (c := Int32.ofInt ((xbl x.1 : Int) - (p : Int))) (o_sub (xbl x.1 : Int) (p : Int)) ?_
      refine i_103_97 ?_
      refine i_103_98 (c := Int32.ofInt (((xbl x.1 : Int) - (p : Int)) - 1)) (o_sub ((xbl x.1 : Int) - (p : Int)) 1) ?_
      refine i_103_99 rfl ?_
      refine lgen1 (i := 4) (v := Value.int (Int32.ofInt (((xbl x.1 : Int) - (p : Int)) - 1))) (fun lv lg ls => ?_)
      replace l0 := lg 0 _ rfl rfl l0
      replace l1 := lg 1 _ rfl rfl l1
      replace l2 := lg 2 _ rfl rfl l2
      replace l3 := lg 3 _ rfl rfl l3
      have l4 := ls
      refine i_103_101 (x := 93) l0 ?_
      refine i_103_102 (v := Value.ref 94) (hR.k8 kq_93) rfl ?_
      refine i_103_105 (v := Value.ref 95) (hR.k4 kq_94) rfl ?_
      refine i_103_108 (x := Int32.ofInt (((xbl x.1 : Int) - (p : Int)) - 1)) l4 ?_
      obtain ⟨fs, hobj⟩ := hR.nat kq_95
      have hrun := X_bit (d := d + 4) (h := 95) (u := x.1) (p := ((xbl x.1 : Int) - (p : Int)) - 1) hR kq_95 (uv_s) ⟨by omega, by omega⟩
      rw [bfn_bit] at hrun
      have hbb3 := bb_01 ((nbit x.1 (((xbl x.1 : Int) - (p : Int)) - 1)))
      refine i_103_110 hobj (Nat.le_of_ble_eq_true rfl) hrun ?_
      refine i_103_113 rfl ?_
      refine lgen1 (i := 5) (v := Value.int (Int32.ofInt (bb (nbit x.1 (((xbl x.1 : Int) - (p : Int)) - 1))))) (fun lv lg ls => ?_)
      replace l4 := lg 4 _ rfl rfl l4
      replace l0 := lg 0 _ rfl rfl l0
      replace l1 := lg 1 _ rfl rfl l1
      replace l2 := lg 2 _ rfl rfl l2
      replace l3 := lg 3 _ rfl rfl l3
      have l5 := ls
      refine i_103_115 (x := 93) l0 ?_
      refine i_103_116 (v := Value.ref 97) (hR.k8 kq_93) rfl ?_
      refine i_103_119 (x := 93) l0 ?_
      refine i_103_120 (v := Value.ref 94) (hR.k8 kq_93) rfl ?_
      refine i_103_123 (v := Value.ref 95) (hR.k4 kq_94) rfl ?_
      obtain ⟨fs, hobj⟩ := hR.nat kq_97
      obtain ⟨w, hrun, hR⟩ := X_set (d := d + 2) (h := 97) (h2 := 95) (u := x.1) hR kq_97 kq_95 (by omega) (uv_s) (by omega)
      refine i_103_126 hobj (Nat.le_of_ble_eq_true rfl) hrun ?_
      refine i_103_129 (x := 93) l0 ?_
      refine i_103_130 (v := Value.ref 97) (hR.k8 kq_93) rfl ?_
      refine i_103_133 ?_
      obtain ⟨fs, hobj⟩ := hR.nat kq_97
      obtain ⟨w, hrun, hR⟩ := X_addBit (d := d + 1) (h := 97) (u := x.1) (p := 42) hR kq_97 (uv_s) ⟨by decide, by decide⟩ (by omega)
      rw [show Int32.ofInt (42 : Int) = 42 from rfl] at hrun
      rw [uvv] at hR
      refine i_103_135 hobj (Nat.le_of_ble_eq_true rfl) hrun ?_
      refine i_103_138 (x := 93) l0 ?_
      refine i_103_139 (v := Value.ref 97) (hR.k8 kq_93) rfl ?_
      refine i_103_142 (x := Int32.ofInt (((xbl x.1 : Int) - (p : Int)) - 1)) l4 ?_
      obtain ⟨fs, hobj⟩ := hR.nat kq_97
      have hrun := X_bit (d := d + 4) (h := 97) (u := x.1 + 2 ^ (42 : Int).toNat) (p := ((xbl x.1 : Int) - (p : Int)) - 1) hR kq_97 (uv_s) ⟨by omega, by omega⟩
      rw [bfn_bit] at hrun
      have hbb4 := bb_01 ((nbit (x.1 + 2 ^ (42 : Int).toNat) (((xbl x.1 : Int) - (p : Int)) - 1)))
      refine i_103_144 hobj (Nat.le_of_ble_eq_true rfl) hrun ?_
      refine i_103_147 (x := Int32.ofInt (bb (nbit x.1 (((xbl x.1 : Int) - (p : Int)) - 1)))) l5 ?_
      refine i_103_149 (b_ne (a := bb (nbit (x.1 + 2 ^ (42 : Int).toNat) (((xbl x.1 : Int) - (p : Int)) - 1))) (b := bb (nbit x.1 (((xbl x.1 : Int) - (p : Int)) - 1))) ⟨by omega, by omega⟩ ⟨by omega, by omega⟩ fun c4 => ?_) (b_eq (a := bb (nbit (x.1 + 2 ^ (42 : Int).toNat) (((xbl x.1 : Int) - (p : Int)) - 1))) (b := bb (nbit x.1 (((xbl x.1 : Int) - (p : Int)) - 1))) ⟨by omega, by omega⟩ ⟨by omega, by omega⟩ fun c4 => ?_)
      · refine i_103_156 ?_
        refine i_103_157 rfl ?_
        refine ⟨false, rfl, _, _, hR, fun b j b1 b2 => by rw [u2_eq, if_neg (by omega), u2_eq, if_neg (by omega), r1 b j b1], by unfold pwP at r2 ⊢; rw [u2_eq, if_neg (by omega), u2_eq, if_neg (by omega), u2_eq, if_neg (by omega), u2_eq, if_neg (by omega)]; exact r2, fun i i1 i2 i3 i4 i5 i6 i7 i8 => (uv_n (by omega)).trans ((uv_n (by omega)).trans (r8 i i1 i2 i3)), ?_, ?_⟩
        · exact fun e => absurd e (by decide)
        · exact fun e => absurd (hexq e).1 ‹_›
      · refine i_103_152 ?_
        refine i_103_153 ?_
        refine i_103_157 rfl ?_
        refine ⟨true, rfl, _, _, hR, fun b j b1 b2 => by rw [u2_eq, if_neg (by omega), u2_eq, if_neg (by omega), r1 b j b1], by unfold pwP at r2 ⊢; rw [u2_eq, if_neg (by omega), u2_eq, if_neg (by omega), u2_eq, if_neg (by omega), u2_eq, if_neg (by omega)]; exact r2, fun i i1 i2 i3 i4 i5 i6 i7 i8 => (uv_n (by omega)).trans ((uv_n (by omega)).trans (r8 i i1 i2 i3)), ?_, ?_⟩
        · intro _
          rw [show (u2 (u2 S1 94 2 x.2.1) 94 3 x.2.2) 94 2 = x.2.1 by rw [u2_eq, if_neg (fun e => absurd e.2 (by decide)), u2_eq, if_pos ⟨rfl, rfl⟩], show (u2 (u2 S1 94 2 x.2.1) 94 3 x.2.2) 94 3 = x.2.2 by rw [u2_eq, if_pos ⟨rfl, rfl⟩], show (uv (uv V1 95 x.1) 97 (x.1 + 2 ^ (42 : Int).toNat)) 95 = x.1 from (uv_n (by omega)).trans (uv_s)]
          have hw9 := wide hL0 hn0 hn (show (p : Int) / 32 + 4 ≤ most by rcases hmost with h | h; exact h.1; exact absurd (hexq h).1 ‹_›) ex ‹_›
          exact f_p1 hL0 hLb hp hn (by omega) (by rcases hmost with h | h; exact h.1; exact absurd (hexq h).1 ‹_›) ex hcut (by omega) ‹_›
        · exact fun _ => rfl
  obtain ⟨o, w', h1, b, rfl, h2⟩ := (key (lv_args 0 [Value.ref 93, Value.int (Int32.ofInt n), Value.int (Int32.ofInt (p : Int)), Value.int (Int32.ofInt most)]) rfl rfl rfl rfl).run
  exact ⟨w', b, h1, h2⟩
set_option maxHeartbeats 8000000 in
theorem x_formN (hR : cX w0 L Z S V w) (hpw : pwP S) (hL : V 99 = Lo) (hL0 : 0 < Lo) (hLb : xbl Lo ≤ 4096) (hLo : Lo % 2 = 1) (hn : -32 ≤ n ∧ n ≤ 32) (hnp : n < 0) (hp : p ≤ 4096) (hmost : ((p : Int) / 32 + 4 ≤ most ∧ most ≤ 300) ∨ most = 16777216) : ∃ w' b, xRun (d + 6) 103 [Value.ref 93, Value.int (Int32.ofInt n), Value.int (Int32.ofInt (p : Int)), Value.int (Int32.ofInt most)] w (.inl (some (.int (Int32.ofInt (bb b))))) w' ∧ ∃ S' V', cX w0 L Z S' V' w' ∧ (∀ b j, b ≠ 79 → ¬ (b = 94 ∧ (j = 2 ∨ j = 3)) → S' b j = S b j) ∧ pwP S' ∧ (∀ i, i ≠ 80 → i ≠ 82 → i ≠ 84 → i ≠ 87 → i ≠ 89 → i ≠ 91 → i ≠ 95 → i ≠ 97 → V' i = V i) ∧ (b = true → fpOk p n Lo (S' 94 2) (S' 94 3) (V' 95)) ∧ (most = 16777216 → b = true) := by
  have key : ∀ lv, xld lv 0 = some (Value.ref 93) → xld lv 1 = some (Value.int (Int32.ofInt n)) → xld lv 2 = some (Value.int (Int32.ofInt (p : Int))) → xld lv 3 = some (Value.int (Int32.ofInt most)) → xEv (d + 6) 103 0 lv [] w (fun o w' => ∃ b, o = .inl (some (.int (Int32.ofInt (bb b)))) ∧ ∃ S' V', cX w0 L Z S' V' w' ∧ (∀ b j, b ≠ 79 → ¬ (b = 94 ∧ (j = 2 ∨ j = 3)) → S' b j = S b j) ∧ pwP S' ∧ (∀ i, i ≠ 80 → i ≠ 82 → i ≠ 84 → i ≠ 87 → i ≠ 89 → i ≠ 91 → i ≠ 95 → i ≠ 97 → V' i = V i) ∧ (b = true → fpOk p n Lo (S' 94 2) (S' 94 3) (V' 95)) ∧ (most = 16777216 → b = true)) := by
    intro lv l0 l1 l2 l3
    have hn0 : n ≠ 0 := by omega
    refine i_103_0 (x := 93) l0 ?_
    refine i_103_1 (v := Value.ref 79) (hR.k8 kq_93) rfl ?_
    refine i_103_4 (x := 93) l0 ?_
    refine i_103_5 (v := Value.ref 99) (hR.k8 kq_93) rfl ?_
    refine i_103_8 (x := Int32.ofInt n) l1 ?_
    have hrun := s_abs (d := d + 4) (w := w) (a := n) (by omega)
    refine i_103_9 (Nat.le_of_ble_eq_true rfl) hrun ?_
    refine i_103_12 (x := Int32.ofInt most) l3 ?_
    have hobj := hR.k6 kq_79
    obtain ⟨w, hrun, S1, V1, hv, hR, r1, r2, r3, r4, r5, r6, r7, r8, r9⟩ := x_raiseP (d := d) (hb := 99) (n := n.natAbs) (most := most) hR kq_99 (by decide) (by decide) (by decide) hpw ⟨by omega, by omega⟩ ⟨by omega, by omega⟩ (by rw [hL]; omega) (by
      rw [hL]
      rcases hmost with h | h
      · exact pOk_cut (by omega) (by omega) _ _ (by show ((xbl 1 : Nat) : Int) ≤ _; rw [xbl_one]; omega)
      · rw [h]; exact (pR_ex (most := 16777216) (b := Lo) (n := n.natAbs) (by decide) hL0 (by omega) (by have := pr_b hL0 hLb hn; omega)).2)
    rw [hL] at r5 r6 r7 r9
    obtain ⟨x, ex⟩ : ∃ x : PT, x = pR most Lo n.natAbs := ⟨_, rfl⟩
    rw [← ex] at r5 r6 r7 r9
    have khv : kd hv = 3 := by rcases r4 with rfl | rfl <;> decide +kernel
    obtain ⟨y1, y2, y3, y4, y5⟩ := pr_f hL0 hLb hn hn0 (by omega) ex
    have yv : xbl (V1 hv) ≤ 131080 := by rw [r7]; exact y4
    have p6 := r7
    have hexq : most = 16777216 → x.2.2 = 0 ∧ x.2.1 = 0 := fun h => by rw [ex, h, (pR_ex (most := 16777216) (b := Lo) (n := n.natAbs) (by decide) hL0 (by omega) (by have := pr_b hL0 hLb hn; omega)).1]; exact ⟨rfl, rfl⟩
    refine i_103_13 hobj (Nat.le_of_ble_eq_true rfl) hrun ?_
    by_cases hcut : x.2.2 = 0
    · refine i_103_16 (x := Int32.ofInt n) l1 ?_
      refine i_103_17 (z_le (a := n) ⟨by omega, by omega⟩ fun c0 => ?_) (z_gt (a := n) ⟨by omega, by omega⟩ fun c0 => absurd c0 (by omega))
      refine i_103_68 (x := 93) l0 ?_
      refine i_103_69 (x := Int32.ofInt (p : Int)) l2 ?_
      have hobj := hR.k8 kq_93
      have hs0 : x.2.1 = 0 := pR_s0 hL0 hLo hn hn0 (by omega) ex hcut
      obtain ⟨w, hrun, S2, V2, hR, g1, g2, g3, g4, g5⟩ := x_inv0 (d := d) (hv := hv) (p := p) hR r3 r4 (by rw [r7]; omega) (by omega) hp (by rw [r6]; omega)
      rw [r7, r5] at g2
      rw [r7] at g3 g4
      have z4 : S2 79 4 = x.2.2 := (g1 79 4 (by omega)).trans r6
      refine i_103_70 hobj (Nat.le_of_ble_eq_true rfl) hrun ?_
      refine i_103_73 (x := 93) l0 ?_
      refine i_103_74 (v := Value.ref 79) (hR.k8 kq_93) rfl ?_
      refine i_103_77 (v := Value.int (Int32.ofInt (S2 79 4))) (hR.k6 kq_79) rfl ?_
      rw [z4]
      refine i_103_80 (z_ne (a := x.2.2) ⟨by omega, by omega⟩ fun c1 => absurd c1 (by omega)) (z_eq (a := x.2.2) ⟨by omega, by omega⟩ fun c1 => ?_)
      refine i_103_83 ?_
      refine i_103_84 rfl ?_
      refine ⟨true, rfl, _, _, hR, fun b j b1 b2 => (g1 b j b2).trans (r1 b j b1), by unfold pwP at r2 ⊢; rw [g1 79 0 (by omega), g1 79 1 (by omega)]; exact r2, fun i i1 i2 i3 i4 i5 i6 i7 i8 => (g5 i i4 i5 i6 i7 i8).trans (r8 i i1 i2 i3), ?_, ?_⟩
      · intro _
        rw [g2, g3, g4]
        exact f_n0 hL0 hLb hp hLo hn (by omega) (by omega) ex ‹_› hs0
      · exact fun _ => rfl
    · refine i_103_16 (x := Int32.ofInt n) l1 ?_
      refine i_103_17 (z_le (a := n) ⟨by omega, by omega⟩ fun c0 => ?_) (z_gt (a := n) ⟨by omega, by omega⟩ fun c0 => absurd c0 (by omega))
      refine i_103_68 (x := 93) l0 ?_
      refine i_103_69 (x := Int32.ofInt (p : Int)) l2 ?_
      have hobj := hR.k8 kq_93
      have hms : (p : Int) / 32 + 4 ≤ most ∧ most ≤ 300 := by rcases hmost with h | h; exact h; exact absurd (hexq h).1 hcut
      obtain ⟨w1, w2⟩ := wide hL0 hn0 hn hms.1 ex hcut
      obtain ⟨i1, i2, i3, i4, i5⟩ := inv_x hL0 hLb hn (by omega) hms.1 ex hcut
      have hxb : (xbl x.1 : Int) ≤ 32 * most := by rw [ex]; exact pF_b (by omega) _ _ (by show ((xbl 1 : Nat) : Int) ≤ _; rw [xbl_one]; omega)
      obtain ⟨w, hrun, S2, V2, hR, g1, g2, g3, g4, g5⟩ := x_inv1 (d := d) (hv := hv) (p := p) hR r3 r4 (by rw [r7]; omega) (by omega) hp (by rw [r6]; omega) (by rw [r7]; omega) (by rw [r7]; exact i3)
      rw [r7, r5] at g2
      rw [r7] at g4
      have z4 : S2 79 4 = x.2.2 := (g1 79 4 (by omega)).trans r6
      have yM : xbl (V2 95) ≤ 131081 ∧ p + 66 ≤ xbl (V2 95) := by rw [g4]; omega
      refine i_103_70 hobj (Nat.le_of_ble_eq_true rfl) hrun ?_
      refine i_103_73 (x := 93) l0 ?_
      refine i_103_74 (v := Value.ref 79) (hR.k8 kq_93) rfl ?_
      refine i_103_77 (v := Value.int (Int32.ofInt (S2 79 4))) (hR.k6 kq_79) rfl ?_
      rw [z4]
      refine i_103_80 (z_ne (a := x.2.2) ⟨by omega, by omega⟩ fun c1 => ?_) (z_eq (a := x.2.2) ⟨by omega, by omega⟩ fun c1 => absurd c1 (by omega))
      refine i_103_85 (x := 93) l0 ?_
      refine i_103_86 (v := Value.ref 94) (hR.k8 kq_93) rfl ?_
      refine i_103_89 (v := Value.ref 95) (hR.k4 kq_94) rfl ?_
      obtain ⟨fs, hobj⟩ := hR.nat kq_95
      have hrun := X_bits (d := d + 4) (h := 95) (u := V2 95) hR kq_95 (rfl)
      refine i_103_92 hobj (Nat.le_of_ble_eq_true rfl) hrun ?_
      refine i_103_95 (x := Int32.ofInt (p : Int)) l2 ?_
      refine i_103_96 (c := Int32.ofInt ((xbl (V2 95) : Int) - (p : Int))) (o_sub (xbl (V2 95) : Int) (p : Int)) ?_
      refine i_103_97 ?_
      refine i_103_98 (c := Int32.ofInt (((xbl (V2 95) : Int) - (p : Int)) - 1)) (o_sub ((xbl (V2 95) : Int) - (p : Int)) 1) ?_
      refine i_103_99 rfl ?_
      refine lgen1 (i := 4) (v := Value.int (Int32.ofInt (((xbl (V2 95) : Int) - (p : Int)) - 1))) (fun lv lg ls => ?_)
      replace l0 := lg 0 _ rfl rfl l0
      replace l1 := lg 1 _ rfl rfl l1
      replace l2 := lg 2 _ rfl rfl l2
      replace l3 := lg 3 _ rfl rfl l3
      have l4 := ls
      refine i_103_101 (x := 93) l0 ?_
      refine i_103_102 (v := Value.ref 94) (hR.k8 kq_93) rfl ?_
      refine i_103_105 (v := Value.ref 95) (hR.k4 kq_94) rfl ?_
      refine i_103_108 (x := Int32.ofInt (((xbl (V2 95) : Int) - (p : Int)) - 1)) l4 ?_
      obtain ⟨fs, hobj⟩ := hR.nat kq_95
      have hrun := X_bit (d := d + 4) (h := 95) (u := V2 95) (p := ((xbl (V2 95) : Int) - (p : Int)) - 1) hR kq_95 (rfl) ⟨by omega, by omega⟩
      rw [bfn_bit] at hrun
      have hbb3 := bb_01 ((nbit (V2 95) (((xbl (V2 95) : Int) - (p : Int)) - 1)))
      refine i_103_110 hobj (Nat.le_of_ble_eq_true rfl) hrun ?_
      refine i_103_113 rfl ?_
      refine lgen1 (i := 5) (v := Value.int (Int32.ofInt (bb (nbit (V2 95) (((xbl (V2 95) : Int) - (p : Int)) - 1))))) (fun lv lg ls => ?_)
      replace l4 := lg 4 _ rfl rfl l4
      replace l0 := lg 0 _ rfl rfl l0
      replace l1 := lg 1 _ rfl rfl l1
      replace l2 := lg 2 _ rfl rfl l2
      replace l3 := lg 3 _ rfl rfl l3
      have l5 := ls
      refine i_103_115 (x := 93) l0 ?_
      refine i_103_116 (v := Value.ref 97) (hR.k8 kq_93) rfl ?_
      refine i_103_119 (x := 93) l0 ?_
      refine i_103_120 (v := Value.ref 94) (hR.k8 kq_93) rfl ?_
      refine i_103_123 (v := Value.ref 95) (hR.k4 kq_94) rfl ?_
      obtain ⟨fs, hobj⟩ := hR.nat kq_97
      obtain ⟨w, hrun, hR⟩ := X_set (d := d + 2) (h := 97) (h2 := 95) (u := V2 95) hR kq_97 kq_95 (by omega) (rfl) (by omega)
      refine i_103_126 hobj (Nat.le_of_ble_eq_true rfl) hrun ?_
      refine i_103_129 (x := 93) l0 ?_
      refine i_103_130 (v := Value.ref 97) (hR.k8 kq_93) rfl ?_
      refine i_103_133 ?_
      obtain ⟨fs, hobj⟩ := hR.nat kq_97
      obtain ⟨w, hrun, hR⟩ := X_addBit (d := d + 1) (h := 97) (u := V2 95) (p := 42) hR kq_97 (uv_s) ⟨by decide, by decide⟩ (by omega)
      rw [show Int32.ofInt (42 : Int) = 42 from rfl] at hrun
      rw [uvv] at hR
      refine i_103_135 hobj (Nat.le_of_ble_eq_true rfl) hrun ?_
      refine i_103_138 (x := 93) l0 ?_
      refine i_103_139 (v := Value.ref 97) (hR.k8 kq_93) rfl ?_
      refine i_103_142 (x := Int32.ofInt (((xbl (V2 95) : Int) - (p : Int)) - 1)) l4 ?_
      obtain ⟨fs, hobj⟩ := hR.nat kq_97
      have hrun := X_bit (d := d + 4) (h := 97) (u := (V2 95) + 2 ^ (42 : Int).toNat) (p := ((xbl (V2 95) : Int) - (p : Int)) - 1) hR kq_97 (uv_s) ⟨by omega, by omega⟩
      rw [bfn_bit] at hrun
      have hbb4 := bb_01 ((nbit ((V2 95) + 2 ^ (42 : Int).toNat) (((xbl (V2 95) : Int) - (p : Int)) - 1)))
      refine i_103_144 hobj (Nat.le_of_ble_eq_true rfl) hrun ?_
      refine i_103_147 (x := Int32.ofInt (bb (nbit (V2 95) (((xbl (V2 95) : Int) - (p : Int)) - 1)))) l5 ?_
      refine i_103_149 (b_ne (a := bb (nbit ((V2 95) + 2 ^ (42 : Int).toNat) (((xbl (V2 95) : Int) - (p : Int)) - 1))) (b := bb (nbit (V2 95) (((xbl (V2 95) : Int) - (p : Int)) - 1))) ⟨by omega, by omega⟩ ⟨by omega, by omega⟩ fun c4 => ?_) (b_eq (a := bb (nbit ((V2 95) + 2 ^ (42 : Int).toNat) (((xbl (V2 95) : Int) - (p : Int)) - 1))) (b := bb (nbit (V2 95) (((xbl (V2 95) : Int) - (p : Int)) - 1))) ⟨by omega, by omega⟩ ⟨by omega, by omega⟩ fun c4 => ?_)
      · refine i_103_156 ?_
        refine i_103_157 rfl ?_
        refine ⟨false, rfl, _, _, hR, fun b j b1 b2 => (g1 b j b2).trans (r1 b j b1), by unfold pwP at r2 ⊢; rw [g1 79 0 (by omega), g1 79 1 (by omega)]; exact r2, fun i i1 i2 i3 i4 i5 i6 i7 i8 => (uv_n (by omega)).trans ((g5 i i4 i5 i6 i7 i8).trans (r8 i i1 i2 i3)), ?_, ?_⟩
        · exact fun e => absurd e (by decide)
        · exact fun e => absurd (hexq e).1 ‹_›
      · refine i_103_152 ?_
        refine i_103_153 ?_
        refine i_103_157 rfl ?_
        refine ⟨true, rfl, _, _, hR, fun b j b1 b2 => (g1 b j b2).trans (r1 b j b1), by unfold pwP at r2 ⊢; rw [g1 79 0 (by omega), g1 79 1 (by omega)]; exact r2, fun i i1 i2 i3 i4 i5 i6 i7 i8 => (uv_n (by omega)).trans ((g5 i i4 i5 i6 i7 i8).trans (r8 i i1 i2 i3)), ?_, ?_⟩
        · intro _
          rw [g2, g3, show (uv V2 97 ((V2 95) + 2 ^ (42 : Int).toNat)) 95 = V2 95 from (uv_n (by omega)).trans (rfl)]
          exact f_n1 hL0 hLb hp hn (by omega) hms ex hcut g4 ‹_›
        · exact fun _ => rfl
  obtain ⟨o, w', h1, b, rfl, h2⟩ := (key (lv_args 0 [Value.ref 93, Value.int (Int32.ofInt n), Value.int (Int32.ofInt (p : Int)), Value.int (Int32.ofInt most)]) rfl rfl rfl rfl).run
  exact ⟨w', b, h1, h2⟩
end
