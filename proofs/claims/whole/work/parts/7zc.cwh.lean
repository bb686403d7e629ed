/-! whole of the class -/
/-- what rounding leaves is a register's content -/
def okO (p : Int) (k T : Int) (M : Nat) : Prop := (1 ≤ k ∧ k ≤ 3) ∧ (k ≠ 3 ∨ (-20479 ≤ T ∧ T ≤ 16384)) ∧ (k = 3 → (xbl M : Int) = p)
theorem okO_n {p k T : Int} {M : Nat} (h : k = 1 ∨ k = 2) : okO p k T M := ⟨by omega, Or.inl (by omega), fun e => by omega⟩
theorem rD_ok {p least greatest gradual sg mode x more : Int} {m q : Nat} {u way f : Int} (hp : 2 ≤ p ∧ p ≤ 4096) (hl : -16384 ≤ least ∧ least ≤ greatest ∧ greatest ≤ 16384) (hu : u = rU p least gradual 0 x) : okO p (rD p least greatest gradual 0 sg mode x more m q u way f).1 (rD p least greatest gradual 0 sg mode x more m q u way f).2.1 (rD p least greatest gradual 0 sg mode x more m q u way f).2.2.1 := by
  have hon : xbl (2 ^ p.toNat - 1) = p.toNat := xbl_ones _
  have h2 : 2 ^ p.toNat - 1 ≠ 0 := by
    intro e
    rw [e, xbl_zero] at hon
    omega
  unfold rD
  split
  · split
    · exact okO_n (Or.inl rfl)
    · exact ⟨⟨(by decide : (1 : Int) ≤ 3), (by decide : (3 : Int) ≤ 3)⟩, Or.inr ⟨(by omega : -20479 ≤ (xbl (2 ^ p.toNat - 1) : Int) + (greatest - p)), (by omega : (xbl (2 ^ p.toNat - 1) : Int) + (greatest - p) ≤ 16384)⟩, fun _ => xbl_nrm h2 (by omega)⟩
  · rename_i h1
    split
    · exact okO_n (Or.inr rfl)
    · rename_i hq
      have hq1 : 1 ≤ xbl q := by
        rcases Nat.eq_zero_or_pos (xbl q) with e | e
        · exact absurd (xbl_nz.mp e) hq
        · exact e
      split
      · split
        · exact ⟨⟨(by decide : (1 : Int) ≤ 3), (by decide : (3 : Int) ≤ 3)⟩, Or.inr ⟨(by rw [show xbl 1 = 1 from rfl]; omega : -20479 ≤ (xbl 1 : Int) + (least - 1)), (by rw [show xbl 1 = 1 from rfl]; omega : (xbl 1 : Int) + (least - 1) ≤ 16384)⟩, fun _ => xbl_nrm (by decide) (by omega)⟩
        · exact okO_n (Or.inr rfl)
      · rename_i h3
        have hT : (xbl q : Int) + u ≤ greatest := by
          rcases Int.lt_or_le greatest (xbl q + u) with g | g
          · exact absurd ⟨rfl, hq, g⟩ h1
          · exact g
        have hL : least - p + 1 ≤ (xbl q : Int) + u := by
          by_cases g : gradual = 0
          · rcases Int.lt_or_le (xbl q + u) least with g2 | g2
            · exact absurd ⟨rfl, g, g2⟩ h3
            · omega
          · unfold rU at hu
            by_cases g2 : x < least
            · rw [if_pos ⟨rfl, g, g2⟩] at hu; omega
            · rw [if_neg (fun e => g2 e.2.2)] at hu; omega
        exact ⟨⟨(by decide : (1 : Int) ≤ 3), (by decide : (3 : Int) ≤ 3)⟩, Or.inr ⟨(by omega : -20479 ≤ (xbl q : Int) + u), (by omega : (xbl q : Int) + u ≤ 16384)⟩, fun _ => xbl_nrm hq (by omega)⟩
theorem rnd_ok {p least greatest gradual sg mode more e f : Int} {m : Nat} (hp : 2 ≤ p ∧ p ≤ 4096) (hl : -16384 ≤ least ∧ least ≤ greatest ∧ greatest ≤ 16384) : okO p (rnd p least greatest gradual 0 sg mode more m e f).1 (rnd p least greatest gradual 0 sg mode more m e f).2.1 (rnd p least greatest gradual 0 sg mode more m e f).2.2.1 := by
  unfold rnd
  exact rD_ok hp hl rfl
theorem nbit_any {m : Nat} {c : Int} (h : nany m c = false) : nbit m (c - 1) = false := by
  unfold nany at h
  unfold nbit
  by_cases g : 0 ≤ c - 1
  · have h1 : m % 2 ^ c.toNat = 0 := by
      rcases Nat.eq_zero_or_pos (m % 2 ^ c.toNat) with e | e
      · exact e
      · rw [decide_eq_true (by omega)] at h; exact absurd h (by decide)
    have h2 : m / 2 ^ (c - 1).toNat % 2 = 0 := by
      have e := Nat.mod_mul (x := m) (a := 2 ^ (c - 1).toNat) (b := 2)
      rw [← Nat.pow_succ, show (c - 1).toNat.succ = c.toNat by omega, h1] at e
      rcases Nat.eq_zero_or_pos (m / 2 ^ (c - 1).toNat % 2) with g | g
      · exact g
      · have := Nat.mul_pos (Nat.two_pow_pos (c - 1).toNat) g
        omega
    rw [h2]
    simp
  · rw [decide_eq_false g]; rfl
def zand (a k : Int) : Int := (Int32.ofInt a &&& Int32.ofInt k).toInt
theorem o_and (a k : Int) : Int32.ofInt a &&& Int32.ofInt k = Int32.ofInt (zand a k) := by unfold zand; rw [Int32.ofInt_toInt]
theorem ordR_n {k s e e' T sb : Int} {m m' M : Nat} (hk : 1 ≤ k ∧ k ≤ 3) (h : k = 3 → e = e' ∧ m = m') : ordR k s e m 3 sb T M = ordR k s e' m' 3 sb T M := by
  by_cases g : k = 3
  · obtain ⟨rfl, rfl⟩ := h g; rfl
  · unfold ordR
    by_cases g1 : sgn k s ≠ sgn 3 sb
    · rw [if_pos g1, if_pos g1]
    · rw [if_neg g1, if_neg g1]
      by_cases g2 : sgn k s = 0 ∨ (k = 1 ∧ (3 : Int) = 1)
      · rw [if_pos g2, if_pos g2]
      · rw [if_neg g2, if_neg g2, if_pos g, if_pos g]
/-- rounding to an integer by the five ways of whole -/
def goI (m : Nat) (cut sg way : Int) : Bool := if way = 4 then nbit m (cut - 1) else gU m cut 0 sg way (bb (nbit m cut))
def whM (m : Nat) (sc sg way : Int) : Nat := if sc < 0 then m / 2 ^ (-sc).toNat + (bb (goI m (0 - sc) sg way)).toNat else m
def whF (f f2 t : Int) : Int := zor (zor (zand f2 (-2)) (zand f 1)) (if t = 0 then 0 else 1)
def whT (o : OO) (sg T : Int) (m : Nat) : Int := ordR o.1 sg o.2.2.1 o.2.2.2.1 3 sg T m
def whO (o : OO) (sg f T : Int) (m : Nat) : OO := (o.1, sg, o.2.2.1, o.2.2.2.1, whT o sg T m, whF f o.2.2.2.2.2 (whT o sg T m))
def sWhC (S : Nat → Nat → Int) (V : Nat → Nat) (r a : Nat) (way mode : Int) : OO :=
  if S 154 a ≠ 3 then oS (S 154 a) (S 156 a) (S 128 19)
  else if whM (V (160 + 2 * a)) (S 155 a - S 153 a) (S 156 a) way = 0 then whO (oS 2 (S 156 a) (S 128 19)) (S 156 a) (S 128 19) (S 155 a) (V (160 + 2 * a))
  else whO (oR (S 153 r) (S 128 17) (S 128 18) (S 128 20) (S 156 a) mode 0 (whM (V (160 + 2 * a)) (S 155 a - S 153 a) (S 156 a) way) (rtiS (S 155 a - S 153 a)) (S 128 19)) (S 156 a) (S 128 19) (S 155 a) (V (160 + 2 * a))
theorem whM_bl {m : Nat} {sc sg way : Int} : xbl (whM m sc sg way) ≤ xbl m + 1 := by
  unfold whM
  split
  · have h1 : (bb (goI m (0 - sc) sg way)).toNat ≤ 1 := by cases goI m (0 - sc) sg way <;> decide
    refine xbl_le ?_
    have h2 : m / 2 ^ (-sc).toNat ≤ m := Nat.div_le_self _ _
    have h3 := xbl_lt m
    rw [Nat.pow_succ]
    omega
  · omega
section
variable {w0 w : xW} {L Z : Nat} {S : Nat → Nat → Int} {V : Nat → Nat} {d h t r q : Nat}
theorem x_rO5 {unit : Int} (hR : cX w0 L Z S V w) (hk : kd h = 4) (hb : -1000000 ≤ unit ∧ unit ≤ 1000000) (hs : -1000000 ≤ S h 2 ∧ S h 2 ≤ 1000000) (hm : S h 3 = 0) (hn : S h 0 = 0 ∨ S h 0 = 1) : xRun (d + 4) 31 [Value.ref h, Value.int (Int32.ofInt unit), Value.int 5] w (.inl (some (.int (Int32.ofInt (bb (nbit (V (h + 1)) (unit - S h 2 - 1))))))) w := by
  have key : ∀ lv, xld lv 0 = some (Value.ref h) → xld lv 1 = some (Value.int (Int32.ofInt unit)) → xld lv 2 = some (Value.int 5) → xEv (d + 4) 31 0 lv [] w (fun o w' => o = .inl (some (.int (Int32.ofInt (bb (nbit (V (h + 1)) (unit - S h 2 - 1)))))) ∧ w' = w) := by
    intro lv l0 l1 l2
    refine i_31_0 (x := h) l0 ?_
    refine i_31_1 (x := Int32.ofInt unit) l1 ?_
    have hobj := hR.k4 hk
    have hrun := x_isM (d := d) (h := h) (unit := unit) hR hk ⟨by omega, by omega⟩ ⟨by omega, by omega⟩ (by omega)
    refine i_31_2 hobj (Nat.le_of_ble_eq_true rfl) hrun ?_
    refine i_31_5 (zb_f fun c0 => ?_) (zb_t fun c0 => ?_)
    · refine i_31_10 (x := Int32.ofInt unit) l1 ?_
      refine i_31_11 (x := h) l0 ?_
      refine i_31_12 (v := Value.int (Int32.ofInt (S h 2))) (hR.k4 hk) rfl ?_
      refine i_31_15 (c := Int32.ofInt (unit - (S h 2))) (o_sub unit (S h 2)) ?_
      refine i_31_16 rfl ?_
      refine lgen1 (i := 3) (v := Value.int (Int32.ofInt (unit - (S h 2)))) (fun lv lg ls => ?_)
      replace l0 := lg 0 _ rfl rfl l0
      replace l1 := lg 1 _ rfl rfl l1
      replace l2 := lg 2 _ rfl rfl l2
      have l3 := ls
      refine i_31_17 ?_
      refine i_31_18 rfl ?_
      refine lgen1 (i := 4) (v := Value.int (-1)) (fun lv lg ls => ?_)
      replace l3 := lg 3 _ rfl rfl l3
      replace l0 := lg 0 _ rfl rfl l0
      replace l1 := lg 1 _ rfl rfl l1
      replace l2 := lg 2 _ rfl rfl l2
      have l4 := ls
      refine i_31_20 (x := h) l0 ?_
      refine i_31_21 (v := Value.ref (h + 1)) (hR.k4 hk) rfl ?_
      refine i_31_24 (x := Int32.ofInt (unit - (S h 2))) l3 ?_
      refine i_31_25 ?_
      refine i_31_26 (c := Int32.ofInt ((unit - (S h 2)) - 1)) (o_sub (unit - (S h 2)) 1) ?_
      obtain ⟨fs, hobj⟩ := hR.nat (kd_rl hk)
      have hrun := X_bit (d := d + 2) (h := h + 1) (u := V (h + 1)) (p := (unit - (S h 2)) - 1) hR (kd_rl hk) (rfl) ⟨by omega, by omega⟩
      rw [bfn_bit] at hrun
      refine i_31_27 hobj (Nat.le_of_ble_eq_true rfl) hrun ?_
      refine i_31_30 (zb_f fun c1 => ?_) (zb_t fun c1 => ?_)
      · refine i_31_60 (x := 5) l2 ?_
        refine i_31_61 (x := h) l0 ?_
        refine i_31_62 (v := Value.int (Int32.ofInt (S h 0))) (hR.k4 hk) rfl ?_
        refine i_31_65 (x := h) l0 ?_
        refine i_31_66 (v := Value.ref (h + 1)) (hR.k4 hk) rfl ?_
        refine i_31_69 (x := Int32.ofInt (unit - (S h 2))) l3 ?_
        obtain ⟨fs, hobj⟩ := hR.nat (kd_rl hk)
        have hrun := X_bit (d := d + 2) (h := h + 1) (u := V (h + 1)) (p := unit - (S h 2)) hR (kd_rl hk) (rfl) ⟨by omega, by omega⟩
        rw [bfn_bit] at hrun
        refine i_31_70 hobj (Nat.le_of_ble_eq_true rfl) hrun ?_
        refine i_31_73 (x := (-1)) l4 ?_
        have hrun := x_gO (d := d + 2) (w := w) (way := 5) (neg := S h 0) (odd := bb (nbit (V (h + 1)) (unit - (S h 2)))) (bes := (-1)) ⟨by omega, by omega⟩ (by first | omega | exact bb_01 _) (by first | omega | exact bb_01 _) ⟨by omega, by omega⟩
        refine i_31_75 (Nat.le_of_ble_eq_true rfl) hrun ?_
        refine i_31_78 ob_b ?_
        refine ⟨?_, rfl⟩
        have hna := nbit_any (m := V (h + 1)) (c := unit - S h 2)
        rw [show nbit (V (h + 1)) (unit - S h 2 - 1) = (gO 5 (S h 0) (bb (nbit (V (h + 1)) (unit - (S h 2)))) (-1)) from by (try clear hR); grind [gO, isM, away, bb]]
      · refine i_31_33 (x := h) l0 ?_
        refine i_31_34 (v := Value.int (Int32.ofInt (S h 3))) (hR.k4 hk) rfl ?_
        refine i_31_37 (z_ne (a := S h 3) ⟨by omega, by omega⟩ fun c2 => ?_) (z_eq (a := S h 3) ⟨by omega, by omega⟩ fun c2 => ?_)
        · refine i_31_53 ?_
          refine i_31_54 ?_
          refine i_31_58 rfl ?_
          refine lgen1 (i := 4) (v := Value.int 1) (fun lv lg ls => ?_)
          replace l3 := lg 3 _ rfl rfl l3
          replace l0 := lg 0 _ rfl rfl l0
          replace l1 := lg 1 _ rfl rfl l1
          replace l2 := lg 2 _ rfl rfl l2
          have l4 := ls
          refine i_31_60 (x := 5) l2 ?_
          refine i_31_61 (x := h) l0 ?_
          refine i_31_62 (v := Value.int (Int32.ofInt (S h 0))) (hR.k4 hk) rfl ?_
          refine i_31_65 (x := h) l0 ?_
          refine i_31_66 (v := Value.ref (h + 1)) (hR.k4 hk) rfl ?_
          refine i_31_69 (x := Int32.ofInt (unit - (S h 2))) l3 ?_
          obtain ⟨fs, hobj⟩ := hR.nat (kd_rl hk)
          have hrun := X_bit (d := d + 2) (h := h + 1) (u := V (h + 1)) (p := unit - (S h 2)) hR (kd_rl hk) (rfl) ⟨by omega, by omega⟩
          rw [bfn_bit] at hrun
          refine i_31_70 hobj (Nat.le_of_ble_eq_true rfl) hrun ?_
          refine i_31_73 (x := 1) l4 ?_
          have hrun := x_gO (d := d + 2) (w := w) (way := 5) (neg := S h 0) (odd := bb (nbit (V (h + 1)) (unit - (S h 2)))) (bes := 1) ⟨by omega, by omega⟩ (by first | omega | exact bb_01 _) (by first | omega | exact bb_01 _) ⟨by omega, by omega⟩
          refine i_31_75 (Nat.le_of_ble_eq_true rfl) hrun ?_
          refine i_31_78 ob_b ?_
          refine ⟨?_, rfl⟩
          have hna := nbit_any (m := V (h + 1)) (c := unit - S h 2)
          rw [show nbit (V (h + 1)) (unit - S h 2 - 1) = (gO 5 (S h 0) (bb (nbit (V (h + 1)) (unit - (S h 2)))) 1) from by (try clear hR); grind [gO, isM, away, bb]]
        · refine i_31_40 (x := h) l0 ?_
          refine i_31_41 (v := Value.ref (h + 1)) (hR.k4 hk) rfl ?_
          refine i_31_44 (x := Int32.ofInt (unit - (S h 2))) l3 ?_
          refine i_31_45 ?_
          refine i_31_46 (c := Int32.ofInt ((unit - (S h 2)) - 1)) (o_sub (unit - (S h 2)) 1) ?_
          obtain ⟨fs, hobj⟩ := hR.nat (kd_rl hk)
          have hrun := X_any (d := d + 1) (h := h + 1) (u := V (h + 1)) (p := (unit - (S h 2)) - 1) hR (kd_rl hk) (rfl) ⟨by omega, by omega⟩
          refine i_31_47 hobj (Nat.le_of_ble_eq_true rfl) hrun ?_
          refine i_31_50 (zb_f fun c3 => ?_) (zb_t fun c3 => ?_)
          · refine i_31_57 ?_
            refine i_31_58 rfl ?_
            refine lgen1 (i := 4) (v := Value.int 0) (fun lv lg ls => ?_)
            replace l3 := lg 3 _ rfl rfl l3
            replace l0 := lg 0 _ rfl rfl l0
            replace l1 := lg 1 _ rfl rfl l1
            replace l2 := lg 2 _ rfl rfl l2
            have l4 := ls
            refine i_31_60 (x := 5) l2 ?_
            refine i_31_61 (x := h) l0 ?_
            refine i_31_62 (v := Value.int (Int32.ofInt (S h 0))) (hR.k4 hk) rfl ?_
            refine i_31_65 (x := h) l0 ?_
            refine i_31_66 (v := Value.ref (h + 1)) (hR.k4 hk) rfl ?_
            refine i_31_69 (x := Int32.ofInt (unit - (S h 2))) l3 ?_
            obtain ⟨fs, hobj⟩ := hR.nat (kd_rl hk)
            have hrun := X_bit (d := d + 2) (h := h + 1) (u := V (h + 1)) (p := unit - (S h 2)) hR (kd_rl hk) (rfl) ⟨by omega, by omega⟩
            rw [bfn_bit] at hrun
            refine i_31_70 hobj (Nat.le_of_ble_eq_true rfl) hrun ?_
            refine i_31_73 (x := 0) l4 ?_
            have hrun := x_gO (d := d + 2) (w := w) (way := 5) (neg := S h 0) (odd := bb (nbit (V (h + 1)) (unit - (S h 2)))) (bes := 0) ⟨by omega, by omega⟩ (by first | omega | exact bb_01 _) (by first | omega | exact bb_01 _) ⟨by omega, by omega⟩
            refine i_31_75 (Nat.le_of_ble_eq_true rfl) hrun ?_
            refine i_31_78 ob_b ?_
            refine ⟨?_, rfl⟩
            have hna := nbit_any (m := V (h + 1)) (c := unit - S h 2)
            rw [show nbit (V (h + 1)) (unit - S h 2 - 1) = (gO 5 (S h 0) (bb (nbit (V (h + 1)) (unit - (S h 2)))) 0) from by (try clear hR); grind [gO, isM, away, bb]]
          · refine i_31_53 ?_
            refine i_31_54 ?_
            refine i_31_58 rfl ?_
            refine lgen1 (i := 4) (v := Value.int 1) (fun lv lg ls => ?_)
            replace l3 := lg 3 _ rfl rfl l3
            replace l0 := lg 0 _ rfl rfl l0
            replace l1 := lg 1 _ rfl rfl l1
            replace l2 := lg 2 _ rfl rfl l2
            have l4 := ls
            refine i_31_60 (x := 5) l2 ?_
            refine i_31_61 (x := h) l0 ?_
            refine i_31_62 (v := Value.int (Int32.ofInt (S h 0))) (hR.k4 hk) rfl ?_
            refine i_31_65 (x := h) l0 ?_
            refine i_31_66 (v := Value.ref (h + 1)) (hR.k4 hk) rfl ?_
            refine i_31_69 (x := Int32.ofInt (unit - (S h 2))) l3 ?_
            obtain ⟨fs, hobj⟩ := hR.nat (kd_rl hk)
            have hrun := X_bit (d := d + 2) (h := h + 1) (u := V (h + 1)) (p := unit - (S h 2)) hR (kd_rl hk) (rfl) ⟨by omega, by omega⟩
            rw [bfn_bit] at hrun
            refine i_31_70 hobj (Nat.le_of_ble_eq_true rfl) hrun ?_
            refine i_31_73 (x := 1) l4 ?_
            have hrun := x_gO (d := d + 2) (w := w) (way := 5) (neg := S h 0) (odd := bb (nbit (V (h + 1)) (unit - (S h 2)))) (bes := 1) ⟨by omega, by omega⟩ (by first | omega | exact bb_01 _) (by first | omega | exact bb_01 _) ⟨by omega, by omega⟩
            refine i_31_75 (Nat.le_of_ble_eq_true rfl) hrun ?_
            refine i_31_78 ob_b ?_
            refine ⟨?_, rfl⟩
            have hna := nbit_any (m := V (h + 1)) (c := unit - S h 2)
            rw [show nbit (V (h + 1)) (unit - S h 2 - 1) = (gO 5 (S h 0) (bb (nbit (V (h + 1)) (unit - (S h 2)))) 1) from by (try clear hR); grind [gO, isM, away, bb]]
    · refine i_31_8 ?_
      refine i_31_9 rfl ?_
      refine ⟨?_, rfl⟩
      have hna := nbit_any (m := V (h + 1)) (c := unit - S h 2)
      rw [show nbit (V (h + 1)) (unit - S h 2 - 1) = false from by (try clear hR); grind [gO, isM, away, bb]]
      rfl
  obtain ⟨o, w', h1, rfl, rfl⟩ := (key (lv_args 0 [Value.ref h, Value.int (Int32.ofInt unit), Value.int 5]) rfl rfl rfl).run
  exact h1
theorem x_rti5 (hR : cX w0 L Z S V w) (h0 : S 16 2 < 0) (hn : S 16 0 = 0 ∨ S 16 0 = 1) (hm3 : S 16 3 = 0) (hsc : -300000 ≤ S 16 2 ∧ S 16 2 ≤ 300000) (hmb : xbl (V 17) ≤ 600000) : ∃ w', xRun (d + 5) 108 [Value.ref 16, Value.int 5] w (.inl none) w' ∧ cX w0 L Z (u2 S 16 2 0) (uv V 17 (V 17 / 2 ^ (-S 16 2).toNat + (bb (nbit (V 17) (0 - S 16 2 - 1))).toNat)) w' := by
  have key : ∀ lv, xld lv 0 = some (Value.ref 16) → xld lv 1 = some (Value.int 5) → xEv (d + 5) 108 0 lv [] w (fun o w' => o = .inl none ∧ cX w0 L Z (u2 S 16 2 0) (uv V 17 (V 17 / 2 ^ (-S 16 2).toNat + (bb (nbit (V 17) (0 - S 16 2 - 1))).toNat)) w') := by
    intro lv l0 l1
    refine i_108_0 (x := 16) l0 ?_
    refine i_108_1 (v := Value.int (Int32.ofInt (S 16 2))) (hR.k4 kq_16) rfl ?_
    refine i_108_4 (z_lt (a := S 16 2) ⟨by omega, by omega⟩ fun c0 => ?_) (z_ge (a := S 16 2) ⟨by omega, by omega⟩ fun c0 => absurd c0 (by omega))
    refine i_108_8 (x := 16) l0 ?_
    refine i_108_9 ?_
    refine i_108_10 (x := 5) l1 ?_
    have hobj := hR.k4 kq_16
    have hrun := x_rO5 (d := d) (h := 16) (unit := 0) hR kq_16 ⟨by decide, by decide⟩ ⟨by omega, by omega⟩ hm3 hn
    refine i_108_11 hobj (Nat.le_of_ble_eq_true rfl) hrun ?_
    refine i_108_14 rfl ?_
    refine lgen1 (i := 2) (v := Value.int (Int32.ofInt (bb (nbit (V 17) (0 - S 16 2 - 1))))) (fun lv lg ls => ?_)
    replace l0 := lg 0 _ rfl rfl l0
    replace l1 := lg 1 _ rfl rfl l1
    have l2 := ls
    refine i_108_15 (x := 16) l0 ?_
    refine i_108_16 (v := Value.ref 17) (hR.k4 kq_16) rfl ?_
    refine i_108_19 (x := 16) l0 ?_
    refine i_108_20 (v := Value.ref 17) (hR.k4 kq_16) rfl ?_
    refine i_108_23 (x := 16) l0 ?_
    refine i_108_24 (v := Value.int (Int32.ofInt (S 16 2))) (hR.k4 kq_16) rfl ?_
    obtain ⟨fs, hobj⟩ := hR.nat kq_17
    obtain ⟨w, hrun, hR⟩ := X_shift (d := d + 1) (h := 17) (h2 := 17) (u := V 17) (k := S 16 2) hR kq_17 kq_17 (rfl) (by omega) (by omega)
    rw [shf_ng (by omega)] at hR
    refine i_108_27 hobj (Nat.le_of_ble_eq_true rfl) hrun ?_
    refine i_108_30 (x := 16) l0 ?_
    refine i_108_31 ?_
    refine i_108_32 (fs2 := f4 16 (u1 (S 16) 2 0)) (hR.k4 kq_16) (Nat.le_of_ble_eq_true rfl) rfl (h7k kq_16 (by decide)) ?_
    refine xgen (P := cX w0 L Z (u2 S 16 2 0) (uv V 17 ((V 17) / 2 ^ (-(S 16 2)).toNat))) (hR.p4 kq_16) (fun w hR => ?_)
    refine i_108_35 (x := Int32.ofInt (bb (nbit (V 17) (0 - S 16 2 - 1)))) l2 ?_
    refine i_108_36 (zb_f fun c1 => ?_) (zb_t fun c1 => ?_)
    · refine i_108_47 ?_
      rw [show nbit (V 17) (0 - S 16 2 - 1) = false by assumption]
      exact ⟨rfl, hR⟩
    · refine i_108_39 (x := 16) l0 ?_
      refine i_108_40 (v := Value.ref 17) (hR.k4 kq_16) rfl ?_
      refine i_108_43 ?_
      obtain ⟨fs, hobj⟩ := hR.nat kq_17
      obtain ⟨w, hrun, hR⟩ := X_addBit (d := d) (h := 17) (u := (V 17) / 2 ^ (-(S 16 2)).toNat) (p := 0) hR kq_17 (uv_s) ⟨by decide, by decide⟩ (by rw [xbl_div]; omega)
      rw [uvv] at hR
      refine i_108_44 hobj (Nat.le_of_ble_eq_true rfl) hrun ?_
      refine i_108_47 ?_
      rw [show nbit (V 17) (0 - S 16 2 - 1) = true by assumption]
      exact ⟨rfl, hR⟩
  obtain ⟨o, w', h1, rfl, h2⟩ := (key (lv_args 0 [Value.ref 16, Value.int 5]) rfl rfl).run
  exact ⟨w', h1, h2⟩
theorem x_rtw {way : Int} (hR : cX w0 L Z S V w) (hn : S 16 0 = 0 ∨ S 16 0 = 1) (hm3 : S 16 3 = 0) (hmo : 0 ≤ way ∧ way ≤ 4) (hsc : -300000 ≤ S 16 2 ∧ S 16 2 ≤ 300000) (hmb : xbl (V 17) ≤ 600000) : ∃ w', xRun (d + 5) 108 [Value.ref 16, Value.int (if way = 4 then 5 else Int32.ofInt way)] w (.inl none) w' ∧ cX w0 L Z (u2 S 16 2 (rtiS (S 16 2))) (uv V 17 (whM (V 17) (S 16 2) (S 16 0) way)) w' := by
  by_cases g : S 16 2 < 0
  · unfold rtiS whM goI
    rw [if_pos g, if_pos g]
    by_cases g4 : way = 4
    · rw [if_pos g4, if_pos g4]
      exact x_rti5 hR g hn hm3 hsc hmb
    · rw [if_neg g4, if_neg g4]
      have h := x_rti1 (d := d) (mode := way) hR g hn (Or.inl hm3) hmo hsc hmb
      rw [hm3] at h
      exact h
  · unfold rtiS whM
    rw [if_neg g, if_neg g, u2_id, uv_id]
    by_cases g4 : way = 4
    · rw [if_pos g4]
      exact x_rti0 (d := d + 5) (mode := 5) hR (by omega) hsc.2
    · rw [if_neg g4]
      exact x_rti0 (d := d + 5) (mode := way) hR (by omega) hsc.2
theorem x_to (hR : cX w0 L Z S V w) (ht : kd t = 2) (hq : kd q = 2) (nq : q ≠ t) (hn : S q 2 = 0 ∨ S q 2 = 1) (hb : xbl (V (q + 1)) ≤ 600000) : ∃ w', xRun (d + 4) 107 [Value.ref t, Value.ref q] w (.inl none) w' ∧ cX w0 L Z (u2 (u2 (u2 (u2 S t 0 (S q 0)) t 1 (S q 1)) t 2 (S q 2)) t 3 (S q 3)) (uv V (t + 1) (V (q + 1))) w' := by
  have key : ∀ lv, xld lv 0 = some (Value.ref t) → xld lv 1 = some (Value.ref q) → xEv (d + 4) 107 0 lv [] w (fun o w' => o = .inl none ∧ cX w0 L Z (u2 (u2 (u2 (u2 S t 0 (S q 0)) t 1 (S q 1)) t 2 (S q 2)) t 3 (S q 3)) (uv V (t + 1) (V (q + 1))) w') := by
    intro lv l0 l1
    have n1 : q ≠ t := nq
    have n2 : t + 1 ≠ q + 1 := fun e => n1 (by omega)
    refine i_107_0 (x := t) l0 ?_
    refine i_107_1 (x := q) l1 ?_
    refine i_107_2 (v := Value.int (Int32.ofInt (S q 0))) (hR.k2 hq) rfl ?_
    refine i_107_5 (fs2 := f2 t (u1 (S t) 0 (S q 0))) (hR.k2 ht) (Nat.le_of_ble_eq_true rfl) rfl (h7k ht (by decide)) ?_
    refine xgen (P := cX w0 L Z (u2 S t 0 (S q 0)) V) (hR.p2 ht) (fun w hR => ?_)
    refine i_107_8 (x := t) l0 ?_
    refine i_107_9 (x := q) l1 ?_
    refine i_107_10 (v := Value.int (Int32.ofInt ((u2 S t 0 (S q 0)) q 1))) (hR.k2 hq) rfl ?_
    rw [show Int32.ofInt ((u2 S t 0 (S q 0)) q 1) = Int32.ofInt (S q 1) by rw [u2_eq, if_neg (fun e => absurd e.2 (by decide))]]
    refine i_107_13 (fs2 := f2 t (u1 ((u2 S t 0 (S q 0)) t) 1 (S q 1))) (hR.k2 ht) (Nat.le_of_ble_eq_true rfl) rfl (h7k ht (by decide)) ?_
    refine xgen (P := cX w0 L Z (u2 (u2 S t 0 (S q 0)) t 1 (S q 1)) V) (hR.p2 ht) (fun w hR => ?_)
    refine i_107_16 (x := t) l0 ?_
    refine i_107_17 (x := q) l1 ?_
    refine i_107_18 (v := Value.int (Int32.ofInt ((u2 (u2 S t 0 (S q 0)) t 1 (S q 1)) q 2))) (hR.k2 hq) rfl ?_
    rw [show Int32.ofInt ((u2 (u2 S t 0 (S q 0)) t 1 (S q 1)) q 2) = Int32.ofInt (S q 2) by rw [u2_eq, if_neg (fun e => absurd e.2 (by decide)), u2_eq, if_neg (fun e => absurd e.2 (by decide))]]
    refine i_107_21 (fs2 := f2 t (u1 ((u2 (u2 S t 0 (S q 0)) t 1 (S q 1)) t) 2 (S q 2))) (hR.k2 ht) (o_bool (by omega)) (Nat.le_of_ble_eq_true rfl) rfl (h7k ht (by decide)) ?_
    refine xgen (P := cX w0 L Z (u2 (u2 (u2 S t 0 (S q 0)) t 1 (S q 1)) t 2 (S q 2)) V) (hR.p2 ht) (fun w hR => ?_)
    refine i_107_24 (x := t) l0 ?_
    refine i_107_25 (x := q) l1 ?_
    refine i_107_26 (v := Value.int (Int32.ofInt ((u2 (u2 (u2 S t 0 (S q 0)) t 1 (S q 1)) t 2 (S q 2)) q 3))) (hR.k2 hq) rfl ?_
    rw [show Int32.ofInt ((u2 (u2 (u2 S t 0 (S q 0)) t 1 (S q 1)) t 2 (S q 2)) q 3) = Int32.ofInt (S q 3) by rw [u2_eq, if_neg (fun e => absurd e.2 (by decide)), u2_eq, if_neg (fun e => absurd e.2 (by decide)), u2_eq, if_neg (fun e => absurd e.2 (by decide))]]
    refine i_107_29 (fs2 := f2 t (u1 ((u2 (u2 (u2 S t 0 (S q 0)) t 1 (S q 1)) t 2 (S q 2)) t) 3 (S q 3))) (hR.k2 ht) (Nat.le_of_ble_eq_true rfl) rfl (h7k ht (by decide)) ?_
    refine xgen (P := cX w0 L Z (u2 (u2 (u2 (u2 S t 0 (S q 0)) t 1 (S q 1)) t 2 (S q 2)) t 3 (S q 3)) V) (hR.p2 ht) (fun w hR => ?_)
    refine i_107_32 (x := t) l0 ?_
    refine i_107_33 (v := Value.ref (t + 1)) (hR.k2 ht) rfl ?_
    refine i_107_36 (x := q) l1 ?_
    refine i_107_37 (v := Value.ref (q + 1)) (hR.k2 hq) rfl ?_
    obtain ⟨fs, hobj⟩ := hR.nat (kd_rg ht)
    obtain ⟨w, hrun, hR⟩ := X_set (d := d) (h := t + 1) (h2 := q + 1) (u := V (q + 1)) hR (kd_rg ht) (kd_rg hq) (by omega) (rfl) (by omega)
    refine i_107_40 hobj (Nat.le_of_ble_eq_true rfl) hrun ?_
    refine i_107_43 ?_
    exact ⟨rfl, hR⟩
  obtain ⟨o, w', h1, rfl, h2⟩ := (key (lv_args 0 [Value.ref t, Value.ref q]) rfl rfl).run
  exact ⟨w', h1, h2⟩
theorem x_sgn0 (hR : cX w0 L Z S V w) (ht : kd t = 2) (hk_t : 0 ≤ S t 1 ∧ S t 1 ≤ 3) (hn_t : S t 2 = 0 ∨ S t 2 = 1) : xRun (d + 0) 110 [Value.ref t] w (.inl (some (.int (Int32.ofInt (sgn (S t 1) (S t 2)))))) w := by
  have key : ∀ lv, xld lv 0 = some (Value.ref t) → xEv (d + 0) 110 0 lv [] w (fun o w' => o = .inl (some (.int (Int32.ofInt (sgn (S t 1) (S t 2))))) ∧ w' = w) := by
    intro lv l0
    refine i_110_0 (x := t) l0 ?_
    refine i_110_1 (v := Value.int (Int32.ofInt (S t 1))) (hR.k2 ht) rfl ?_
    refine i_110_4 ?_
    refine i_110_5 (b_ne (a := S t 1) (b := 2) ⟨by omega, by omega⟩ ⟨by decide, by decide⟩ fun c0 => ?_) (b_eq (a := S t 1) (b := 2) ⟨by omega, by omega⟩ ⟨by decide, by decide⟩ fun c0 => ?_)
    · refine i_110_10 (x := t) l0 ?_
      refine i_110_11 (v := Value.int (Int32.ofInt (S t 2))) (hR.k2 ht) rfl ?_
      refine i_110_14 (z_eq (a := S t 2) ⟨by omega, by omega⟩ fun c1 => ?_) (z_ne (a := S t 2) ⟨by omega, by omega⟩ fun c1 => ?_)
      · refine i_110_21 ?_
        refine i_110_22 ?_
        exact ⟨by rw [show sgn (S t 1) (S t 2) = 1 from by unfold sgn; grind]; rfl, rfl⟩
      · refine i_110_17 ?_
        refine i_110_18 ?_
        refine i_110_22 ?_
        exact ⟨by rw [show sgn (S t 1) (S t 2) = (-1) from by unfold sgn; grind]; rfl, rfl⟩
    · refine i_110_8 ?_
      refine i_110_9 ?_
      exact ⟨by rw [show sgn (S t 1) (S t 2) = 0 from by unfold sgn; grind]; rfl, rfl⟩
  obtain ⟨o, w', h1, rfl, rfl⟩ := (key (lv_args 0 [Value.ref t]) rfl).run
  exact h1
set_option maxHeartbeats 4000000 in
theorem x_ord3 (hR : cX w0 L Z S V w) (ht : kd t = 2) (hq : kd q = 2) (hk_t : 1 ≤ S t 1 ∧ S t 1 ≤ 3) (hn_t : S t 2 = 0 ∨ S t 2 = 1) (he_t : S t 1 ≠ 3 ∨ (-100000 ≤ S t 3 ∧ S t 3 ≤ 100000)) (hk_q : S q 1 = 3) (hn_q : S q 2 = 0 ∨ S q 2 = 1) (he_q : -100000 ≤ S q 3 ∧ S q 3 ≤ 100000) : xRun (d + 3) 109 [Value.ref t, Value.ref q] w (.inl (some (.int (Int32.ofInt (ordR (S t 1) (S t 2) (S t 3) (V (t + 1)) (S q 1) (S q 2) (S q 3) (V (q + 1))))))) w := by
  have key : ∀ lv, xld lv 0 = some (Value.ref t) → xld lv 1 = some (Value.ref q) → xEv (d + 3) 109 0 lv [] w (fun o w' => o = .inl (some (.int (Int32.ofInt (ordR (S t 1) (S t 2) (S t 3) (V (t + 1)) (S q 1) (S q 2) (S q 3) (V (q + 1)))))) ∧ w' = w) := by
    intro lv l0 l1
    refine i_109_0 (x := t) l0 ?_
    have hobj := hR.k2 ht
    have hrun := x_sgn0 (d := d + 2) (t := t) hR ht (by omega) hn_t
    have hsb_t := sgn_b (S t 1) (S t 2)
    refine i_109_1 hobj (Nat.le_of_ble_eq_true rfl) hrun ?_
    refine i_109_4 rfl ?_
    refine lgen1 (i := 2) (v := Value.int (Int32.ofInt (sgn (S t 1) (S t 2)))) (fun lv lg ls => ?_)
    replace l0 := lg 0 _ rfl rfl l0
    replace l1 := lg 1 _ rfl rfl l1
    have l2 := ls
    refine i_109_5 (x := q) l1 ?_
    have hobj := hR.k2 hq
    have hrun := x_sgn0 (d := d + 2) (t := q) hR hq (by omega) hn_q
    have hsb_q := sgn_b (S q 1) (S q 2)
    refine i_109_6 hobj (Nat.le_of_ble_eq_true rfl) hrun ?_
    refine i_109_9 rfl ?_
    refine lgen1 (i := 3) (v := Value.int (Int32.ofInt (sgn (S q 1) (S q 2)))) (fun lv lg ls => ?_)
    replace l2 := lg 2 _ rfl rfl l2
    replace l0 := lg 0 _ rfl rfl l0
    replace l1 := lg 1 _ rfl rfl l1
    have l3 := ls
    refine i_109_10 (x := Int32.ofInt (sgn (S t 1) (S t 2))) l2 ?_
    refine i_109_11 (x := Int32.ofInt (sgn (S q 1) (S q 2))) l3 ?_
    refine i_109_12 (b_eq (a := sgn (S t 1) (S t 2)) (b := sgn (S q 1) (S q 2)) ⟨by omega, by omega⟩ ⟨by omega, by omega⟩ fun c0 => ?_) (b_ne (a := sgn (S t 1) (S t 2)) (b := sgn (S q 1) (S q 2)) ⟨by omega, by omega⟩ ⟨by omega, by omega⟩ fun c0 => ?_)
    · refine i_109_26 (x := Int32.ofInt (sgn (S t 1) (S t 2))) l2 ?_
      refine i_109_27 (z_eq (a := sgn (S t 1) (S t 2)) ⟨by omega, by omega⟩ fun c1 => ?_) (z_ne (a := sgn (S t 1) (S t 2)) ⟨by omega, by omega⟩ fun c1 => ?_)
      · refine i_109_46 ?_
        refine i_109_47 ?_
        refine ⟨?_, rfl⟩
        rw [show ordR (S t 1) (S t 2) (S t 3) (V (t + 1)) (S q 1) (S q 2) (S q 3) (V (q + 1)) = (0 : Int) from by clear hR; unfold ordR; grind]
        rfl
      · refine i_109_30 (x := t) l0 ?_
        refine i_109_31 (v := Value.int (Int32.ofInt (S t 1))) (hR.k2 ht) rfl ?_
        refine i_109_34 ?_
        refine i_109_35 (b_ne (a := S t 1) (b := 1) ⟨by omega, by omega⟩ ⟨by decide, by decide⟩ fun c2 => ?_) (b_eq (a := S t 1) (b := 1) ⟨by omega, by omega⟩ ⟨by decide, by decide⟩ fun c2 => ?_)
        · refine i_109_48 (x := t) l0 ?_
          refine i_109_49 (v := Value.int (Int32.ofInt (S t 1))) (hR.k2 ht) rfl ?_
          refine i_109_52 (x := q) l1 ?_
          refine i_109_53 (v := Value.int (Int32.ofInt (S q 1))) (hR.k2 hq) rfl ?_
          refine i_109_56 (b_eq (a := S t 1) (b := S q 1) ⟨by omega, by omega⟩ ⟨by omega, by omega⟩ fun c3 => ?_) (b_ne (a := S t 1) (b := S q 1) ⟨by omega, by omega⟩ ⟨by omega, by omega⟩ fun c3 => ?_)
          · refine i_109_74 (x := t) l0 ?_
            refine i_109_75 (v := Value.int (Int32.ofInt (S t 3))) (hR.k2 ht) rfl ?_
            refine i_109_78 (x := q) l1 ?_
            refine i_109_79 (v := Value.int (Int32.ofInt (S q 3))) (hR.k2 hq) rfl ?_
            refine i_109_82 (b_eq (a := S t 3) (b := S q 3) ⟨by omega, by omega⟩ ⟨by omega, by omega⟩ fun c4 => ?_) (b_ne (a := S t 3) (b := S q 3) ⟨by omega, by omega⟩ ⟨by omega, by omega⟩ fun c4 => ?_)
            · refine i_109_103 (x := Int32.ofInt (sgn (S t 1) (S t 2))) l2 ?_
              refine i_109_104 (x := t) l0 ?_
              refine i_109_105 (v := Value.ref (t + 1)) (hR.k2 ht) rfl ?_
              refine i_109_108 (x := q) l1 ?_
              refine i_109_109 (v := Value.ref (q + 1)) (hR.k2 hq) rfl ?_
              obtain ⟨fs, hobj⟩ := hR.nat (kd_rg ht)
              have hrun := X_oft (d := d) (h := t + 1) (h2 := q + 1) (u := V (t + 1)) (v2 := V (q + 1)) hR (kd_rg ht) (kd_rg hq) (rfl) (rfl)
              refine i_109_112 hobj (Nat.le_of_ble_eq_true rfl) hrun ?_
              refine i_109_115 (c := Int32.ofInt ((sgn (S t 1) (S t 2)) * (ncmp ((V (t + 1)) * 2 ^ xbl (V (q + 1))) ((V (q + 1)) * 2 ^ xbl (V (t + 1)))))) (o_mul (sgn (S t 1) (S t 2)) (ncmp ((V (t + 1)) * 2 ^ xbl (V (q + 1))) ((V (q + 1)) * 2 ^ xbl (V (t + 1))))) ?_
              refine i_109_116 ?_
              refine ⟨?_, rfl⟩
              rw [show ordR (S t 1) (S t 2) (S t 3) (V (t + 1)) (S q 1) (S q 2) (S q 3) (V (q + 1)) = (sgn (S t 1) (S t 2)) * (ncmp ((V (t + 1)) * 2 ^ xbl (V (q + 1))) ((V (q + 1)) * 2 ^ xbl (V (t + 1)))) from by clear hR; unfold ordR; grind]
            · refine i_109_85 (x := t) l0 ?_
              refine i_109_86 (v := Value.int (Int32.ofInt (S t 3))) (hR.k2 ht) rfl ?_
              refine i_109_89 (x := q) l1 ?_
              refine i_109_90 (v := Value.int (Int32.ofInt (S q 3))) (hR.k2 hq) rfl ?_
              refine i_109_93 (b_le (a := S t 3) (b := S q 3) ⟨by omega, by omega⟩ ⟨by omega, by omega⟩ fun c5 => ?_) (b_lt (a := S q 3) (b := S t 3) ⟨by omega, by omega⟩ ⟨by omega, by omega⟩ fun c5 => ?_)
              · refine i_109_100 (x := Int32.ofInt (sgn (S t 1) (S t 2))) l2 ?_
                refine i_109_101 (c := Int32.ofInt (-(sgn (S t 1) (S t 2)))) (o_neg (sgn (S t 1) (S t 2))) ?_
                refine i_109_102 ?_
                refine ⟨?_, rfl⟩
                rw [show ordR (S t 1) (S t 2) (S t 3) (V (t + 1)) (S q 1) (S q 2) (S q 3) (V (q + 1)) = -(sgn (S t 1) (S t 2)) from by clear hR; unfold ordR; grind]
              · refine i_109_96 (x := Int32.ofInt (sgn (S t 1) (S t 2))) l2 ?_
                refine i_109_97 ?_
                refine i_109_102 ?_
                refine ⟨?_, rfl⟩
                rw [show ordR (S t 1) (S t 2) (S t 3) (V (t + 1)) (S q 1) (S q 2) (S q 3) (V (q + 1)) = sgn (S t 1) (S t 2) from by clear hR; unfold ordR; grind]
          · refine i_109_59 (x := t) l0 ?_
            refine i_109_60 (v := Value.int (Int32.ofInt (S t 1))) (hR.k2 ht) rfl ?_
            refine i_109_63 ?_
            refine i_109_64 (b_ne (a := S t 1) (b := 1) ⟨by omega, by omega⟩ ⟨by decide, by decide⟩ fun c6 => ?_) (b_eq (a := S t 1) (b := 1) ⟨by omega, by omega⟩ ⟨by decide, by decide⟩ fun c6 => absurd c6 (by omega))
            refine i_109_71 (x := Int32.ofInt (sgn (S t 1) (S t 2))) l2 ?_
            refine i_109_72 (c := Int32.ofInt (-(sgn (S t 1) (S t 2)))) (o_neg (sgn (S t 1) (S t 2))) ?_
            refine i_109_73 ?_
            refine ⟨?_, rfl⟩
            rw [show ordR (S t 1) (S t 2) (S t 3) (V (t + 1)) (S q 1) (S q 2) (S q 3) (V (q + 1)) = -(sgn (S t 1) (S t 2)) from by clear hR; unfold ordR; grind]
        · refine i_109_38 (x := q) l1 ?_
          refine i_109_39 (v := Value.int (Int32.ofInt (S q 1))) (hR.k2 hq) rfl ?_
          refine i_109_42 ?_
          refine i_109_43 (b_ne (a := S q 1) (b := 1) ⟨by omega, by omega⟩ ⟨by decide, by decide⟩ fun c7 => ?_) (b_eq (a := S q 1) (b := 1) ⟨by omega, by omega⟩ ⟨by decide, by decide⟩ fun c7 => ?_)
          · refine i_109_48 (x := t) l0 ?_
            refine i_109_49 (v := Value.int (Int32.ofInt (S t 1))) (hR.k2 ht) rfl ?_
            refine i_109_52 (x := q) l1 ?_
            refine i_109_53 (v := Value.int (Int32.ofInt (S q 1))) (hR.k2 hq) rfl ?_
            refine i_109_56 (b_eq (a := S t 1) (b := S q 1) ⟨by omega, by omega⟩ ⟨by omega, by omega⟩ fun c8 => ?_) (b_ne (a := S t 1) (b := S q 1) ⟨by omega, by omega⟩ ⟨by omega, by omega⟩ fun c8 => ?_)
            · refine i_109_74 (x := t) l0 ?_
              refine i_109_75 (v := Value.int (Int32.ofInt (S t 3))) (hR.k2 ht) rfl ?_
              refine i_109_78 (x := q) l1 ?_
              refine i_109_79 (v := Value.int (Int32.ofInt (S q 3))) (hR.k2 hq) rfl ?_
              refine i_109_82 (b_eq (a := S t 3) (b := S q 3) ⟨by omega, by omega⟩ ⟨by omega, by omega⟩ fun c9 => ?_) (b_ne (a := S t 3) (b := S q 3) ⟨by omega, by omega⟩ ⟨by omega, by omega⟩ fun c9 => ?_)
              · refine i_109_103 (x := Int32.ofInt (sgn (S t 1) (S t 2))) l2 ?_
                refine i_109_104 (x := t) l0 ?_
                refine i_109_105 (v := Value.ref (t + 1)) (hR.k2 ht) rfl ?_
                refine i_109_108 (x := q) l1 ?_
                refine i_109_109 (v := Value.ref (q + 1)) (hR.k2 hq) rfl ?_
                obtain ⟨fs, hobj⟩ := hR.nat (kd_rg ht)
                have hrun := X_oft (d := d) (h := t + 1) (h2 := q + 1) (u := V (t + 1)) (v2 := V (q + 1)) hR (kd_rg ht) (kd_rg hq) (rfl) (rfl)
                refine i_109_112 hobj (Nat.le_of_ble_eq_true rfl) hrun ?_
                refine i_109_115 (c := Int32.ofInt ((sgn (S t 1) (S t 2)) * (ncmp ((V (t + 1)) * 2 ^ xbl (V (q + 1))) ((V (q + 1)) * 2 ^ xbl (V (t + 1)))))) (o_mul (sgn (S t 1) (S t 2)) (ncmp ((V (t + 1)) * 2 ^ xbl (V (q + 1))) ((V (q + 1)) * 2 ^ xbl (V (t + 1))))) ?_
                refine i_109_116 ?_
                refine ⟨?_, rfl⟩
                rw [show ordR (S t 1) (S t 2) (S t 3) (V (t + 1)) (S q 1) (S q 2) (S q 3) (V (q + 1)) = (sgn (S t 1) (S t 2)) * (ncmp ((V (t + 1)) * 2 ^ xbl (V (q + 1))) ((V (q + 1)) * 2 ^ xbl (V (t + 1)))) from by clear hR; unfold ordR; grind]
              · refine i_109_85 (x := t) l0 ?_
                refine i_109_86 (v := Value.int (Int32.ofInt (S t 3))) (hR.k2 ht) rfl ?_
                refine i_109_89 (x := q) l1 ?_
                refine i_109_90 (v := Value.int (Int32.ofInt (S q 3))) (hR.k2 hq) rfl ?_
                refine i_109_93 (b_le (a := S t 3) (b := S q 3) ⟨by omega, by omega⟩ ⟨by omega, by omega⟩ fun c10 => ?_) (b_lt (a := S q 3) (b := S t 3) ⟨by omega, by omega⟩ ⟨by omega, by omega⟩ fun c10 => ?_)
                · refine i_109_100 (x := Int32.ofInt (sgn (S t 1) (S t 2))) l2 ?_
                  refine i_109_101 (c := Int32.ofInt (-(sgn (S t 1) (S t 2)))) (o_neg (sgn (S t 1) (S t 2))) ?_
                  refine i_109_102 ?_
                  refine ⟨?_, rfl⟩
                  rw [show ordR (S t 1) (S t 2) (S t 3) (V (t + 1)) (S q 1) (S q 2) (S q 3) (V (q + 1)) = -(sgn (S t 1) (S t 2)) from by clear hR; unfold ordR; grind]
                · refine i_109_96 (x := Int32.ofInt (sgn (S t 1) (S t 2))) l2 ?_
                  refine i_109_97 ?_
                  refine i_109_102 ?_
                  refine ⟨?_, rfl⟩
                  rw [show ordR (S t 1) (S t 2) (S t 3) (V (t + 1)) (S q 1) (S q 2) (S q 3) (V (q + 1)) = sgn (S t 1) (S t 2) from by clear hR; unfold ordR; grind]
            · refine i_109_59 (x := t) l0 ?_
              refine i_109_60 (v := Value.int (Int32.ofInt (S t 1))) (hR.k2 ht) rfl ?_
              refine i_109_63 ?_
              refine i_109_64 (b_ne (a := S t 1) (b := 1) ⟨by omega, by omega⟩ ⟨by decide, by decide⟩ fun c11 => absurd c11 (by omega)) (b_eq (a := S t 1) (b := 1) ⟨by omega, by omega⟩ ⟨by decide, by decide⟩ fun c11 => ?_)
              refine i_109_67 (x := Int32.ofInt (sgn (S t 1) (S t 2))) l2 ?_
              refine i_109_68 ?_
              refine i_109_73 ?_
              refine ⟨?_, rfl⟩
              rw [show ordR (S t 1) (S t 2) (S t 3) (V (t + 1)) (S q 1) (S q 2) (S q 3) (V (q + 1)) = sgn (S t 1) (S t 2) from by clear hR; unfold ordR; grind]
          · refine i_109_46 ?_
            refine i_109_47 ?_
            refine ⟨?_, rfl⟩
            rw [show ordR (S t 1) (S t 2) (S t 3) (V (t + 1)) (S q 1) (S q 2) (S q 3) (V (q + 1)) = (0 : Int) from by clear hR; unfold ordR; grind]
            rfl
    · refine i_109_15 (x := Int32.ofInt (sgn (S t 1) (S t 2))) l2 ?_
      refine i_109_16 (x := Int32.ofInt (sgn (S q 1) (S q 2))) l3 ?_
      refine i_109_17 (b_le (a := sgn (S q 1) (S q 2)) (b := sgn (S t 1) (S t 2)) ⟨by omega, by omega⟩ ⟨by omega, by omega⟩ fun c12 => ?_) (b_lt (a := sgn (S t 1) (S t 2)) (b := sgn (S q 1) (S q 2)) ⟨by omega, by omega⟩ ⟨by omega, by omega⟩ fun c12 => ?_)
      · refine i_109_24 ?_
        refine i_109_25 ?_
        refine ⟨?_, rfl⟩
        rw [show ordR (S t 1) (S t 2) (S t 3) (V (t + 1)) (S q 1) (S q 2) (S q 3) (V (q + 1)) = (1 : Int) from by clear hR; unfold ordR; grind]
        rfl
      · refine i_109_20 ?_
        refine i_109_21 ?_
        refine i_109_25 ?_
        refine ⟨?_, rfl⟩
        rw [show ordR (S t 1) (S t 2) (S t 3) (V (t + 1)) (S q 1) (S q 2) (S q 3) (V (q + 1)) = ((-1) : Int) from by clear hR; unfold ordR; grind]
        rfl
  obtain ⟨o, w', h1, rfl, rfl⟩ := (key (lv_args 0 [Value.ref t, Value.ref q]) rfl rfl).run
  exact h1
end
