/-! toDouble of the class -/
theorem q_orN {a b i : Nat} (hb : b < 2 ^ i) (h : 2 ^ i * a + b < 18446744073709551616) : Int64.ofInt ((2 ^ i * a : Nat) : Int) ||| Int64.ofInt (b : Int) = Int64.ofInt ((2 ^ i * a + b : Nat) : Int) := by
  apply xul_inj
  have h1 : 2 ^ i * a ≤ 2 ^ i * a + b := Nat.le_add_right _ _
  have h2 : b ≤ 2 ^ i * a + b := Nat.le_add_left _ _
  have e1 : xul (Int64.ofInt ((2 ^ i * a : Nat) : Int)) = 2 ^ i * a := by rw [xul_o (Int.natCast_nonneg _) (by omega)]; rfl
  have e2 : xul (Int64.ofInt (b : Int)) = b := by rw [xul_o (by omega) (by omega)]; rfl
  have e3 : xul (Int64.ofInt ((2 ^ i * a + b : Nat) : Int)) = 2 ^ i * a + b := by rw [xul_o (Int.natCast_nonneg _) (by omega)]; rfl
  rw [xul_or, e1, e2, e3, ← Nat.two_pow_add_eq_or_of_lt hb]
theorem q_orM {x : Int} (h0 : 0 ≤ x) (h : x < 9223372036854775808) : (-9223372036854775808 : Int64) ||| Int64.ofInt x = Int64.ofInt (9223372036854775808 + x) := by
  have := q_orN (a := 1) (b := x.toNat) (i := 63) (by omega) (by omega)
  rw [show ((2 ^ 63 * 1 + x.toNat : Nat) : Int) = 9223372036854775808 + x by omega, show (x.toNat : Int) = x by omega] at this
  rw [← this]
  rfl
theorem q_or0 {x : Int} : (0 : Int64) ||| Int64.ofInt x = Int64.ofInt (0 + x) := by
  apply xul_inj
  rw [xul_or, Int.zero_add]
  show 0 ||| _ = _
  exact Nat.zero_or _
theorem q_or52b {x y : Int} (h0 : 0 ≤ x) (h1 : x < 18446744073709551616) (hx : x % 4503599627370496 = 0) (hy : 0 ≤ y) (hy2 : y < 4503599627370496) : Int64.ofInt x ||| Int64.ofInt y = Int64.ofInt (x + y) := by
  have := q_orN (a := (x / 4503599627370496).toNat) (b := y.toNat) (i := 52) (by omega) (by omega)
  rw [show ((2 ^ 52 * (x / 4503599627370496).toNat + y.toNat : Nat) : Int) = x + y by omega, show ((2 ^ 52 * (x / 4503599627370496).toNat : Nat) : Int) = x by omega, show (y.toNat : Int) = y by omega] at this
  exact this
theorem amt64 : ∀ z : Nat, z < 64 → ((Int32.ofInt (z : Int)).toInt64.toUInt64 &&& Int64.toUInt64 63).toNat % 64 = z := by decide
theorem q_ushrN {v : Nat} {z : Int} (hv : v < 9223372036854775808) (h0 : 0 ≤ z) (h1 : z < 64) : ((Int64.ofInt (v : Int)).toUInt64 >>> ((Int32.ofInt z).toInt64.toUInt64 &&& Int64.toUInt64 63)).toInt64 = Int64.ofInt ((v / 2 ^ z.toNat : Nat) : Int) := by
  apply xul_inj
  show ((Int64.ofInt (v : Int)).toUInt64 >>> ((Int32.ofInt z).toInt64.toUInt64 &&& Int64.toUInt64 63)).toNat = _
  have e := amt64 z.toNat (by omega)
  rw [show ((z.toNat : Nat) : Int) = z by omega] at e
  rw [UInt64.toNat_shiftRight, Nat.shiftRight_eq_div_pow, e]
  have h2 : v / 2 ^ z.toNat ≤ v := Nat.div_le_self _ _
  have e2 : xul (Int64.ofInt (v : Int)) = v := by rw [xul_o (by omega) (by omega)]; rfl
  rw [xul_o (Int.natCast_nonneg _) (by omega)]
  show xul (Int64.ofInt (v : Int)) / 2 ^ z.toNat = v / 2 ^ z.toNat
  rw [e2]
/-- the bits of a double -/
def dbl (k sg T : Int) (M : Nat) : Int := if k = 0 then 9221120237041090560 else (if sg = 0 then 0 else 9223372036854775808) + (if k = 2 then 0 else if k = 1 then 9218868437227405312 else if T < -1021 then ((M / 2 ^ (-1021 - T).toNat : Nat) : Int) else (T + 1022) * 4503599627370496 + ((M % 4503599627370496 : Nat) : Int))
def tdR (sg mode : Int) (m : Nat) (e : Int) : Int × Int × Nat × Int × Int := rnd 53 (-1021) 1024 1 0 sg mode 0 m e 0
def sTd (S : Nat → Nat → Int) (V : Nat → Nat) (r : Nat) (mode : Int) : Int :=
  if S 154 r ≠ 3 then dbl (S 154 r) (S 156 r) 0 0
  else dbl (tdR (S 156 r) mode (V (160 + 2 * r)) (S 155 r - S 153 r)).1 (S 156 r) (tdR (S 156 r) mode (V (160 + 2 * r)) (S 155 r - S 153 r)).2.1 (tdR (S 156 r) mode (V (160 + 2 * r)) (S 155 r - S 153 r)).2.2.1
theorem dbl_s {k sg T T' : Int} {M M' : Nat} (h : k ≠ 3) (hk : 0 ≤ k ∧ k ≤ 3) : dbl k sg T M = dbl k sg T' M' := by
  unfold dbl
  by_cases g0 : k = 0
  · rw [if_pos g0, if_pos g0]
  · rw [if_neg g0, if_neg g0]
    by_cases g2 : k = 2
    · rw [if_pos g2, if_pos g2]
    · rw [if_neg g2, if_neg g2, if_pos (show k = 1 by omega), if_pos (show k = 1 by omega)]
theorem t5 {a b d e e' : Int} {c : Nat} : ((a, b, c, d, e) : Int × Int × Nat × Int × Int).1 = ((a, b, c, d, e') : Int × Int × Nat × Int × Int).1 ∧ ((a, b, c, d, e) : Int × Int × Nat × Int × Int).2.1 = ((a, b, c, d, e') : Int × Int × Nat × Int × Int).2.1 ∧ ((a, b, c, d, e) : Int × Int × Nat × Int × Int).2.2.1 = ((a, b, c, d, e') : Int × Int × Nat × Int × Int).2.2.1 ∧ ((a, b, c, d, e) : Int × Int × Nat × Int × Int).2.2.2.1 = ((a, b, c, d, e') : Int × Int × Nat × Int × Int).2.2.2.1 := ⟨rfl, rfl, rfl, rfl⟩
theorem rD_f {p least greatest gradual free sg mode x more u way f f' : Int} {m q : Nat} : (rD p least greatest gradual free sg mode x more m q u way f).1 = (rD p least greatest gradual free sg mode x more m q u way f').1 ∧ (rD p least greatest gradual free sg mode x more m q u way f).2.1 = (rD p least greatest gradual free sg mode x more m q u way f').2.1 ∧ (rD p least greatest gradual free sg mode x more m q u way f).2.2.1 = (rD p least greatest gradual free sg mode x more m q u way f').2.2.1 ∧ (rD p least greatest gradual free sg mode x more m q u way f).2.2.2.1 = (rD p least greatest gradual free sg mode x more m q u way f').2.2.2.1 := by
  unfold rD
  by_cases h1 : free = 0 ∧ q ≠ 0 ∧ greatest < (xbl q : Int) + u
  · rw [if_pos h1, if_pos h1]
    by_cases h2 : far mode sg = true
    · rw [if_pos h2, if_pos h2]
      exact t5
    · rw [if_neg h2, if_neg h2]
      exact t5
  · rw [if_neg h1, if_neg h1]
    by_cases h2 : q = 0
    · rw [if_pos h2, if_pos h2]
      exact t5
    · rw [if_neg h2, if_neg h2]
      by_cases h3 : free = 0 ∧ gradual = 0 ∧ (xbl q : Int) + u < least
      · rw [if_pos h3, if_pos h3]
        by_cases h4 : upU m x least more sg mode = true
        · rw [if_pos h4, if_pos h4]
          exact t5
        · rw [if_neg h4, if_neg h4]
          exact t5
      · rw [if_neg h3, if_neg h3]
        exact t5
theorem rnd_f {p least greatest gradual free sg mode more e f f' : Int} {m : Nat} : (rnd p least greatest gradual free sg mode more m e f).1 = (rnd p least greatest gradual free sg mode more m e f').1 ∧ (rnd p least greatest gradual free sg mode more m e f).2.1 = (rnd p least greatest gradual free sg mode more m e f').2.1 ∧ (rnd p least greatest gradual free sg mode more m e f).2.2.1 = (rnd p least greatest gradual free sg mode more m e f').2.2.1 := by
  unfold rnd
  exact ⟨rD_f.1, rD_f.2.1, rD_f.2.2.1⟩
/-- the double's exponent -/
theorem rnd_td {sg mode e f : Int} {m : Nat} : (rnd 53 (-1021) 1024 1 0 sg mode 0 m e f).1 ≠ 3 ∨ (-1073 ≤ (rnd 53 (-1021) 1024 1 0 sg mode 0 m e f).2.1 ∧ (rnd 53 (-1021) 1024 1 0 sg mode 0 m e f).2.1 ≤ 1024) := by
  have key : ∀ (q : Nat) (u x way : Int), u = rU 53 (-1021) 1 0 x → (rD 53 (-1021) 1024 1 0 sg mode x 0 m q u way f).1 ≠ 3 ∨ (-1073 ≤ (rD 53 (-1021) 1024 1 0 sg mode x 0 m q u way f).2.1 ∧ (rD 53 (-1021) 1024 1 0 sg mode x 0 m q u way f).2.1 ≤ 1024) := by
    intro q u x way hu
    unfold rD
    split
    · split
      · exact Or.inl (show (1 : Int) ≠ 3 by decide)
      · right
        show -1073 ≤ (xbl (2 ^ (53 : Int).toNat - 1) : Int) + (1024 - 53) ∧ (xbl (2 ^ (53 : Int).toNat - 1) : Int) + (1024 - 53) ≤ 1024
        rw [xbl_ones]; decide
    · rename_i h1
      split
      · exact Or.inl (show (2 : Int) ≠ 3 by decide)
      · rename_i hq
        have hq1 : 1 ≤ xbl q := by
          rcases Nat.eq_zero_or_pos (xbl q) with e | e
          · exact absurd (xbl_nz.mp e) hq
          · exact e
        split
        · rename_i h3; exact absurd h3.2.1 (by decide)
        · right
          show -1073 ≤ (xbl q : Int) + u ∧ (xbl q : Int) + u ≤ 1024
          constructor
          · unfold rU at hu
            split at hu <;> omega
          · rcases Int.lt_or_le 1024 (xbl q + u) with g | g
            · exact absurd ⟨rfl, hq, g⟩ h1
            · exact g
  unfold rnd
  exact key _ _ _ _ rfl
/-- what toDouble leaves -/
def nD (S S1 : Nat → Nat → Int) : Prop := (∀ b j, cKeep b → ¬ (b = 9 ∧ j = 3) → ¬ (b = 10 ∧ (j = 1 ∨ j = 2 ∨ j = 3)) → S1 b j = S b j) ∧ kp S S1
theorem nD.cI {S S1 : Nat → Nat → Int} {V V1 : Nat → Nat} (h : nD S S1) (h2 : nW V V1) (hI : cI S V) : cI S1 V1 := by
  have k : ∀ b j, cKeep b → b ≠ 10 → b ≠ 9 → S1 b j = S b j := fun b j hb g1 g2 => h.1 b j hb (fun e => g2 e.1) (fun e => g1 e.1)
  obtain ⟨i1, i2, i3, i4, i5, i6⟩ := hI
  refine ⟨fun r hr => ?_, ?_, ?_, ?_, ?_, ?_⟩
  · have e : ∀ j, S1 (30 + 3 * r) j = S (30 + 3 * r) j := fun j => k _ j (Or.inl (by omega)) (by omega) (by omega)
    rw [e, e, e, e, h2 _ (by omega) (by omega)]
    exact i1 r hr
  · rw [k 78 0 (Or.inl (by omega)) (by omega) (by omega), k 78 1 (Or.inl (by omega)) (by omega) (by omega)]; exact i2
  · rw [k 78 2 (Or.inl (by omega)) (by omega) (by omega)]; exact i3
  · exact h.2.2 i4
  · rw [k 7 11 (Or.inr (Or.inl rfl)) (by omega) (by omega)]; exact i5
  · rw [h.1 9 0 (by unfold cKeep; omega) (by omega) (by omega), h.1 9 1 (by unfold cKeep; omega) (by omega) (by omega), h.1 9 2 (by unfold cKeep; omega) (by omega) (by omega), h.1 10 0 (by unfold cKeep; omega) (by omega) (by omega)]; exact i6
theorem nD.of {S S1 : Nat → Nat → Int} (h : nC S S1) : nD S S1 := ⟨fun b j hb _ _ => h.1 b j hb, h.2⟩
theorem nD.up {S S1 : Nat → Nat → Int} {j : Nat} {v : Int} (h : nD S S1) (hj : j = 1 ∨ j = 2 ∨ j = 3) : nD S (u2 S1 10 j v) := by
  refine ⟨fun b i hb g1 g2 => ?_, ?_⟩
  · rw [u2_eq, if_neg (fun e => g2 ⟨e.1, by omega⟩)]; exact h.1 b i hb g1 g2
  · exact h.2.up (by omega)
theorem nD.sP {S S1 S2 : Nat → Nat → Int} {V1 V2 : Nat → Nat} {sg : Int} {o : Int × Int × Nat × Int × Int} (h : nC S S1) (hP : sP S1 S2 V1 V2 9 10 sg o) : nD S S2 := by
  refine ⟨fun b j hb g1 g2 => ?_, ?_⟩
  · rw [hP.2.2.2.2.1 b j g2 g1]; exact h.1 b j hb
  · exact h.2.trans (kp.of3 (hP.2.2.2.2.1 113 3 (by omega) (by omega)) (hP.2.2.2.2.1 79 0 (by omega) (by omega)) (hP.2.2.2.2.1 79 1 (by omega) (by omega)))
section
variable {w0 w : xW} {L Z : Nat} {S : Nat → Nat → Int} {V : Nat → Nat} {d h t r : Nat}
set_option maxHeartbeats 4000000 in
theorem x_bod (hR : cX w0 L Z S V w) (ht : kd t = 2) (hk : 0 ≤ S t 1 ∧ S t 1 ≤ 3) (hn : S t 2 = 0 ∨ S t 2 = 1) (hT : S t 1 ≠ 3 ∨ (-1073 ≤ S t 3 ∧ S t 3 ≤ 1024)) (hx : S t 1 = 3 → xbl (V (t + 1)) = 53) : xRun (d + 2) 131 [Value.ref t] w (.inl (some (.long (Int64.ofInt (dbl (S t 1) (S t 2) (S t 3) (V (t + 1))))))) w := by
  have key : ∀ lv, xld lv 0 = some (Value.ref t) → xEv (d + 2) 131 0 lv [] w (fun o w' => o = .inl (some (.long (Int64.ofInt (dbl (S t 1) (S t 2) (S t 3) (V (t + 1)))))) ∧ w' = w) := by
    intro lv l0
    have hvl : S t 1 = 3 → V (t + 1) < 9007199254740992 := fun e => by have h1 := xbl_lt (V (t + 1)); rw [hx e] at h1; exact h1
    clear hx
    replace hvl : hid (S t 1 = 3 → V (t + 1) < 9007199254740992) := hvl
    refine i_131_0 (x := t) l0 ?_
    refine i_131_1 (v := Value.int (Int32.ofInt (S t 1))) (hR.k2 ht) rfl ?_
    refine i_131_4 (z_ne (a := S t 1) ⟨by omega, by omega⟩ fun c0 => ?_) (z_eq (a := S t 1) ⟨by omega, by omega⟩ fun c0 => ?_)
    · refine i_131_11 (x := t) l0 ?_
      refine i_131_12 (v := Value.int (Int32.ofInt (S t 2))) (hR.k2 ht) rfl ?_
      refine i_131_15 (z_eq (a := S t 2) ⟨by omega, by omega⟩ fun c1 => ?_) (z_ne (a := S t 2) ⟨by omega, by omega⟩ fun c1 => ?_)
      · refine i_131_24 ?_
        refine i_131_25 rfl ?_
        refine lgen2 (i := 1) (v := Value.long 0) (fun lv lg ls => ?_)
        replace l0 := lg 0 _ rfl rfl l0
        have l1 := ls
        refine i_131_26 (x := t) l0 ?_
        refine i_131_27 (v := Value.int (Int32.ofInt (S t 1))) (hR.k2 ht) rfl ?_
        refine i_131_30 ?_
        refine i_131_31 (b_ne (a := S t 1) (b := 2) ⟨by omega, by omega⟩ ⟨by decide, by decide⟩ fun c2 => ?_) (b_eq (a := S t 1) (b := 2) ⟨by omega, by omega⟩ ⟨by decide, by decide⟩ fun c2 => ?_)
        · refine i_131_36 (x := t) l0 ?_
          refine i_131_37 (v := Value.int (Int32.ofInt (S t 1))) (hR.k2 ht) rfl ?_
          refine i_131_40 ?_
          refine i_131_41 (b_ne (a := S t 1) (b := 1) ⟨by omega, by omega⟩ ⟨by decide, by decide⟩ fun c3 => ?_) (b_eq (a := S t 1) (b := 1) ⟨by omega, by omega⟩ ⟨by decide, by decide⟩ fun c3 => ?_)
          · refine i_131_50 (x := t) l0 ?_
            refine i_131_51 (v := Value.ref (t + 1)) (hR.k2 ht) rfl ?_
            refine i_131_54 ?_
            obtain ⟨fs, hobj⟩ := hR.nat (kd_rg ht)
            have hrun := X_bf (d := d + 1) (h := t + 1) (u := V (t + 1)) (p := 0) hR (kd_rg ht) (rfl) ⟨by omega, by omega⟩
            refine i_131_55 hobj (Nat.le_of_ble_eq_true rfl) hrun ?_
            refine i_131_58 rfl ?_
            refine i_131_59 ?_
            refine i_131_62 (c := Int64.ofInt (bfn (V (t + 1)) 0 : Int)) lowbf ?_
            refine i_131_63 (x := t) l0 ?_
            refine i_131_64 (v := Value.ref (t + 1)) (hR.k2 ht) rfl ?_
            refine i_131_67 ?_
            obtain ⟨fs, hobj⟩ := hR.nat (kd_rg ht)
            have hrun := X_bf (d := d + 1) (h := t + 1) (u := V (t + 1)) (p := 32) hR (kd_rg ht) (rfl) ⟨by omega, by omega⟩
            refine i_131_69 hobj (Nat.le_of_ble_eq_true rfl) hrun ?_
            refine i_131_72 rfl ?_
            refine i_131_73 ?_
            refine i_131_75 rfl ?_
            refine i_131_76 (c := Int64.ofInt (V (t + 1) : Int)) (q_join64.trans (by rw [Nat.mod_eq_of_lt (by have := hvl (by omega); omega)])) ?_
            refine i_131_77 rfl ?_
            refine lgen2 (i := 3) (v := Value.long (Int64.ofInt (V (t + 1) : Int))) (fun lv lg ls => ?_)
            replace l1 := lg 1 _ rfl rfl l1
            replace l0 := lg 0 _ rfl rfl l0
            have l3 := ls
            refine i_131_78 (x := t) l0 ?_
            refine i_131_79 (v := Value.int (Int32.ofInt (S t 3))) (hR.k2 ht) rfl ?_
            refine i_131_82 ?_
            refine i_131_85 (b_le (a := (-1021)) (b := S t 3) ⟨by decide, by decide⟩ ⟨by omega, by omega⟩ fun c4 => ?_) (b_lt (a := S t 3) (b := (-1021)) ⟨by omega, by omega⟩ ⟨by decide, by decide⟩ fun c4 => ?_)
            · refine i_131_101 (x := 0) l1 ?_
              refine i_131_102 (x := t) l0 ?_
              refine i_131_103 (v := Value.int (Int32.ofInt (S t 3))) (hR.k2 ht) rfl ?_
              refine i_131_106 ?_
              refine i_131_109 (c := Int32.ofInt ((S t 3) + 1022)) (o_add (S t 3) 1022) ?_
              refine i_131_110 (c := Int64.ofInt ((S t 3) + 1022)) (q_i2l (a := (S t 3) + 1022) ⟨by omega, by omega⟩) ?_
              refine i_131_111 ?_
              refine i_131_113 (c := Int64.ofInt (((S t 3) + 1022) * 4503599627370496)) (q_shlZ (q := 52) rfl (by decide)) ?_
              refine i_131_114 (c := Int64.ofInt (0 + (((S t 3) + 1022) * 4503599627370496))) q_or0 ?_
              refine i_131_115 (x := Int64.ofInt (V (t + 1) : Int)) l3 ?_
              refine i_131_116 ?_
              refine i_131_119 (c := Int64.ofInt ((V (t + 1) : Int) % 4503599627370496)) (q_mask52 (V (t + 1) : Int)) ?_
              refine i_131_120 (c := Int64.ofInt ((0 + (((S t 3) + 1022) * 4503599627370496)) + ((V (t + 1) : Int) % 4503599627370496))) (q_or52b (by omega) (by omega) (by omega) (by omega) (by omega)) ?_
              refine i_131_121 ?_
              refine ⟨?_, rfl⟩
              have e : dbl (S t 1) (S t 2) (S t 3) (V (t + 1)) = (0 + (((S t 3) + 1022) * 4503599627370496)) + ((V (t + 1) : Int) % 4503599627370496) := by
                unfold dbl
                grind
              rw [e]
            · refine i_131_88 (x := 0) l1 ?_
              refine i_131_89 (x := Int64.ofInt (V (t + 1) : Int)) l3 ?_
              refine i_131_90 ?_
              refine i_131_93 (x := t) l0 ?_
              refine i_131_94 (v := Value.int (Int32.ofInt (S t 3))) (hR.k2 ht) rfl ?_
              refine i_131_97 (c := Int32.ofInt ((-1021) - (S t 3))) ((congrArg (· - Int32.ofInt (S t 3)) (show (-1021 : Int32) = Int32.ofInt (-1021) by decide)).trans (o_sub (-1021) (S t 3))) ?_
              refine i_131_98 (c := Int64.ofInt ((V (t + 1) / 2 ^ ((-1021) - (S t 3)).toNat : Nat) : Int)) (q_ushrN (by have := hvl (by omega); omega) (by omega) (by omega)) ?_
              refine i_131_99 (c := Int64.ofInt (0 + ((V (t + 1) / 2 ^ ((-1021) - (S t 3)).toNat : Nat) : Int))) q_or0 ?_
              refine i_131_100 ?_
              refine ⟨?_, rfl⟩
              have e : dbl (S t 1) (S t 2) (S t 3) (V (t + 1)) = 0 + ((V (t + 1) / 2 ^ ((-1021) - (S t 3)).toNat : Nat) : Int) := by
                unfold dbl
                grind
              rw [e]
          · refine i_131_44 (x := 0) l1 ?_
            refine i_131_45 ?_
            refine i_131_48 (c := Int64.ofInt 9218868437227405312) rfl ?_
            refine i_131_49 ?_
            refine ⟨?_, rfl⟩
            have e : dbl (S t 1) (S t 2) (S t 3) (V (t + 1)) = 9218868437227405312 := by
              unfold dbl
              grind
            rw [e]
        · refine i_131_34 (x := 0) l1 ?_
          refine i_131_35 ?_
          refine ⟨?_, rfl⟩
          have e : dbl (S t 1) (S t 2) (S t 3) (V (t + 1)) = 0 := by
            unfold dbl
            grind
          rw [e]
          rfl
      · refine i_131_18 ?_
        refine i_131_21 ?_
        refine i_131_25 rfl ?_
        refine lgen2 (i := 1) (v := Value.long (-9223372036854775808)) (fun lv lg ls => ?_)
        replace l0 := lg 0 _ rfl rfl l0
        have l1 := ls
        refine i_131_26 (x := t) l0 ?_
        refine i_131_27 (v := Value.int (Int32.ofInt (S t 1))) (hR.k2 ht) rfl ?_
        refine i_131_30 ?_
        refine i_131_31 (b_ne (a := S t 1) (b := 2) ⟨by omega, by omega⟩ ⟨by decide, by decide⟩ fun c5 => ?_) (b_eq (a := S t 1) (b := 2) ⟨by omega, by omega⟩ ⟨by decide, by decide⟩ fun c5 => ?_)
        · refine i_131_36 (x := t) l0 ?_
          refine i_131_37 (v := Value.int (Int32.ofInt (S t 1))) (hR.k2 ht) rfl ?_
          refine i_131_40 ?_
          refine i_131_41 (b_ne (a := S t 1) (b := 1) ⟨by omega, by omega⟩ ⟨by decide, by decide⟩ fun c6 => ?_) (b_eq (a := S t 1) (b := 1) ⟨by omega, by omega⟩ ⟨by decide, by decide⟩ fun c6 => ?_)
          · refine i_131_50 (x := t) l0 ?_
            refine i_131_51 (v := Value.ref (t + 1)) (hR.k2 ht) rfl ?_
            refine i_131_54 ?_
            obtain ⟨fs, hobj⟩ := hR.nat (kd_rg ht)
            have hrun := X_bf (d := d + 1) (h := t + 1) (u := V (t + 1)) (p := 0) hR (kd_rg ht) (rfl) ⟨by omega, by omega⟩
            refine i_131_55 hobj (Nat.le_of_ble_eq_true rfl) hrun ?_
            refine i_131_58 rfl ?_
            refine i_131_59 ?_
            refine i_131_62 (c := Int64.ofInt (bfn (V (t + 1)) 0 : Int)) lowbf ?_
            refine i_131_63 (x := t) l0 ?_
            refine i_131_64 (v := Value.ref (t + 1)) (hR.k2 ht) rfl ?_
            refine i_131_67 ?_
            obtain ⟨fs, hobj⟩ := hR.nat (kd_rg ht)
            have hrun := X_bf (d := d + 1) (h := t + 1) (u := V (t + 1)) (p := 32) hR (kd_rg ht) (rfl) ⟨by omega, by omega⟩
            refine i_131_69 hobj (Nat.le_of_ble_eq_true rfl) hrun ?_
            refine i_131_72 rfl ?_
            refine i_131_73 ?_
            refine i_131_75 rfl ?_
            refine i_131_76 (c := Int64.ofInt (V (t + 1) : Int)) (q_join64.trans (by rw [Nat.mod_eq_of_lt (by have := hvl (by omega); omega)])) ?_
            refine i_131_77 rfl ?_
            refine lgen2 (i := 3) (v := Value.long (Int64.ofInt (V (t + 1) : Int))) (fun lv lg ls => ?_)
            replace l1 := lg 1 _ rfl rfl l1
            replace l0 := lg 0 _ rfl rfl l0
            have l3 := ls
            refine i_131_78 (x := t) l0 ?_
            refine i_131_79 (v := Value.int (Int32.ofInt (S t 3))) (hR.k2 ht) rfl ?_
            refine i_131_82 ?_
            refine i_131_85 (b_le (a := (-1021)) (b := S t 3) ⟨by decide, by decide⟩ ⟨by omega, by omega⟩ fun c7 => ?_) (b_lt (a := S t 3) (b := (-1021)) ⟨by omega, by omega⟩ ⟨by decide, by decide⟩ fun c7 => ?_)
            · refine i_131_101 (x := (-9223372036854775808)) l1 ?_
              refine i_131_102 (x := t) l0 ?_
              refine i_131_103 (v := Value.int (Int32.ofInt (S t 3))) (hR.k2 ht) rfl ?_
              refine i_131_106 ?_
              refine i_131_109 (c := Int32.ofInt ((S t 3) + 1022)) (o_add (S t 3) 1022) ?_
              refine i_131_110 (c := Int64.ofInt ((S t 3) + 1022)) (q_i2l (a := (S t 3) + 1022) ⟨by omega, by omega⟩) ?_
              refine i_131_111 ?_
              refine i_131_113 (c := Int64.ofInt (((S t 3) + 1022) * 4503599627370496)) (q_shlZ (q := 52) rfl (by decide)) ?_
              refine i_131_114 (c := Int64.ofInt (9223372036854775808 + (((S t 3) + 1022) * 4503599627370496))) (q_orM (by omega) (by omega)) ?_
              refine i_131_115 (x := Int64.ofInt (V (t + 1) : Int)) l3 ?_
              refine i_131_116 ?_
              refine i_131_119 (c := Int64.ofInt ((V (t + 1) : Int) % 4503599627370496)) (q_mask52 (V (t + 1) : Int)) ?_
              refine i_131_120 (c := Int64.ofInt ((9223372036854775808 + (((S t 3) + 1022) * 4503599627370496)) + ((V (t + 1) : Int) % 4503599627370496))) (q_or52b (by omega) (by omega) (by omega) (by omega) (by omega)) ?_
              refine i_131_121 ?_
              refine ⟨?_, rfl⟩
              have e : dbl (S t 1) (S t 2) (S t 3) (V (t + 1)) = (9223372036854775808 + (((S t 3) + 1022) * 4503599627370496)) + ((V (t + 1) : Int) % 4503599627370496) := by
                unfold dbl
                grind
              rw [e]
            · refine i_131_88 (x := (-9223372036854775808)) l1 ?_
              refine i_131_89 (x := Int64.ofInt (V (t + 1) : Int)) l3 ?_
              refine i_131_90 ?_
              refine i_131_93 (x := t) l0 ?_
              refine i_131_94 (v := Value.int (Int32.ofInt (S t 3))) (hR.k2 ht) rfl ?_
              refine i_131_97 (c := Int32.ofInt ((-1021) - (S t 3))) ((congrArg (· - Int32.ofInt (S t 3)) (show (-1021 : Int32) = Int32.ofInt (-1021) by decide)).trans (o_sub (-1021) (S t 3))) ?_
              refine i_131_98 (c := Int64.ofInt ((V (t + 1) / 2 ^ ((-1021) - (S t 3)).toNat : Nat) : Int)) (q_ushrN (by have := hvl (by omega); omega) (by omega) (by omega)) ?_
              have hq9 := Nat.div_le_self (V (t + 1)) (2 ^ (-1021 - S t 3).toNat)
              have hq8 := hvl (by omega)
              have hq7 : (0 : Int) ≤ ((V (t + 1) / 2 ^ (-1021 - S t 3).toNat : Nat) : Int) := Int.natCast_nonneg _
              refine i_131_99 (c := Int64.ofInt (9223372036854775808 + ((V (t + 1) / 2 ^ ((-1021) - (S t 3)).toNat : Nat) : Int))) (q_orM (by omega) (by omega)) ?_
              refine i_131_100 ?_
              refine ⟨?_, rfl⟩
              have e : dbl (S t 1) (S t 2) (S t 3) (V (t + 1)) = 9223372036854775808 + ((V (t + 1) / 2 ^ ((-1021) - (S t 3)).toNat : Nat) : Int) := by
                unfold dbl
                grind
              rw [e]
          · refine i_131_44 (x := (-9223372036854775808)) l1 ?_
            refine i_131_45 ?_
            refine i_131_48 (c := Int64.ofInt 18442240474082181120) rfl ?_
            refine i_131_49 ?_
            refine ⟨?_, rfl⟩
            have e : dbl (S t 1) (S t 2) (S t 3) (V (t + 1)) = 18442240474082181120 := by
              unfold dbl
              grind
            rw [e]
        · refine i_131_34 (x := (-9223372036854775808)) l1 ?_
          refine i_131_35 ?_
          refine ⟨?_, rfl⟩
          have e : dbl (S t 1) (S t 2) (S t 3) (V (t + 1)) = 9223372036854775808 := by
            unfold dbl
            grind
          rw [e]
          rfl
    · refine i_131_7 ?_
      refine i_131_10 ?_
      refine ⟨?_, rfl⟩
      have e : dbl (S t 1) (S t 2) (S t 3) (V (t + 1)) = 9221120237041090560 := by
        unfold dbl
        grind
      rw [e]
      rfl
  obtain ⟨o, w', h1, rfl, rfl⟩ := (key (lv_args 0 [Value.ref t]) rfl).run
  exact h1
theorem sTd_v {r : Nat} {mode : Int} : sTd (vS S) (vV V) r mode = (if S (30 + 3 * r) 1 ≠ 3 then dbl (S (30 + 3 * r) 1) (S (30 + 3 * r) 2) 0 0
  else dbl (tdR (S (30 + 3 * r) 2) mode (V (30 + 3 * r + 1)) (S (30 + 3 * r) 3 - S (30 + 3 * r) 0)).1 (S (30 + 3 * r) 2) (tdR (S (30 + 3 * r) 2) mode (V (30 + 3 * r + 1)) (S (30 + 3 * r) 3 - S (30 + 3 * r) 0)).2.1 (tdR (S (30 + 3 * r) 2) mode (V (30 + 3 * r + 1)) (S (30 + 3 * r) 3 - S (30 + 3 * r) 0)).2.2.1) := by
  unfold sTd
  rw [vV_r]
  rfl
set_option maxHeartbeats 4000000 in
theorem x_tod {r mode : Int} (hR : cX w0 L Z S V w) (hI : cI S V) (hr : 0 ≤ r ∧ r ≤ 15) (hmo : 0 ≤ mode ∧ mode ≤ 4) : ∃ w', xRun (d + 11) 130 [Value.ref 7, Value.int (Int32.ofInt r), Value.int (Int32.ofInt mode)] w (.inl (some (.long (Int64.ofInt (sTd (vS S) (vV V) r.toNat mode))))) w' ∧ ∃ S' V', cX w0 L Z S' V' w' ∧ nD S S' ∧ nW V V' := by
  have key : ∀ lv, xld lv 0 = some (Value.ref 7) → xld lv 1 = some (Value.int (Int32.ofInt r)) → xld lv 2 = some (Value.int (Int32.ofInt mode)) → xEv (d + 11) 130 0 lv [] w (fun o w' => o = .inl (some (.long (Int64.ofInt (sTd (vS S) (vV V) r.toNat mode)))) ∧ ∃ S' V', cX w0 L Z S' V' w' ∧ nD S S' ∧ nW V V') := by
    intro lv l0 l1 l2
    obtain ⟨hp_r, hk_r, hn_r, ht_r, hx_r, hz_r⟩ := hI.1 r.toNat (by omega)
    have hi_l := hI.2.1
    have hi_g := hI.2.2.1
    obtain ⟨hd0, hd1, hd2, hd3⟩ := hI.2.2.2.2.2
    refine i_130_0 (x := Int32.ofInt r) l1 ?_
    have hrun := x_noReg (d := d + 10) (w := w) (r := r) ⟨by omega, by omega⟩
    rw [show (decide (r < 0) || decide (16 ≤ r)) = false from by simp; omega] at hrun
    refine i_130_1 (Nat.le_of_ble_eq_true rfl) hrun ?_
    refine i_130_4 (fun c => absurd c (by decide)) (fun _ => ?_)
    refine i_130_7 (x := Int32.ofInt mode) l2 ?_
    have hrun := x_noMode (d := d + 10) (w := w) (m := mode) ⟨by omega, by omega⟩
    rw [show (decide (mode < 0) || decide (4 < mode)) = false from by simp; omega] at hrun
    refine i_130_8 (Nat.le_of_ble_eq_true rfl) hrun ?_
    refine i_130_11 (fun _ => ?_) (fun c => absurd c (by decide))
    refine i_130_22 (x := 7) l0 ?_
    refine i_130_23 (v := Value.ref 8) (hR.k0 kq_7) rfl ?_
    refine i_130_26 (x := Int32.ofInt r) l1 ?_
    obtain ⟨gr, hgr, hge⟩ := hR.regs
    refine i_130_27 (v := Value.ref (30 + 3 * r.toNat)) hgr (ix0 (T := r) (by omega) (by omega)) (ix1 (T := r) (by omega) (by omega) (by omega)) (by rw [ixn (T := r) (by omega) (by omega)]; exact hge _ (by omega)) ?_
    refine i_130_28 rfl ?_
    refine lgen1 (i := 3) (v := Value.ref (30 + 3 * r.toNat)) (fun lv lg ls => ?_)
    replace l0 := lg 0 _ rfl rfl l0
    replace l1 := lg 1 _ rfl rfl l1
    replace l2 := lg 2 _ rfl rfl l2
    have l3 := ls
    refine i_130_29 (x := 30 + 3 * r.toNat) l3 ?_
    refine i_130_30 (v := Value.int (Int32.ofInt (S (30 + 3 * r.toNat) 1))) (hR.k2 (kd_reg (r := r.toNat) (by omega))) rfl ?_
    refine i_130_33 ?_
    refine i_130_34 (b_ne (a := S (30 + 3 * r.toNat) 1) (b := 3) ⟨by omega, by omega⟩ ⟨by decide, by decide⟩ fun c0 => ?_) (b_eq (a := S (30 + 3 * r.toNat) 1) (b := 3) ⟨by omega, by omega⟩ ⟨by decide, by decide⟩ fun c0 => ?_)
    · refine i_130_65 (x := 7) l0 ?_
      refine i_130_66 (v := Value.ref 10) (hR.k0 kq_7) rfl ?_
      refine i_130_69 (x := 30 + 3 * r.toNat) l3 ?_
      refine i_130_70 (v := Value.int (Int32.ofInt (S (30 + 3 * r.toNat) 1))) (hR.k2 (kd_reg (r := r.toNat) (by omega))) rfl ?_
      refine i_130_73 (x := 30 + 3 * r.toNat) l3 ?_
      refine i_130_74 (v := Value.int (Int32.ofInt (S (30 + 3 * r.toNat) 2))) (hR.k2 (kd_reg (r := r.toNat) (by omega))) rfl ?_
      have hobj := hR.k2 kq_10
      obtain ⟨w, hrun, hR⟩ := x_spec (d := d + 10) (t := 10) (which := S (30 + 3 * r.toNat) 1) (sg := S (30 + 3 * r.toNat) 2) hR kq_10 (by first | omega | exact bb_01 _)
      refine i_130_77 hobj (Nat.le_of_ble_eq_true rfl) hrun ?_
      refine i_130_80 rfl ?_
      refine i_130_81 (x := 7) l0 ?_
      refine i_130_82 (v := Value.ref 10) (hR.k0 kq_7) rfl ?_
      have hobj := hR.k2 kq_10
      have e1 : (u2 (u2 S 10 1 (S (30 + 3 * r.toNat) 1)) 10 2 (S (30 + 3 * r.toNat) 2)) 10 1 = S (30 + 3 * r.toNat) 1 := by rw [u2_eq, if_neg (fun e => absurd e.2 (by decide)), u2_eq, if_pos ⟨rfl, rfl⟩]
      have e2 : (u2 (u2 S 10 1 (S (30 + 3 * r.toNat) 1)) 10 2 (S (30 + 3 * r.toNat) 2)) 10 2 = S (30 + 3 * r.toNat) 2 := by rw [u2_eq, if_pos ⟨rfl, rfl⟩]
      have hrun := x_bod (d := d + 8) (t := 10) hR kq_10 (by rw [e1]; omega) (by rw [e2]; omega) (Or.inl (by rw [e1]; omega)) (fun e => by rw [e1] at e; omega)
      rw [e1, e2, show dbl (S (30 + 3 * r.toNat) 1) (S (30 + 3 * r.toNat) 2) _ _ = sTd (vS S) (vV V) r.toNat mode from by rw [sTd_v, if_pos (by omega)]; exact dbl_s (by omega) (by omega)] at hrun
      refine i_130_85 hobj (Nat.le_of_ble_eq_true rfl) hrun ?_
      refine i_130_88 ?_
      exact ⟨rfl, _, _, hR, ((nD.of nC.refl).up (by decide)).up (by decide), nW.refl⟩
    · try replace ht_r := ht_r.resolve_left (by omega)
      try replace hx_r := hx_r.resolve_left (by omega)
      refine i_130_37 (x := 7) l0 ?_
      refine i_130_38 (v := Value.ref 16) (hR.k0 kq_7) rfl ?_
      refine i_130_41 (x := 30 + 3 * r.toNat) l3 ?_
      have hobj := hR.k4 kq_16
      have ep : S (30 + 3 * r.toNat) 0 = S (30 + 3 * r.toNat) 0 := rfl
      have en : S (30 + 3 * r.toNat) 2 = S (30 + 3 * r.toNat) 2 := rfl
      have ex : S (30 + 3 * r.toNat) 3 = S (30 + 3 * r.toNat) 3 := rfl
      have ev : V ((30 + 3 * r.toNat) + 1) = V ((30 + 3 * r.toNat) + 1) := rfl
      obtain ⟨w, hrun, hR⟩ := x_tn (d := d + 6) (h := 16) (t := 30 + 3 * r.toNat) hR kq_16 (kd_reg (r := r.toNat) (by omega)) (by rw [en]; omega) (by rw [ev]; omega)
      rw [ep, en, ex, ev] at hR
      refine i_130_42 hobj (Nat.le_of_ble_eq_true rfl) hrun ?_
      refine i_130_45 (x := 7) l0 ?_
      refine i_130_46 (v := Value.ref 9) (hR.k0 kq_7) rfl ?_
      refine i_130_49 (x := 7) l0 ?_
      refine i_130_50 (v := Value.ref 10) (hR.k0 kq_7) rfl ?_
      refine i_130_53 (x := 7) l0 ?_
      refine i_130_54 (v := Value.ref 16) (hR.k0 kq_7) rfl ?_
      refine i_130_57 (x := Int32.ofInt mode) l2 ?_
      have hobj := hR.k1 kq_9
      have el : (u2 (u2 (u2 S 16 0 (S (30 + 3 * r.toNat) 2)) 16 2 ((S (30 + 3 * r.toNat) 3) - (S (30 + 3 * r.toNat) 0))) 16 3 0) 9 0 = S 9 0 := by rw [u2_eq, if_neg (fun e => absurd e.2 (by decide)), u2_eq, if_neg (fun e => absurd e.2 (by decide)), u2_eq, if_neg (fun e => absurd e.1 (by decide))]
      have eg : (u2 (u2 (u2 S 16 0 (S (30 + 3 * r.toNat) 2)) 16 2 ((S (30 + 3 * r.toNat) 3) - (S (30 + 3 * r.toNat) 0))) 16 3 0) 9 1 = S 9 1 := by rw [u2_eq, if_neg (fun e => absurd e.2 (by decide)), u2_eq, if_neg (fun e => absurd e.2 (by decide)), u2_eq, if_neg (fun e => absurd e.2 (by decide))]
      have ed : (u2 (u2 (u2 S 16 0 (S (30 + 3 * r.toNat) 2)) 16 2 ((S (30 + 3 * r.toNat) 3) - (S (30 + 3 * r.toNat) 0))) 16 3 0) 9 2 = S 9 2 := by rw [u2_eq, if_neg (fun e => absurd e.2 (by decide)), u2_eq, if_neg (fun e => absurd e.1 (by decide)), u2_eq, if_neg (fun e => absurd e.2 (by decide))]
      have ep : (u2 (u2 (u2 S 16 0 (S (30 + 3 * r.toNat) 2)) 16 2 ((S (30 + 3 * r.toNat) 3) - (S (30 + 3 * r.toNat) 0))) 16 3 0) 10 0 = S 10 0 := by rw [u2_eq, if_neg (fun e => absurd e.2 (by decide)), u2_eq, if_neg (fun e => absurd e.2 (by decide)), u2_eq, if_neg (fun e => absurd e.1 (by decide))]
      have es : (u2 (u2 (u2 S 16 0 (S (30 + 3 * r.toNat) 2)) 16 2 ((S (30 + 3 * r.toNat) 3) - (S (30 + 3 * r.toNat) 0))) 16 3 0) 16 0 = S (30 + 3 * r.toNat) 2 := by rw [u2_eq, if_neg (fun e => absurd e.2 (by decide)), u2_eq, if_neg (fun e => absurd e.2 (by decide)), u2_eq, if_pos ⟨rfl, rfl⟩]
      have ec : (u2 (u2 (u2 S 16 0 (S (30 + 3 * r.toNat) 2)) 16 2 ((S (30 + 3 * r.toNat) 3) - (S (30 + 3 * r.toNat) 0))) 16 3 0) 16 2 = (S (30 + 3 * r.toNat) 3) - (S (30 + 3 * r.toNat) 0) := by rw [u2_eq, if_neg (fun e => absurd e.2 (by decide)), u2_eq, if_pos ⟨rfl, rfl⟩]
      have em : (u2 (u2 (u2 S 16 0 (S (30 + 3 * r.toNat) 2)) 16 2 ((S (30 + 3 * r.toNat) 3) - (S (30 + 3 * r.toNat) 0))) 16 3 0) 16 3 = 0 := by rw [u2_eq, if_pos ⟨rfl, rfl⟩]
      have ef : (u2 (u2 (u2 S 16 0 (S (30 + 3 * r.toNat) 2)) 16 2 ((S (30 + 3 * r.toNat) 3) - (S (30 + 3 * r.toNat) 0))) 16 3 0) 9 3 = S 9 3 := by rw [u2_eq, if_neg (fun e => absurd e.1 (by decide)), u2_eq, if_neg (fun e => absurd e.2 (by decide)), u2_eq, if_neg (fun e => absurd e.2 (by decide))]
      rw [hd0] at el
      rw [hd1] at eg
      rw [hd2] at ed
      rw [hd3] at ep
      have ev : (uv V 17 (V ((30 + 3 * r.toNat) + 1))) 17 = V ((30 + 3 * r.toNat) + 1) := uv_s
      obtain ⟨w, hrun, S9, V9, hR, hP⟩ := x_settle (d := d + 1) (g := 9) (t := 10) (h := 16) (mode := mode) hR kq_9 kq_10 kq_16 (by rw [ep]; decide) (by rw [es]; omega) (by rw [em]; decide) (by omega) (by rw [ev]; exact hI.nz (by omega) (by omega)) (by rw [ev]; omega) (by rw [ec]; omega) (by rw [el, eg]; decide) (by rw [ed]; decide) (fun _ _ => Or.inl em)
      rw [ep, el, eg, ed, es, ec, em, ev, ef] at hrun hP
      have hD := nD.sP (nC.up (nC.up (nC.up nC.refl (by unfold cKeep; omega) (by omega)) (by unfold cKeep; omega) (by omega)) (by unfold cKeep; omega) (by omega)) hP
      have hW : nW V V9 := fun k k1 k2 => (hP.2.2.2.2.2 k (by omega)).trans ((nW.up nW.refl (by omega)) k k1 k2)
      refine i_130_58 hobj (Nat.le_of_ble_eq_true rfl) hrun ?_
      refine i_130_61 rfl ?_
      refine i_130_62 ?_
      refine i_130_81 (x := 7) l0 ?_
      refine i_130_82 (v := Value.ref 10) (hR.k0 kq_7) rfl ?_
      have hobj := hR.k2 kq_10
      have hok := rnd_ok (p := 53) (least := -1021) (greatest := 1024) (gradual := 1) (sg := S (30 + 3 * r.toNat) 2) (mode := mode) (more := 0) (e := S (30 + 3 * r.toNat) 3 - S (30 + 3 * r.toNat) 0) (f := S 9 3) (m := V (30 + 3 * r.toNat + 1)) (by decide) (by decide)
      have htd := rnd_td (sg := S (30 + 3 * r.toNat) 2) (mode := mode) (e := S (30 + 3 * r.toNat) 3 - S (30 + 3 * r.toNat) 0) (f := S 9 3) (m := V (30 + 3 * r.toNat + 1))
      obtain ⟨f1, f2, f3⟩ := rnd_f (p := 53) (least := -1021) (greatest := 1024) (gradual := 1) (free := 0) (sg := S (30 + 3 * r.toNat) 2) (mode := mode) (more := 0) (e := S (30 + 3 * r.toNat) 3 - S (30 + 3 * r.toNat) 0) (f := S 9 3) (f' := 0) (m := V (30 + 3 * r.toNat + 1))
      have hrun := x_bod (d := d + 8) (t := 10) hR kq_10 (by rw [hP.1]; have := hok.1; omega) (by rw [hP.2.1]; omega) (by rw [hP.1]; by_cases g3 : (rnd 53 (-1021) 1024 1 0 (S (30 + 3 * r.toNat) 2) mode 0 (V (30 + 3 * r.toNat + 1)) (S (30 + 3 * r.toNat) 3 - S (30 + 3 * r.toNat) 0) (S 9 3)).1 = 3; exact Or.inr (by rw [(hP.2.2.1 g3).1]; exact htd.resolve_left (fun e => e g3)); exact Or.inl g3) (fun e => by rw [hP.1] at e; rw [(hP.2.2.1 e).2]; have := hok.2.2 e; omega)
      have e9 : dbl (S9 10 1) (S9 10 2) (S9 10 3) (V9 (10 + 1)) = sTd (vS S) (vV V) r.toNat mode := by
        rw [sTd_v, if_neg (by omega), hP.1, hP.2.1]
        unfold tdR
        rw [← f1, ← f2, ← f3]
        by_cases g3 : (rnd 53 (-1021) 1024 1 0 (S (30 + 3 * r.toNat) 2) mode 0 (V (30 + 3 * r.toNat + 1)) (S (30 + 3 * r.toNat) 3 - S (30 + 3 * r.toNat) 0) (S 9 3)).1 = 3
        · rw [(hP.2.2.1 g3).1, (hP.2.2.1 g3).2]
        · exact dbl_s g3 (by have := hok.1; omega)
      rw [e9] at hrun
      refine i_130_85 hobj (Nat.le_of_ble_eq_true rfl) hrun ?_
      refine i_130_88 ?_
      exact ⟨rfl, _, _, hR, hD, hW⟩
  obtain ⟨o, w', h1, rfl, h2⟩ := (key (lv_args 0 [Value.ref 7, Value.int (Int32.ofInt r), Value.int (Int32.ofInt mode)]) rfl rfl rfl).run
  exact ⟨w', h1, h2⟩
end
