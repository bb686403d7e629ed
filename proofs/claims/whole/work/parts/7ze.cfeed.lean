/-! the tape of the class: putOnTape, feed -/
def bty (t : Int) : Int := (t + 128) % 256 - 128
theorem o_i2b (t : Int) : (Int32.ofInt t).toInt8.toInt32 = Int32.ofInt (bty t) := by
  apply Int32.toInt.inj
  rw [Int8.toInt_toInt32, Int32.toInt_toInt8, Int32.toInt_ofInt, Int32.toInt_ofInt]
  unfold bty
  have h1 : (t.bmod Int32.size).bmod (2 ^ 8) = t.bmod (2 ^ 8) := by
    rw [Int.bmod_def (t.bmod Int32.size), Int.bmod_def t (2 ^ 8), Int.bmod_def t Int32.size]
    have e : (Int32.size : Int) = 4294967296 := rfl
    rw [e]
    split <;> split <;> split <;> omega
  rw [h1, Int.bmod_def, Int.bmod_def]
  have e : (Int32.size : Int) = 4294967296 := rfl
  rw [e]
  split <;> split <;> omega
theorem bty_b (t : Int) : -128 ≤ bty t ∧ bty t ≤ 127 := by unfold bty; omega
theorem bty_b2 (t : Int) : bty (bty t) = bty t := by unfold bty; omega
theorem n_byte (t : Int) : narrow .byte (.int (Int32.ofInt (bty t))) = .int (Int32.ofInt (bty t)) := by
  show Value.int (Int32.ofInt (bty t)).toInt8.toInt32 = _
  rw [o_i2b, bty_b2]
theorem o_ushr8 {v : Int} {z : Int32} {k : Nat} (hz : (z.toUInt32 &&& Int32.toUInt32 31).toNat = k) (hk : k ≤ 24) : ((Int32.ofInt v).toUInt32 >>> (z.toUInt32 &&& Int32.toUInt32 31)).toInt32 = Int32.ofInt (v % 4294967296 / 2 ^ k) := by
  have h1 : ((Int32.ofInt v).toUInt32 >>> (z.toUInt32 &&& Int32.toUInt32 31)).toNat = xun (Int32.ofInt v) / 2 ^ k := by
    rw [UInt32.toNat_shiftRight, hz, Nat.mod_eq_of_lt (by omega), Nat.shiftRight_eq_div_pow]
    rfl
  have h2 := xun_m v
  have h3 := xun_m (v % 4294967296 / 2 ^ k)
  apply xun_inj
  show ((Int32.ofInt v).toUInt32 >>> (z.toUInt32 &&& Int32.toUInt32 31)).toNat = _
  rw [h1]
  have h4 : ((xun (Int32.ofInt v) / 2 ^ k : Nat) : Int) = v % 4294967296 / 2 ^ k := by rw [← h2]; norm_cast
  have h5 : 0 ≤ v % 4294967296 / 2 ^ k := by rw [← h4]; omega
  have h6 : v % 4294967296 / 2 ^ k < 4294967296 := by
    rw [← h4]
    have := Nat.div_le_self (xun (Int32.ofInt v)) (2 ^ k)
    omega
  omega
theorem bty_sh {v : Int} {k : Nat} (hk : k = 0 ∨ k = 8 ∨ k = 16 ∨ k = 24) : bty (v % 4294967296 / 2 ^ k) = bty (v / 2 ^ k) := by
  unfold bty
  rcases hk with rfl | rfl | rfl | rfl <;> omega
/-- four bytes put on the tape -/
def put4 (S : Nat → Nat → Int) (v : Int) (a j : Nat) : Int := if a = 29 ∧ (S 7 11).toNat ≤ j ∧ j < (S 7 11).toNat + 4 then bty (v / 2 ^ (24 - 8 * (j - (S 7 11).toNat))) else if a = 7 ∧ j = 11 then S 7 11 + 4 else S a j
theorem put4_eq {S : Nat → Nat → Int} {v : Int} (h : 0 ≤ S 7 11) : (u2 (u2 (u2 (u2 (u2 (u2 (u2 (u2 S 29 ((S 7 11).toNat) (bty (v / 2 ^ 24))) 7 11 ((S 7 11) + 1)) 29 (((S 7 11) + 1).toNat) (bty (v / 2 ^ 16))) 7 11 (((S 7 11) + 1) + 1)) 29 ((((S 7 11) + 1) + 1).toNat) (bty (v / 2 ^ 8))) 7 11 ((((S 7 11) + 1) + 1) + 1)) 29 (((((S 7 11) + 1) + 1) + 1).toNat) (bty (v / 2 ^ 0))) 7 11 (((((S 7 11) + 1) + 1) + 1) + 1)) = put4 S v := by
  funext a j
  unfold put4
  simp only [u2_eq]
  by_cases g1 : a = 29
  · subst g1
    by_cases g2 : (S 7 11).toNat ≤ j ∧ j < (S 7 11).toNat + 4
    · rw [if_pos (show (29 : Nat) = 29 ∧ (S 7 11).toNat ≤ j ∧ j < (S 7 11).toNat + 4 from ⟨rfl, g2⟩)]
      obtain ⟨k, hk⟩ : ∃ k, j = (S 7 11).toNat + k := ⟨j - (S 7 11).toNat, by omega⟩
      rw [if_neg (by omega)]
      rcases (show k = 0 ∨ k = 1 ∨ k = 2 ∨ k = 3 by omega) with g | g | g | g
      · subst g; subst hk
        rw [if_neg (by omega), if_neg (by omega), if_neg (by omega), if_neg (by omega), if_neg (by omega), if_neg (by omega), if_pos ⟨rfl, by omega⟩]
        simp
      · subst g; subst hk
        rw [if_neg (by omega), if_neg (by omega), if_neg (by omega), if_neg (by omega), if_pos ⟨rfl, by omega⟩]
        simp
      · subst g; subst hk
        rw [if_neg (by omega), if_neg (by omega), if_pos ⟨rfl, by omega⟩]
        simp
      · subst g; subst hk
        rw [if_pos ⟨rfl, by omega⟩]
        simp
    · rw [if_neg (by omega), if_neg (by omega), if_neg (by omega), if_neg (by omega), if_neg (by omega), if_neg (by omega), if_neg (by omega), if_neg (by omega), if_neg (fun e => g2 e.2), if_neg (by omega)]
  · by_cases g3 : a = 7 ∧ j = 11
    · rw [if_pos g3, if_neg (fun e => g1 e.1), if_pos g3]; omega
    · rw [if_neg g3, if_neg (fun e => g1 e.1), if_neg g3, if_neg (fun e => g1 e.1), if_neg g3, if_neg (fun e => g1 e.1), if_neg g3, if_neg (fun e => g1 e.1), if_neg (fun e => g1 e.1), if_neg g3]
section
variable {w0 w : xW} {L Z : Nat} {S : Nat → Nat → Int} {V : Nat → Nat} {d h t r : Nat}
theorem x_pot {v : Int} (hR : cX w0 L Z S V w) (hn : 0 ≤ S 7 11 ∧ S 7 11 + 4 ≤ 4096) : ∃ w', xRun (d + 0) 138 [Value.ref 7, Value.int (Int32.ofInt v)] w (.inl none) w' ∧ cX w0 L Z (put4 S v) V w' := by
  have key : ∀ lv, xld lv 0 = some (Value.ref 7) → xld lv 1 = some (Value.int (Int32.ofInt v)) → xEv (d + 0) 138 0 lv [] w (fun o w' => o = .inl none ∧ cX w0 L Z (put4 S v) V w') := by
    intro lv l0 l1
    refine i_138_0 ?_
    refine i_138_2 rfl ?_
    refine lgen1 (i := 2) (v := Value.int 24) (fun lv lg ls => ?_)
    replace l0 := lg 0 _ rfl rfl l0
    replace l1 := lg 1 _ rfl rfl l1
    have l2 := ls
    refine i_138_3 (x := 24) l2 ?_
    refine i_138_4 (fun c => absurd c (by decide)) (fun _ => ?_)
    refine i_138_7 (x := 7) l0 ?_
    refine i_138_8 (v := Value.int (Int32.ofInt (S 7 11))) (hR.k0 kq_7) rfl ?_
    refine i_138_11 ?_
    refine i_138_14 (b_le (a := 4096) (b := S 7 11) ⟨by decide, by decide⟩ ⟨by omega, by omega⟩ fun c0 => absurd c0 (by omega)) (b_lt (a := S 7 11) (b := 4096) ⟨by omega, by omega⟩ ⟨by decide, by decide⟩ fun c0 => ?_)
    refine i_138_17 (x := 7) l0 ?_
    refine i_138_18 (v := Value.ref 29) (hR.k0 kq_7) rfl ?_
    refine i_138_21 (x := 7) l0 ?_
    refine i_138_22 (v := Value.int (Int32.ofInt (S 7 11))) (hR.k0 kq_7) rfl ?_
    refine i_138_25 (x := Int32.ofInt v) l1 ?_
    refine i_138_26 (x := 24) l2 ?_
    refine i_138_27 (c := Int32.ofInt (v % 4294967296 / 2 ^ 24)) (o_ushr8 (by decide) (by decide)) ?_
    refine i_138_28 (c := Int32.ofInt (bty (v / 2 ^ 24))) ((o_i2b _).trans (by rw [bty_sh (by decide)])) ?_
    refine i_138_29 (v := Value.int (Int32.ofInt (bty (v / 2 ^ 24)))) (hR.bytes (a := 29) (n := 4096) (by omega)) (ix0 (T := S 7 11) (by omega) (by omega)) (ix1 (T := S 7 11) (by omega) (by omega) (by omega)) (by decide) (n_byte _) ?_
    rw [ixn (T := S 7 11) (by omega) (by omega)]
    refine xgen (P := cX w0 L Z (u2 S 29 ((S 7 11).toNat) (bty (v / 2 ^ 24))) V) (hR.byte (a := 29) (n := 4096) (by omega) rfl) (fun w hR => ?_)
    refine i_138_30 (x := 7) l0 ?_
    refine i_138_31 rfl ?_
    refine i_138_32 (v := Value.int (Int32.ofInt ((u2 S 29 ((S 7 11).toNat) (bty (v / 2 ^ 24))) 7 11))) (hR.k0 kq_7) rfl ?_
    rw [show Int32.ofInt ((u2 S 29 ((S 7 11).toNat) (bty (v / 2 ^ 24))) 7 11) = Int32.ofInt (S 7 11) by rw [u2_eq, if_neg (fun e => absurd e.1 (by decide))]]
    refine i_138_35 ?_
    refine i_138_36 (c := Int32.ofInt ((S 7 11) + 1)) (o_add (S 7 11) 1) ?_
    refine i_138_37 (fs2 := f0 (u1 ((u2 S 29 ((S 7 11).toNat) (bty (v / 2 ^ 24))) 7) 11 ((S 7 11) + 1))) (hR.k0 kq_7) (Nat.le_of_ble_eq_true rfl) rfl (h7k kq_7 (by decide)) ?_
    refine xgen (P := cX w0 L Z (u2 (u2 S 29 ((S 7 11).toNat) (bty (v / 2 ^ 24))) 7 11 ((S 7 11) + 1)) V) (hR.p0 kq_7) (fun w hR => ?_)
    refine i_138_40 (x := 24) (c := 16) l2 (rfl) rfl ?_
    refine lgen1 (i := 2) (v := Value.int 16) (fun lv lg ls => ?_)
    replace l0 := lg 0 _ rfl rfl l0
    replace l1 := lg 1 _ rfl rfl l1
    have l2 := ls
    refine i_138_43 ?_
    refine i_138_3 (x := 16) l2 ?_
    refine i_138_4 (fun c => absurd c (by decide)) (fun _ => ?_)
    refine i_138_7 (x := 7) l0 ?_
    refine i_138_8 (v := Value.int (Int32.ofInt ((u2 (u2 S 29 ((S 7 11).toNat) (bty (v / 2 ^ 24))) 7 11 ((S 7 11) + 1)) 7 11))) (hR.k0 kq_7) rfl ?_
    rw [show Int32.ofInt ((u2 (u2 S 29 ((S 7 11).toNat) (bty (v / 2 ^ 24))) 7 11 ((S 7 11) + 1)) 7 11) = Int32.ofInt ((S 7 11) + 1) by rw [u2_eq, if_pos ⟨rfl, rfl⟩]]
    refine i_138_11 ?_
    refine i_138_14 (b_le (a := 4096) (b := (S 7 11) + 1) ⟨by decide, by decide⟩ ⟨by omega, by omega⟩ fun c1 => absurd c1 (by omega)) (b_lt (a := (S 7 11) + 1) (b := 4096) ⟨by omega, by omega⟩ ⟨by decide, by decide⟩ fun c1 => ?_)
    refine i_138_17 (x := 7) l0 ?_
    refine i_138_18 (v := Value.ref 29) (hR.k0 kq_7) rfl ?_
    refine i_138_21 (x := 7) l0 ?_
    refine i_138_22 (v := Value.int (Int32.ofInt ((u2 (u2 S 29 ((S 7 11).toNat) (bty (v / 2 ^ 24))) 7 11 ((S 7 11) + 1)) 7 11))) (hR.k0 kq_7) rfl ?_
    rw [show Int32.ofInt ((u2 (u2 S 29 ((S 7 11).toNat) (bty (v / 2 ^ 24))) 7 11 ((S 7 11) + 1)) 7 11) = Int32.ofInt ((S 7 11) + 1) by rw [u2_eq, if_pos ⟨rfl, rfl⟩]]
    refine i_138_25 (x := Int32.ofInt v) l1 ?_
    refine i_138_26 (x := 16) l2 ?_
    refine i_138_27 (c := Int32.ofInt (v % 4294967296 / 2 ^ 16)) (o_ushr8 (by decide) (by decide)) ?_
    refine i_138_28 (c := Int32.ofInt (bty (v / 2 ^ 16))) ((o_i2b _).trans (by rw [bty_sh (by decide)])) ?_
    refine i_138_29 (v := Value.int (Int32.ofInt (bty (v / 2 ^ 16)))) (hR.bytes (a := 29) (n := 4096) (by omega)) (ix0 (T := (S 7 11) + 1) (by omega) (by omega)) (ix1 (T := (S 7 11) + 1) (by omega) (by omega) (by omega)) (by decide) (n_byte _) ?_
    rw [ixn (T := (S 7 11) + 1) (by omega) (by omega)]
    refine xgen (P := cX w0 L Z (u2 (u2 (u2 S 29 ((S 7 11).toNat) (bty (v / 2 ^ 24))) 7 11 ((S 7 11) + 1)) 29 (((S 7 11) + 1).toNat) (bty (v / 2 ^ 16))) V) (hR.byte (a := 29) (n := 4096) (by omega) rfl) (fun w hR => ?_)
    refine i_138_30 (x := 7) l0 ?_
    refine i_138_31 rfl ?_
    refine i_138_32 (v := Value.int (Int32.ofInt ((u2 (u2 (u2 S 29 ((S 7 11).toNat) (bty (v / 2 ^ 24))) 7 11 ((S 7 11) + 1)) 29 (((S 7 11) + 1).toNat) (bty (v / 2 ^ 16))) 7 11))) (hR.k0 kq_7) rfl ?_
    rw [show Int32.ofInt ((u2 (u2 (u2 S 29 ((S 7 11).toNat) (bty (v / 2 ^ 24))) 7 11 ((S 7 11) + 1)) 29 (((S 7 11) + 1).toNat) (bty (v / 2 ^ 16))) 7 11) = Int32.ofInt ((S 7 11) + 1) by rw [u2_eq, if_neg (fun e => absurd e.1 (by decide)), u2_eq, if_pos ⟨rfl, rfl⟩]]
    refine i_138_35 ?_
    refine i_138_36 (c := Int32.ofInt (((S 7 11) + 1) + 1)) (o_add ((S 7 11) + 1) 1) ?_
    refine i_138_37 (fs2 := f0 (u1 ((u2 (u2 (u2 S 29 ((S 7 11).toNat) (bty (v / 2 ^ 24))) 7 11 ((S 7 11) + 1)) 29 (((S 7 11) + 1).toNat) (bty (v / 2 ^ 16))) 7) 11 (((S 7 11) + 1) + 1))) (hR.k0 kq_7) (Nat.le_of_ble_eq_true rfl) rfl (h7k kq_7 (by decide)) ?_
    refine xgen (P := cX w0 L Z (u2 (u2 (u2 (u2 S 29 ((S 7 11).toNat) (bty (v / 2 ^ 24))) 7 11 ((S 7 11) + 1)) 29 (((S 7 11) + 1).toNat) (bty (v / 2 ^ 16))) 7 11 (((S 7 11) + 1) + 1)) V) (hR.p0 kq_7) (fun w hR => ?_)
    refine i_138_40 (x := 16) (c := 8) l2 (rfl) rfl ?_
    refine lgen1 (i := 2) (v := Value.int 8) (fun lv lg ls => ?_)
    replace l0 := lg 0 _ rfl rfl l0
    replace l1 := lg 1 _ rfl rfl l1
    have l2 := ls
    refine i_138_43 ?_
    refine i_138_3 (x := 8) l2 ?_
    refine i_138_4 (fun c => absurd c (by decide)) (fun _ => ?_)
    refine i_138_7 (x := 7) l0 ?_
    refine i_138_8 (v := Value.int (Int32.ofInt ((u2 (u2 (u2 (u2 S 29 ((S 7 11).toNat) (bty (v / 2 ^ 24))) 7 11 ((S 7 11) + 1)) 29 (((S 7 11) + 1).toNat) (bty (v / 2 ^ 16))) 7 11 (((S 7 11) + 1) + 1)) 7 11))) (hR.k0 kq_7) rfl ?_
    rw [show Int32.ofInt ((u2 (u2 (u2 (u2 S 29 ((S 7 11).toNat) (bty (v / 2 ^ 24))) 7 11 ((S 7 11) + 1)) 29 (((S 7 11) + 1).toNat) (bty (v / 2 ^ 16))) 7 11 (((S 7 11) + 1) + 1)) 7 11) = Int32.ofInt (((S 7 11) + 1) + 1) by rw [u2_eq, if_pos ⟨rfl, rfl⟩]]
    refine i_138_11 ?_
    refine i_138_14 (b_le (a := 4096) (b := ((S 7 11) + 1) + 1) ⟨by decide, by decide⟩ ⟨by omega, by omega⟩ fun c2 => absurd c2 (by omega)) (b_lt (a := ((S 7 11) + 1) + 1) (b := 4096) ⟨by omega, by omega⟩ ⟨by decide, by decide⟩ fun c2 => ?_)
    refine i_138_17 (x := 7) l0 ?_
    refine i_138_18 (v := Value.ref 29) (hR.k0 kq_7) rfl ?_
    refine i_138_21 (x := 7) l0 ?_
    refine i_138_22 (v := Value.int (Int32.ofInt ((u2 (u2 (u2 (u2 S 29 ((S 7 11).toNat) (bty (v / 2 ^ 24))) 7 11 ((S 7 11) + 1)) 29 (((S 7 11) + 1).toNat) (bty (v / 2 ^ 16))) 7 11 (((S 7 11) + 1) + 1)) 7 11))) (hR.k0 kq_7) rfl ?_
    rw [show Int32.ofInt ((u2 (u2 (u2 (u2 S 29 ((S 7 11).toNat) (bty (v / 2 ^ 24))) 7 11 ((S 7 11) + 1)) 29 (((S 7 11) + 1).toNat) (bty (v / 2 ^ 16))) 7 11 (((S 7 11) + 1) + 1)) 7 11) = Int32.ofInt (((S 7 11) + 1) + 1) by rw [u2_eq, if_pos ⟨rfl, rfl⟩]]
    refine i_138_25 (x := Int32.ofInt v) l1 ?_
    refine i_138_26 (x := 8) l2 ?_
    refine i_138_27 (c := Int32.ofInt (v % 4294967296 / 2 ^ 8)) (o_ushr8 (by decide) (by decide)) ?_
    refine i_138_28 (c := Int32.ofInt (bty (v / 2 ^ 8))) ((o_i2b _).trans (by rw [bty_sh (by decide)])) ?_
    refine i_138_29 (v := Value.int (Int32.ofInt (bty (v / 2 ^ 8)))) (hR.bytes (a := 29) (n := 4096) (by omega)) (ix0 (T := ((S 7 11) + 1) + 1) (by omega) (by omega)) (ix1 (T := ((S 7 11) + 1) + 1) (by omega) (by omega) (by omega)) (by decide) (n_byte _) ?_
    rw [ixn (T := ((S 7 11) + 1) + 1) (by omega) (by omega)]
    refine xgen (P := cX w0 L Z (u2 (u2 (u2 (u2 (u2 S 29 ((S 7 11).toNat) (bty (v / 2 ^ 24))) 7 11 ((S 7 11) + 1)) 29 (((S 7 11) + 1).toNat) (bty (v / 2 ^ 16))) 7 11 (((S 7 11) + 1) + 1)) 29 ((((S 7 11) + 1) + 1).toNat) (bty (v / 2 ^ 8))) V) (hR.byte (a := 29) (n := 4096) (by omega) rfl) (fun w hR => ?_)
    refine i_138_30 (x := 7) l0 ?_
    refine i_138_31 rfl ?_
    refine i_138_32 (v := Value.int (Int32.ofInt ((u2 (u2 (u2 (u2 (u2 S 29 ((S 7 11).toNat) (bty (v / 2 ^ 24))) 7 11 ((S 7 11) + 1)) 29 (((S 7 11) + 1).toNat) (bty (v / 2 ^ 16))) 7 11 (((S 7 11) + 1) + 1)) 29 ((((S 7 11) + 1) + 1).toNat) (bty (v / 2 ^ 8))) 7 11))) (hR.k0 kq_7) rfl ?_
    rw [show Int32.ofInt ((u2 (u2 (u2 (u2 (u2 S 29 ((S 7 11).toNat) (bty (v / 2 ^ 24))) 7 11 ((S 7 11) + 1)) 29 (((S 7 11) + 1).toNat) (bty (v / 2 ^ 16))) 7 11 (((S 7 11) + 1) + 1)) 29 ((((S 7 11) + 1) + 1).toNat) (bty (v / 2 ^ 8))) 7 11) = Int32.ofInt (((S 7 11) + 1) + 1) by rw [u2_eq, if_neg (fun e => absurd e.1 (by decide)), u2_eq, if_pos ⟨rfl, rfl⟩]]
    refine i_138_35 ?_
    refine i_138_36 (c := Int32.ofInt ((((S 7 11) + 1) + 1) + 1)) (o_add (((S 7 11) + 1) + 1) 1) ?_
    refine i_138_37 (fs2 := f0 (u1 ((u2 (u2 (u2 (u2 (u2 S 29 ((S 7 11).toNat) (bty (v / 2 ^ 24))) 7 11 ((S 7 11) + 1)) 29 (((S 7 11) + 1).toNat) (bty (v / 2 ^ 16))) 7 11 (((S 7 11) + 1) + 1)) 29 ((((S 7 11) + 1) + 1).toNat) (bty (v / 2 ^ 8))) 7) 11 ((((S 7 11) + 1) + 1) + 1))) (hR.k0 kq_7) (Nat.le_of_ble_eq_true rfl) rfl (h7k kq_7 (by decide)) ?_
    refine xgen (P := cX w0 L Z (u2 (u2 (u2 (u2 (u2 (u2 S 29 ((S 7 11).toNat) (bty (v / 2 ^ 24))) 7 11 ((S 7 11) + 1)) 29 (((S 7 11) + 1).toNat) (bty (v / 2 ^ 16))) 7 11 (((S 7 11) + 1) + 1)) 29 ((((S 7 11) + 1) + 1).toNat) (bty (v / 2 ^ 8))) 7 11 ((((S 7 11) + 1) + 1) + 1)) V) (hR.p0 kq_7) (fun w hR => ?_)
    refine i_138_40 (x := 8) (c := 0) l2 (rfl) rfl ?_
    refine lgen1 (i := 2) (v := Value.int 0) (fun lv lg ls => ?_)
    replace l0 := lg 0 _ rfl rfl l0
    replace l1 := lg 1 _ rfl rfl l1
    have l2 := ls
    refine i_138_43 ?_
    refine i_138_3 (x := 0) l2 ?_
    refine i_138_4 (fun c => absurd c (by decide)) (fun _ => ?_)
    refine i_138_7 (x := 7) l0 ?_
    refine i_138_8 (v := Value.int (Int32.ofInt ((u2 (u2 (u2 (u2 (u2 (u2 S 29 ((S 7 11).toNat) (bty (v / 2 ^ 24))) 7 11 ((S 7 11) + 1)) 29 (((S 7 11) + 1).toNat) (bty (v / 2 ^ 16))) 7 11 (((S 7 11) + 1) + 1)) 29 ((((S 7 11) + 1) + 1).toNat) (bty (v / 2 ^ 8))) 7 11 ((((S 7 11) + 1) + 1) + 1)) 7 11))) (hR.k0 kq_7) rfl ?_
    rw [show Int32.ofInt ((u2 (u2 (u2 (u2 (u2 (u2 S 29 ((S 7 11).toNat) (bty (v / 2 ^ 24))) 7 11 ((S 7 11) + 1)) 29 (((S 7 11) + 1).toNat) (bty (v / 2 ^ 16))) 7 11 (((S 7 11) + 1) + 1)) 29 ((((S 7 11) + 1) + 1).toNat) (bty (v / 2 ^ 8))) 7 11 ((((S 7 11) + 1) + 1) + 1)) 7 11) = Int32.ofInt ((((S 7 11) + 1) + 1) + 1) by rw [u2_eq, if_pos ⟨rfl, rfl⟩]]
    refine i_138_11 ?_
    refine i_138_14 (b_le (a := 4096) (b := (((S 7 11) + 1) + 1) + 1) ⟨by decide, by decide⟩ ⟨by omega, by omega⟩ fun c3 => absurd c3 (by omega)) (b_lt (a := (((S 7 11) + 1) + 1) + 1) (b := 4096) ⟨by omega, by omega⟩ ⟨by decide, by decide⟩ fun c3 => ?_)
    refine i_138_17 (x := 7) l0 ?_
    refine i_138_18 (v := Value.ref 29) (hR.k0 kq_7) rfl ?_
    refine i_138_21 (x := 7) l0 ?_
    refine i_138_22 (v := Value.int (Int32.ofInt ((u2 (u2 (u2 (u2 (u2 (u2 S 29 ((S 7 11).toNat) (bty (v / 2 ^ 24))) 7 11 ((S 7 11) + 1)) 29 (((S 7 11) + 1).toNat) (bty (v / 2 ^ 16))) 7 11 (((S 7 11) + 1) + 1)) 29 ((((S 7 11) + 1) + 1).toNat) (bty (v / 2 ^ 8))) 7 11 ((((S 7 11) + 1) + 1) + 1)) 7 11))) (hR.k0 kq_7) rfl ?_
    rw [show Int32.ofInt ((u2 (u2 (u2 (u2 (u2 (u2 S 29 ((S 7 11).toNat) (bty (v / 2 ^ 24))) 7 11 ((S 7 11) + 1)) 29 (((S 7 11) + 1).toNat) (bty (v / 2 ^ 16))) 7 11 (((S 7 11) + 1) + 1)) 29 ((((S 7 11) + 1) + 1).toNat) (bty (v / 2 ^ 8))) 7 11 ((((S 7 11) + 1) + 1) + 1)) 7 11) = Int32.ofInt ((((S 7 11) + 1) + 1) + 1) by rw [u2_eq, if_pos ⟨rfl, rfl⟩]]
    refine i_138_25 (x := Int32.ofInt v) l1 ?_
    refine i_138_26 (x := 0) l2 ?_
    refine i_138_27 (c := Int32.ofInt (v % 4294967296 / 2 ^ 0)) (o_ushr8 (by decide) (by decide)) ?_
    refine i_138_28 (c := Int32.ofInt (bty (v / 2 ^ 0))) ((o_i2b _).trans (by rw [bty_sh (by decide)])) ?_
    refine i_138_29 (v := Value.int (Int32.ofInt (bty (v / 2 ^ 0)))) (hR.bytes (a := 29) (n := 4096) (by omega)) (ix0 (T := (((S 7 11) + 1) + 1) + 1) (by omega) (by omega)) (ix1 (T := (((S 7 11) + 1) + 1) + 1) (by omega) (by omega) (by omega)) (by decide) (n_byte _) ?_
    rw [ixn (T := (((S 7 11) + 1) + 1) + 1) (by omega) (by omega)]
    refine xgen (P := cX w0 L Z (u2 (u2 (u2 (u2 (u2 (u2 (u2 S 29 ((S 7 11).toNat) (bty (v / 2 ^ 24))) 7 11 ((S 7 11) + 1)) 29 (((S 7 11) + 1).toNat) (bty (v / 2 ^ 16))) 7 11 (((S 7 11) + 1) + 1)) 29 ((((S 7 11) + 1) + 1).toNat) (bty (v / 2 ^ 8))) 7 11 ((((S 7 11) + 1) + 1) + 1)) 29 (((((S 7 11) + 1) + 1) + 1).toNat) (bty (v / 2 ^ 0))) V) (hR.byte (a := 29) (n := 4096) (by omega) rfl) (fun w hR => ?_)
    refine i_138_30 (x := 7) l0 ?_
    refine i_138_31 rfl ?_
    refine i_138_32 (v := Value.int (Int32.ofInt ((u2 (u2 (u2 (u2 (u2 (u2 (u2 S 29 ((S 7 11).toNat) (bty (v / 2 ^ 24))) 7 11 ((S 7 11) + 1)) 29 (((S 7 11) + 1).toNat) (bty (v / 2 ^ 16))) 7 11 (((S 7 11) + 1) + 1)) 29 ((((S 7 11) + 1) + 1).toNat) (bty (v / 2 ^ 8))) 7 11 ((((S 7 11) + 1) + 1) + 1)) 29 (((((S 7 11) + 1) + 1) + 1).toNat) (bty (v / 2 ^ 0))) 7 11))) (hR.k0 kq_7) rfl ?_
    rw [show Int32.ofInt ((u2 (u2 (u2 (u2 (u2 (u2 (u2 S 29 ((S 7 11).toNat) (bty (v / 2 ^ 24))) 7 11 ((S 7 11) + 1)) 29 (((S 7 11) + 1).toNat) (bty (v / 2 ^ 16))) 7 11 (((S 7 11) + 1) + 1)) 29 ((((S 7 11) + 1) + 1).toNat) (bty (v / 2 ^ 8))) 7 11 ((((S 7 11) + 1) + 1) + 1)) 29 (((((S 7 11) + 1) + 1) + 1).toNat) (bty (v / 2 ^ 0))) 7 11) = Int32.ofInt ((((S 7 11) + 1) + 1) + 1) by rw [u2_eq, if_neg (fun e => absurd e.1 (by decide)), u2_eq, if_pos ⟨rfl, rfl⟩]]
    refine i_138_35 ?_
    refine i_138_36 (c := Int32.ofInt (((((S 7 11) + 1) + 1) + 1) + 1)) (o_add ((((S 7 11) + 1) + 1) + 1) 1) ?_
    refine i_138_37 (fs2 := f0 (u1 ((u2 (u2 (u2 (u2 (u2 (u2 (u2 S 29 ((S 7 11).toNat) (bty (v / 2 ^ 24))) 7 11 ((S 7 11) + 1)) 29 (((S 7 11) + 1).toNat) (bty (v / 2 ^ 16))) 7 11 (((S 7 11) + 1) + 1)) 29 ((((S 7 11) + 1) + 1).toNat) (bty (v / 2 ^ 8))) 7 11 ((((S 7 11) + 1) + 1) + 1)) 29 (((((S 7 11) + 1) + 1) + 1).toNat) (bty (v / 2 ^ 0))) 7) 11 (((((S 7 11) + 1) + 1) + 1) + 1))) (hR.k0 kq_7) (Nat.le_of_ble_eq_true rfl) rfl (h7k kq_7 (by decide)) ?_
    refine xgen (P := cX w0 L Z (u2 (u2 (u2 (u2 (u2 (u2 (u2 (u2 S 29 ((S 7 11).toNat) (bty (v / 2 ^ 24))) 7 11 ((S 7 11) + 1)) 29 (((S 7 11) + 1).toNat) (bty (v / 2 ^ 16))) 7 11 (((S 7 11) + 1) + 1)) 29 ((((S 7 11) + 1) + 1).toNat) (bty (v / 2 ^ 8))) 7 11 ((((S 7 11) + 1) + 1) + 1)) 29 (((((S 7 11) + 1) + 1) + 1).toNat) (bty (v / 2 ^ 0))) 7 11 (((((S 7 11) + 1) + 1) + 1) + 1)) V) (hR.p0 kq_7) (fun w hR => ?_)
    refine i_138_40 (x := 0) (c := (-8)) l2 (rfl) rfl ?_
    refine lgen1 (i := 2) (v := Value.int (-8)) (fun lv lg ls => ?_)
    replace l0 := lg 0 _ rfl rfl l0
    replace l1 := lg 1 _ rfl rfl l1
    have l2 := ls
    refine i_138_43 ?_
    refine i_138_3 (x := (-8)) l2 ?_
    refine i_138_4 (fun _ => ?_) (fun c => absurd c (by decide))
    refine i_138_46 ?_
    rw [← put4_eq (v := v) hn.1]
    exact ⟨rfl, hR⟩
  obtain ⟨o, w', h1, rfl, h2⟩ := (key (lv_args 0 [Value.ref 7, Value.int (Int32.ofInt v)]) rfl rfl).run
  exact ⟨w', h1, h2⟩
theorem put4_n {v : Int} : put4 S v 7 11 = S 7 11 + 4 := by unfold put4; rw [if_neg (by omega), if_pos ⟨rfl, rfl⟩]
theorem x_feed {v1 v2 v3 v4 v5 : Int} (hR : cX w0 L Z S V w) (hn : 0 ≤ S 7 11 ∧ S 7 11 + 20 ≤ 4096) : ∃ w', xRun (d + 1) 137 [Value.ref 7, Value.int (Int32.ofInt v1), Value.int (Int32.ofInt v2), Value.int (Int32.ofInt v3), Value.int (Int32.ofInt v4), Value.int (Int32.ofInt v5)] w (.inl none) w' ∧ cX w0 L Z (put4 (put4 (put4 (put4 (put4 S v1) v2) v3) v4) v5) V w' := by
  have key : ∀ lv, xld lv 0 = some (Value.ref 7) → xld lv 1 = some (Value.int (Int32.ofInt v1)) → xld lv 2 = some (Value.int (Int32.ofInt v2)) → xld lv 3 = some (Value.int (Int32.ofInt v3)) → xld lv 4 = some (Value.int (Int32.ofInt v4)) → xld lv 5 = some (Value.int (Int32.ofInt v5)) → xEv (d + 1) 137 0 lv [] w (fun o w' => o = .inl none ∧ cX w0 L Z (put4 (put4 (put4 (put4 (put4 S v1) v2) v3) v4) v5) V w') := by
    intro lv l0 l1 l2 l3 l4 l5
    refine i_137_0 (x := 7) l0 ?_
    refine i_137_1 (v := Value.int (Int32.ofInt (S 7 11))) (hR.k0 kq_7) rfl ?_
    refine i_137_4 ?_
    refine i_137_6 (c := Int32.ofInt ((S 7 11) + 20)) (o_add (S 7 11) 20) ?_
    refine i_137_7 ?_
    refine i_137_10 (b_le (a := (S 7 11) + 20) (b := 4096) ⟨by omega, by omega⟩ ⟨by decide, by decide⟩ fun c0 => ?_) (b_lt (a := 4096) (b := (S 7 11) + 20) ⟨by decide, by decide⟩ ⟨by omega, by omega⟩ fun c0 => absurd c0 (by omega))
    refine i_137_21 (x := 7) l0 ?_
    refine i_137_22 (x := Int32.ofInt v1) l1 ?_
    have hobj := hR.k0 kq_7
    have hl0 : S 7 11 = S 7 11 + 0 := (Int.add_zero _).symm
    obtain ⟨w, hrun, hR⟩ := x_pot (d := d) (v := v1) hR (by rw [hl0]; omega)
    refine i_137_23 hobj (Nat.le_of_ble_eq_true rfl) hrun ?_
    refine i_137_26 (x := 7) l0 ?_
    refine i_137_27 (x := Int32.ofInt v2) l2 ?_
    have hobj := hR.k0 kq_7
    have hl1 : (put4 S v1) 7 11 = S 7 11 + 4 := by rw [put4_n, hl0] <;> omega
    obtain ⟨w, hrun, hR⟩ := x_pot (d := d) (v := v2) hR (by rw [hl1]; omega)
    refine i_137_28 hobj (Nat.le_of_ble_eq_true rfl) hrun ?_
    refine i_137_31 (x := 7) l0 ?_
    refine i_137_32 (x := Int32.ofInt v3) l3 ?_
    have hobj := hR.k0 kq_7
    have hl2 : (put4 (put4 S v1) v2) 7 11 = S 7 11 + 8 := by rw [put4_n, hl1] <;> omega
    obtain ⟨w, hrun, hR⟩ := x_pot (d := d) (v := v3) hR (by rw [hl2]; omega)
    refine i_137_33 hobj (Nat.le_of_ble_eq_true rfl) hrun ?_
    refine i_137_36 (x := 7) l0 ?_
    refine i_137_37 (x := Int32.ofInt v4) l4 ?_
    have hobj := hR.k0 kq_7
    have hl3 : (put4 (put4 (put4 S v1) v2) v3) 7 11 = S 7 11 + 12 := by rw [put4_n, hl2] <;> omega
    obtain ⟨w, hrun, hR⟩ := x_pot (d := d) (v := v4) hR (by rw [hl3]; omega)
    refine i_137_39 hobj (Nat.le_of_ble_eq_true rfl) hrun ?_
    refine i_137_42 (x := 7) l0 ?_
    refine i_137_43 (x := Int32.ofInt v5) l5 ?_
    have hobj := hR.k0 kq_7
    have hl4 : (put4 (put4 (put4 (put4 S v1) v2) v3) v4) 7 11 = S 7 11 + 16 := by rw [put4_n, hl3] <;> omega
    obtain ⟨w, hrun, hR⟩ := x_pot (d := d) (v := v5) hR (by rw [hl4]; omega)
    refine i_137_45 hobj (Nat.le_of_ble_eq_true rfl) hrun ?_
    refine i_137_48 ?_
    exact ⟨rfl, hR⟩
  obtain ⟨o, w', h1, rfl, h2⟩ := (key (lv_args 0 [Value.ref 7, Value.int (Int32.ofInt v1), Value.int (Int32.ofInt v2), Value.int (Int32.ofInt v3), Value.int (Int32.ofInt v4), Value.int (Int32.ofInt v5)]) rfl rfl rfl rfl rfl rfl).run
  exact ⟨w', h1, h2⟩
end
