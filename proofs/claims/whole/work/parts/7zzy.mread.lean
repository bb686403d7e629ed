/-! reading of the reference: digit, says, scaled -/
def dgR (c : Int) (rx : Nat) : Int := if dv c < 0 ∨ (rx : Int) ≤ dv c then -1 else dv c
section
variable {d rx : Nat} {w0 w : xW} {S : Nat → Nat → Int} {V : Nat → Nat} {r mode sg sc : Int} {lv : xLv} {Q : Option Value ⊕ Nat → xW → Prop}
theorem s_dig {c : Int} (hc : -128 ≤ c ∧ c ≤ 127) (hrx : 2 ≤ rx ∧ rx ≤ 36) : xRun (d + 1) 260 [Value.int (Int32.ofInt c), Value.int (Int32.ofInt (rx : Int))] w (.inl (some (.int (Int32.ofInt (dgR c rx))))) w := by
  have key : xEv (d + 1) 260 0 (lv_args 0 [Value.int (Int32.ofInt c), Value.int (Int32.ofInt (rx : Int))]) [] w (fun o w' => o = .inl (some (.int (Int32.ofInt (dgR c rx)))) ∧ w' = w) := by
    refine i_260_0 (x := Int32.ofInt c) rfl ?_
    refine i_260_1 ?_
    refine i_260_3 (b_lt (a := c) (b := 48) ⟨by omega, by omega⟩ ⟨by decide, by decide⟩ fun c0 => ?_) (b_le (a := 48) (b := c) ⟨by decide, by decide⟩ ⟨by omega, by omega⟩ fun c0 => ?_)
    · refine i_260_19 (x := Int32.ofInt c) rfl ?_
      refine i_260_20 ?_
      refine i_260_22 (b_lt (a := c) (b := 97) ⟨by omega, by omega⟩ ⟨by decide, by decide⟩ fun c1 => ?_) (b_le (a := 97) (b := c) ⟨by decide, by decide⟩ ⟨by omega, by omega⟩ fun c1 => absurd c1 (by omega))
      refine i_260_41 (x := Int32.ofInt c) rfl ?_
      refine i_260_42 ?_
      refine i_260_44 (b_lt (a := c) (b := 65) ⟨by omega, by omega⟩ ⟨by decide, by decide⟩ fun c2 => ?_) (b_le (a := 65) (b := c) ⟨by decide, by decide⟩ ⟨by omega, by omega⟩ fun c2 => absurd c2 (by omega))
      refine i_260_63 ?_
      refine i_260_65 (lv2 := [(2, Value.int 99), (0, Value.int (Int32.ofInt c)), (1, Value.int (Int32.ofInt (rx : Int)))]) rfl ?_
      refine i_260_66 (x := 99) rfl ?_
      refine i_260_67 (x := Int32.ofInt (rx : Int)) rfl ?_
      refine i_260_68 (b_le (a := (rx : Int)) (b := 99) ⟨by omega, by omega⟩ ⟨by decide, by decide⟩ fun c3 => ?_) (b_lt (a := 99) (b := (rx : Int)) ⟨by decide, by decide⟩ ⟨by omega, by omega⟩ fun c3 => ?_)
      · refine i_260_75 ?_
        refine i_260_76 ?_
        have e : dgR c rx = (-1) := by
          unfold dgR
          first | (rw [show dv c = c - 48 from if_pos (by omega)]; first | (rw [if_pos (by omega)]; done) | (rw [if_neg (by omega)]; done)) | (rw [show dv c = c - 97 + 10 by unfold dv; rw [if_neg (by omega), if_pos (by omega)]]; first | (rw [if_pos (by omega)]; done) | (rw [if_neg (by omega)]; done)) | (rw [show dv c = c - 65 + 10 by unfold dv; rw [if_neg (by omega), if_neg (by omega), if_pos (by omega)]]; first | (rw [if_pos (by omega)]; done) | (rw [if_neg (by omega)]; done)) | (rw [show dv c = -1 by unfold dv; rw [if_neg (by omega), if_neg (by omega), if_neg (by omega)]]; rw [if_pos (by omega)])
        rw [e]
        exact ⟨rfl, rfl⟩
      · refine i_260_71 (x := 99) rfl ?_
        refine i_260_72 ?_
        refine i_260_76 ?_
        exfalso; omega
    · refine i_260_6 (x := Int32.ofInt c) rfl ?_
      refine i_260_7 ?_
      refine i_260_9 (b_lt (a := 57) (b := c) ⟨by decide, by decide⟩ ⟨by omega, by omega⟩ fun c4 => ?_) (b_le (a := c) (b := 57) ⟨by omega, by omega⟩ ⟨by decide, by decide⟩ fun c4 => ?_)
      · refine i_260_19 (x := Int32.ofInt c) rfl ?_
        refine i_260_20 ?_
        refine i_260_22 (b_lt (a := c) (b := 97) ⟨by omega, by omega⟩ ⟨by decide, by decide⟩ fun c5 => ?_) (b_le (a := 97) (b := c) ⟨by decide, by decide⟩ ⟨by omega, by omega⟩ fun c5 => ?_)
        · refine i_260_41 (x := Int32.ofInt c) rfl ?_
          refine i_260_42 ?_
          refine i_260_44 (b_lt (a := c) (b := 65) ⟨by omega, by omega⟩ ⟨by decide, by decide⟩ fun c6 => ?_) (b_le (a := 65) (b := c) ⟨by decide, by decide⟩ ⟨by omega, by omega⟩ fun c6 => ?_)
          · refine i_260_63 ?_
            refine i_260_65 (lv2 := [(2, Value.int 99), (0, Value.int (Int32.ofInt c)), (1, Value.int (Int32.ofInt (rx : Int)))]) rfl ?_
            refine i_260_66 (x := 99) rfl ?_
            refine i_260_67 (x := Int32.ofInt (rx : Int)) rfl ?_
            refine i_260_68 (b_le (a := (rx : Int)) (b := 99) ⟨by omega, by omega⟩ ⟨by decide, by decide⟩ fun c7 => ?_) (b_lt (a := 99) (b := (rx : Int)) ⟨by decide, by decide⟩ ⟨by omega, by omega⟩ fun c7 => ?_)
            · refine i_260_75 ?_
              refine i_260_76 ?_
              have e : dgR c rx = (-1) := by
                unfold dgR
                first | (rw [show dv c = c - 48 from if_pos (by omega)]; first | (rw [if_pos (by omega)]; done) | (rw [if_neg (by omega)]; done)) | (rw [show dv c = c - 97 + 10 by unfold dv; rw [if_neg (by omega), if_pos (by omega)]]; first | (rw [if_pos (by omega)]; done) | (rw [if_neg (by omega)]; done)) | (rw [show dv c = c - 65 + 10 by unfold dv; rw [if_neg (by omega), if_neg (by omega), if_pos (by omega)]]; first | (rw [if_pos (by omega)]; done) | (rw [if_neg (by omega)]; done)) | (rw [show dv c = -1 by unfold dv; rw [if_neg (by omega), if_neg (by omega), if_neg (by omega)]]; rw [if_pos (by omega)])
              rw [e]
              exact ⟨rfl, rfl⟩
            · refine i_260_71 (x := 99) rfl ?_
              refine i_260_72 ?_
              refine i_260_76 ?_
              exfalso; omega
          · refine i_260_47 (x := Int32.ofInt c) rfl ?_
            refine i_260_48 ?_
            refine i_260_50 (b_lt (a := 90) (b := c) ⟨by decide, by decide⟩ ⟨by omega, by omega⟩ fun c8 => ?_) (b_le (a := c) (b := 90) ⟨by omega, by omega⟩ ⟨by decide, by decide⟩ fun c8 => ?_)
            · refine i_260_63 ?_
              refine i_260_65 (lv2 := [(2, Value.int 99), (0, Value.int (Int32.ofInt c)), (1, Value.int (Int32.ofInt (rx : Int)))]) rfl ?_
              refine i_260_66 (x := 99) rfl ?_
              refine i_260_67 (x := Int32.ofInt (rx : Int)) rfl ?_
              refine i_260_68 (b_le (a := (rx : Int)) (b := 99) ⟨by omega, by omega⟩ ⟨by decide, by decide⟩ fun c9 => ?_) (b_lt (a := 99) (b := (rx : Int)) ⟨by decide, by decide⟩ ⟨by omega, by omega⟩ fun c9 => ?_)
              · refine i_260_75 ?_
                refine i_260_76 ?_
                have e : dgR c rx = (-1) := by
                  unfold dgR
                  first | (rw [show dv c = c - 48 from if_pos (by omega)]; first | (rw [if_pos (by omega)]; done) | (rw [if_neg (by omega)]; done)) | (rw [show dv c = c - 97 + 10 by unfold dv; rw [if_neg (by omega), if_pos (by omega)]]; first | (rw [if_pos (by omega)]; done) | (rw [if_neg (by omega)]; done)) | (rw [show dv c = c - 65 + 10 by unfold dv; rw [if_neg (by omega), if_neg (by omega), if_pos (by omega)]]; first | (rw [if_pos (by omega)]; done) | (rw [if_neg (by omega)]; done)) | (rw [show dv c = -1 by unfold dv; rw [if_neg (by omega), if_neg (by omega), if_neg (by omega)]]; rw [if_pos (by omega)])
                rw [e]
                exact ⟨rfl, rfl⟩
              · refine i_260_71 (x := 99) rfl ?_
                refine i_260_72 ?_
                refine i_260_76 ?_
                exfalso; omega
            · refine i_260_53 (x := Int32.ofInt c) rfl ?_
              refine i_260_54 ?_
              refine i_260_56 (c := Int32.ofInt (c - 65)) (o_sub c 65) ?_
              refine i_260_57 ?_
              refine i_260_59 (c := Int32.ofInt ((c - 65) + 10)) (o_add (c - 65) 10) ?_
              refine i_260_60 ?_
              refine i_260_65 (lv2 := [(2, Value.int (Int32.ofInt ((c - 65) + 10))), (0, Value.int (Int32.ofInt c)), (1, Value.int (Int32.ofInt (rx : Int)))]) rfl ?_
              refine i_260_66 (x := Int32.ofInt ((c - 65) + 10)) rfl ?_
              refine i_260_67 (x := Int32.ofInt (rx : Int)) rfl ?_
              refine i_260_68 (b_le (a := (rx : Int)) (b := (c - 65) + 10) ⟨by omega, by omega⟩ ⟨by omega, by omega⟩ fun c10 => ?_) (b_lt (a := (c - 65) + 10) (b := (rx : Int)) ⟨by omega, by omega⟩ ⟨by omega, by omega⟩ fun c10 => ?_)
              · refine i_260_75 ?_
                refine i_260_76 ?_
                have e : dgR c rx = (-1) := by
                  unfold dgR
                  first | (rw [show dv c = c - 48 from if_pos (by omega)]; first | (rw [if_pos (by omega)]; done) | (rw [if_neg (by omega)]; done)) | (rw [show dv c = c - 97 + 10 by unfold dv; rw [if_neg (by omega), if_pos (by omega)]]; first | (rw [if_pos (by omega)]; done) | (rw [if_neg (by omega)]; done)) | (rw [show dv c = c - 65 + 10 by unfold dv; rw [if_neg (by omega), if_neg (by omega), if_pos (by omega)]]; first | (rw [if_pos (by omega)]; done) | (rw [if_neg (by omega)]; done)) | (rw [show dv c = -1 by unfold dv; rw [if_neg (by omega), if_neg (by omega), if_neg (by omega)]]; rw [if_pos (by omega)])
                rw [e]
                exact ⟨rfl, rfl⟩
              · refine i_260_71 (x := Int32.ofInt ((c - 65) + 10)) rfl ?_
                refine i_260_72 ?_
                refine i_260_76 ?_
                have e : dgR c rx = (c - 65) + 10 := by
                  unfold dgR
                  first | (rw [show dv c = c - 48 from if_pos (by omega)]; first | (rw [if_pos (by omega)]; done) | (rw [if_neg (by omega)]; done)) | (rw [show dv c = c - 97 + 10 by unfold dv; rw [if_neg (by omega), if_pos (by omega)]]; first | (rw [if_pos (by omega)]; done) | (rw [if_neg (by omega)]; done)) | (rw [show dv c = c - 65 + 10 by unfold dv; rw [if_neg (by omega), if_neg (by omega), if_pos (by omega)]]; first | (rw [if_pos (by omega)]; done) | (rw [if_neg (by omega)]; done)) | (rw [show dv c = -1 by unfold dv; rw [if_neg (by omega), if_neg (by omega), if_neg (by omega)]]; rw [if_pos (by omega)])
                rw [e]
                exact ⟨rfl, rfl⟩
        · refine i_260_25 (x := Int32.ofInt c) rfl ?_
          refine i_260_26 ?_
          refine i_260_28 (b_lt (a := 122) (b := c) ⟨by decide, by decide⟩ ⟨by omega, by omega⟩ fun c11 => ?_) (b_le (a := c) (b := 122) ⟨by omega, by omega⟩ ⟨by decide, by decide⟩ fun c11 => ?_)
          · refine i_260_41 (x := Int32.ofInt c) rfl ?_
            refine i_260_42 ?_
            refine i_260_44 (b_lt (a := c) (b := 65) ⟨by omega, by omega⟩ ⟨by decide, by decide⟩ fun c12 => absurd c12 (by omega)) (b_le (a := 65) (b := c) ⟨by decide, by decide⟩ ⟨by omega, by omega⟩ fun c12 => ?_)
            refine i_260_47 (x := Int32.ofInt c) rfl ?_
            refine i_260_48 ?_
            refine i_260_50 (b_lt (a := 90) (b := c) ⟨by decide, by decide⟩ ⟨by omega, by omega⟩ fun c13 => ?_) (b_le (a := c) (b := 90) ⟨by omega, by omega⟩ ⟨by decide, by decide⟩ fun c13 => absurd c13 (by omega))
            refine i_260_63 ?_
            refine i_260_65 (lv2 := [(2, Value.int 99), (0, Value.int (Int32.ofInt c)), (1, Value.int (Int32.ofInt (rx : Int)))]) rfl ?_
            refine i_260_66 (x := 99) rfl ?_
            refine i_260_67 (x := Int32.ofInt (rx : Int)) rfl ?_
            refine i_260_68 (b_le (a := (rx : Int)) (b := 99) ⟨by omega, by omega⟩ ⟨by decide, by decide⟩ fun c14 => ?_) (b_lt (a := 99) (b := (rx : Int)) ⟨by decide, by decide⟩ ⟨by omega, by omega⟩ fun c14 => ?_)
            · refine i_260_75 ?_
              refine i_260_76 ?_
              have e : dgR c rx = (-1) := by
                unfold dgR
                first | (rw [show dv c = c - 48 from if_pos (by omega)]; first | (rw [if_pos (by omega)]; done) | (rw [if_neg (by omega)]; done)) | (rw [show dv c = c - 97 + 10 by unfold dv; rw [if_neg (by omega), if_pos (by omega)]]; first | (rw [if_pos (by omega)]; done) | (rw [if_neg (by omega)]; done)) | (rw [show dv c = c - 65 + 10 by unfold dv; rw [if_neg (by omega), if_neg (by omega), if_pos (by omega)]]; first | (rw [if_pos (by omega)]; done) | (rw [if_neg (by omega)]; done)) | (rw [show dv c = -1 by unfold dv; rw [if_neg (by omega), if_neg (by omega), if_neg (by omega)]]; rw [if_pos (by omega)])
              rw [e]
              exact ⟨rfl, rfl⟩
            · refine i_260_71 (x := 99) rfl ?_
              refine i_260_72 ?_
              refine i_260_76 ?_
              exfalso; omega
          · refine i_260_31 (x := Int32.ofInt c) rfl ?_
            refine i_260_32 ?_
            refine i_260_34 (c := Int32.ofInt (c - 97)) (o_sub c 97) ?_
            refine i_260_35 ?_
            refine i_260_37 (c := Int32.ofInt ((c - 97) + 10)) (o_add (c - 97) 10) ?_
            refine i_260_38 ?_
            refine i_260_65 (lv2 := [(2, Value.int (Int32.ofInt ((c - 97) + 10))), (0, Value.int (Int32.ofInt c)), (1, Value.int (Int32.ofInt (rx : Int)))]) rfl ?_
            refine i_260_66 (x := Int32.ofInt ((c - 97) + 10)) rfl ?_
            refine i_260_67 (x := Int32.ofInt (rx : Int)) rfl ?_
            refine i_260_68 (b_le (a := (rx : Int)) (b := (c - 97) + 10) ⟨by omega, by omega⟩ ⟨by omega, by omega⟩ fun c15 => ?_) (b_lt (a := (c - 97) + 10) (b := (rx : Int)) ⟨by omega, by omega⟩ ⟨by omega, by omega⟩ fun c15 => ?_)
            · refine i_260_75 ?_
              refine i_260_76 ?_
              have e : dgR c rx = (-1) := by
                unfold dgR
                first | (rw [show dv c = c - 48 from if_pos (by omega)]; first | (rw [if_pos (by omega)]; done) | (rw [if_neg (by omega)]; done)) | (rw [show dv c = c - 97 + 10 by unfold dv; rw [if_neg (by omega), if_pos (by omega)]]; first | (rw [if_pos (by omega)]; done) | (rw [if_neg (by omega)]; done)) | (rw [show dv c = c - 65 + 10 by unfold dv; rw [if_neg (by omega), if_neg (by omega), if_pos (by omega)]]; first | (rw [if_pos (by omega)]; done) | (rw [if_neg (by omega)]; done)) | (rw [show dv c = -1 by unfold dv; rw [if_neg (by omega), if_neg (by omega), if_neg (by omega)]]; rw [if_pos (by omega)])
              rw [e]
              exact ⟨rfl, rfl⟩
            · refine i_260_71 (x := Int32.ofInt ((c - 97) + 10)) rfl ?_
              refine i_260_72 ?_
              refine i_260_76 ?_
              have e : dgR c rx = (c - 97) + 10 := by
                unfold dgR
                first | (rw [show dv c = c - 48 from if_pos (by omega)]; first | (rw [if_pos (by omega)]; done) | (rw [if_neg (by omega)]; done)) | (rw [show dv c = c - 97 + 10 by unfold dv; rw [if_neg (by omega), if_pos (by omega)]]; first | (rw [if_pos (by omega)]; done) | (rw [if_neg (by omega)]; done)) | (rw [show dv c = c - 65 + 10 by unfold dv; rw [if_neg (by omega), if_neg (by omega), if_pos (by omega)]]; first | (rw [if_pos (by omega)]; done) | (rw [if_neg (by omega)]; done)) | (rw [show dv c = -1 by unfold dv; rw [if_neg (by omega), if_neg (by omega), if_neg (by omega)]]; rw [if_pos (by omega)])
              rw [e]
              exact ⟨rfl, rfl⟩
      · refine i_260_12 (x := Int32.ofInt c) rfl ?_
        refine i_260_13 ?_
        refine i_260_15 (c := Int32.ofInt (c - 48)) (o_sub c 48) ?_
        refine i_260_16 ?_
        refine i_260_65 (lv2 := [(2, Value.int (Int32.ofInt (c - 48))), (0, Value.int (Int32.ofInt c)), (1, Value.int (Int32.ofInt (rx : Int)))]) rfl ?_
        refine i_260_66 (x := Int32.ofInt (c - 48)) rfl ?_
        refine i_260_67 (x := Int32.ofInt (rx : Int)) rfl ?_
        refine i_260_68 (b_le (a := (rx : Int)) (b := c - 48) ⟨by omega, by omega⟩ ⟨by omega, by omega⟩ fun c16 => ?_) (b_lt (a := c - 48) (b := (rx : Int)) ⟨by omega, by omega⟩ ⟨by omega, by omega⟩ fun c16 => ?_)
        · refine i_260_75 ?_
          refine i_260_76 ?_
          have e : dgR c rx = (-1) := by
            unfold dgR
            first | (rw [show dv c = c - 48 from if_pos (by omega)]; first | (rw [if_pos (by omega)]; done) | (rw [if_neg (by omega)]; done)) | (rw [show dv c = c - 97 + 10 by unfold dv; rw [if_neg (by omega), if_pos (by omega)]]; first | (rw [if_pos (by omega)]; done) | (rw [if_neg (by omega)]; done)) | (rw [show dv c = c - 65 + 10 by unfold dv; rw [if_neg (by omega), if_neg (by omega), if_pos (by omega)]]; first | (rw [if_pos (by omega)]; done) | (rw [if_neg (by omega)]; done)) | (rw [show dv c = -1 by unfold dv; rw [if_neg (by omega), if_neg (by omega), if_neg (by omega)]]; rw [if_pos (by omega)])
          rw [e]
          exact ⟨rfl, rfl⟩
        · refine i_260_71 (x := Int32.ofInt (c - 48)) rfl ?_
          refine i_260_72 ?_
          refine i_260_76 ?_
          have e : dgR c rx = c - 48 := by
            unfold dgR
            first | (rw [show dv c = c - 48 from if_pos (by omega)]; first | (rw [if_pos (by omega)]; done) | (rw [if_neg (by omega)]; done)) | (rw [show dv c = c - 97 + 10 by unfold dv; rw [if_neg (by omega), if_pos (by omega)]]; first | (rw [if_pos (by omega)]; done) | (rw [if_neg (by omega)]; done)) | (rw [show dv c = c - 65 + 10 by unfold dv; rw [if_neg (by omega), if_neg (by omega), if_pos (by omega)]]; first | (rw [if_pos (by omega)]; done) | (rw [if_neg (by omega)]; done)) | (rw [show dv c = -1 by unfold dv; rw [if_neg (by omega), if_neg (by omega), if_neg (by omega)]]; rw [if_pos (by omega)])
          rw [e]
          exact ⟨rfl, rfl⟩
  obtain ⟨o, w', h1, rfl, h2⟩ := key.run
  subst h2; exact h1
theorem s_says {a n : Nat} {x y z : Int} (hR : mR w0 S V w) (hB : ∀ j, -128 ≤ S 158 j ∧ S 158 j ≤ 127) (hn : n ≤ 4096) (ha : a ≤ n) (hx : 0 ≤ x ∧ x ≤ 200) (hy : 0 ≤ y ∧ y ≤ 200) (hz : 0 ≤ z ∧ z ≤ 200) : xRun (d + 1) 259 [Value.ref 128, Value.int (Int32.ofInt (a : Int)), Value.int (Int32.ofInt (n : Int)), Value.int (Int32.ofInt x), Value.int (Int32.ofInt y), Value.int (Int32.ofInt z)] w (.inl (some (.int (Int32.ofInt (bb (wrd (S 158) a n x y z)))))) w := by
  have h0 : S 158 ((a : Int)).toNat = S 158 a := rfl
  have h1 : S 158 ((a : Int) + 1).toNat = S 158 (a + 1) := congrArg (S 158) (by omega)
  have h2 : S 158 ((a : Int) + 2).toNat = S 158 (a + 2) := congrArg (S 158) (by omega)
  have b0 := hB a
  have b1 := hB (a + 1)
  have b2 := hB (a + 2)
  have key : xEv (d + 1) 259 0 (lv_args 0 [Value.ref 128, Value.int (Int32.ofInt (a : Int)), Value.int (Int32.ofInt (n : Int)), Value.int (Int32.ofInt x), Value.int (Int32.ofInt y), Value.int (Int32.ofInt z)]) [] w (fun o w' => o = .inl (some (.int (Int32.ofInt (bb (wrd (S 158) a n x y z))))) ∧ w' = w) := by
    clear hB
    refine i_259_0 (x := Int32.ofInt (n : Int)) rfl ?_
    refine i_259_1 (x := Int32.ofInt (a : Int)) rfl ?_
    refine i_259_2 (c := Int32.ofInt ((n : Int) - (a : Int))) (o_sub (n : Int) (a : Int)) ?_
    refine i_259_3 ?_
    refine i_259_4 (b_ne (a := (n : Int) - (a : Int)) (b := 3) ⟨by omega, by omega⟩ ⟨by decide, by decide⟩ fun c0 => ?_) (b_eq (a := (n : Int) - (a : Int)) (b := 3) ⟨by omega, by omega⟩ ⟨by decide, by decide⟩ fun c0 => ?_)
    · refine i_259_47 ?_
      refine i_259_48 rfl ?_
      rw [show wrd (S 158) a n x y z = false from decide_eq_false (by omega)]
      exact ⟨rfl, rfl⟩
    · refine i_259_7 (x := 128) rfl ?_
      refine i_259_8 (v := Value.ref 158) hR.c128 rfl ?_
      refine i_259_11 (x := Int32.ofInt (a : Int)) rfl ?_
      refine i_259_12 (v := Value.int (Int32.ofInt (S 158 (((a : Int)).toNat)))) (hR.row a158) (ix0 (T := (a : Int)) (by omega) (by omega)) (ix1 (T := (a : Int)) (by omega) (by omega) (by omega)) (ra (T := (a : Int)) (by omega) (by omega) rfl) ?_
      refine i_259_13 (x := Int32.ofInt x) rfl ?_
      refine i_259_14 (b_ne (a := S 158 (((a : Int)).toNat)) (b := x) ⟨by omega, by omega⟩ ⟨by omega, by omega⟩ fun c1 => ?_) (b_eq (a := S 158 (((a : Int)).toNat)) (b := x) ⟨by omega, by omega⟩ ⟨by omega, by omega⟩ fun c1 => ?_)
      · refine i_259_47 ?_
        refine i_259_48 rfl ?_
        rw [show wrd (S 158) a n x y z = false from decide_eq_false (by omega)]
        exact ⟨rfl, rfl⟩
      · refine i_259_17 (x := 128) rfl ?_
        refine i_259_18 (v := Value.ref 158) hR.c128 rfl ?_
        refine i_259_21 (x := Int32.ofInt (a : Int)) rfl ?_
        refine i_259_22 ?_
        refine i_259_23 (c := Int32.ofInt ((a : Int) + 1)) (o_add (a : Int) 1) ?_
        refine i_259_24 (v := Value.int (Int32.ofInt (S 158 (((a : Int) + 1).toNat)))) (hR.row a158) (ix0 (T := (a : Int) + 1) (by omega) (by omega)) (ix1 (T := (a : Int) + 1) (by omega) (by omega) (by omega)) (ra (T := (a : Int) + 1) (by omega) (by omega) rfl) ?_
        refine i_259_25 (x := Int32.ofInt y) rfl ?_
        refine i_259_27 (b_ne (a := S 158 (((a : Int) + 1).toNat)) (b := y) ⟨by omega, by omega⟩ ⟨by omega, by omega⟩ fun c2 => ?_) (b_eq (a := S 158 (((a : Int) + 1).toNat)) (b := y) ⟨by omega, by omega⟩ ⟨by omega, by omega⟩ fun c2 => ?_)
        · refine i_259_47 ?_
          refine i_259_48 rfl ?_
          rw [show wrd (S 158) a n x y z = false from decide_eq_false (by omega)]
          exact ⟨rfl, rfl⟩
        · refine i_259_30 (x := 128) rfl ?_
          refine i_259_31 (v := Value.ref 158) hR.c128 rfl ?_
          refine i_259_34 (x := Int32.ofInt (a : Int)) rfl ?_
          refine i_259_35 ?_
          refine i_259_36 (c := Int32.ofInt ((a : Int) + 2)) (o_add (a : Int) 2) ?_
          refine i_259_37 (v := Value.int (Int32.ofInt (S 158 (((a : Int) + 2).toNat)))) (hR.row a158) (ix0 (T := (a : Int) + 2) (by omega) (by omega)) (ix1 (T := (a : Int) + 2) (by omega) (by omega) (by omega)) (ra (T := (a : Int) + 2) (by omega) (by omega) rfl) ?_
          refine i_259_38 (x := Int32.ofInt z) rfl ?_
          refine i_259_40 (b_ne (a := S 158 (((a : Int) + 2).toNat)) (b := z) ⟨by omega, by omega⟩ ⟨by omega, by omega⟩ fun c3 => ?_) (b_eq (a := S 158 (((a : Int) + 2).toNat)) (b := z) ⟨by omega, by omega⟩ ⟨by omega, by omega⟩ fun c3 => ?_)
          · refine i_259_47 ?_
            refine i_259_48 rfl ?_
            rw [show wrd (S 158) a n x y z = false from decide_eq_false (by omega)]
            exact ⟨rfl, rfl⟩
          · refine i_259_43 ?_
            refine i_259_44 ?_
            refine i_259_48 rfl ?_
            rw [show wrd (S 158) a n x y z = true from decide_eq_true (by omega)]
            exact ⟨rfl, rfl⟩
  obtain ⟨o, w', h1, rfl, h2⟩ := key.run
  subst h2; exact h1
set_option maxHeartbeats 8000000 in
theorem s_scl {v : Nat} (hR : mR w0 S V w) (hI : mI S V) (h129 : V 129 = v) (hv : xbl v ≤ 24576) (hr : 0 ≤ r ∧ r ≤ 15) (hrx : 2 ≤ rx ∧ rx ≤ 36) (hsc : -1004096 ≤ sc ∧ sc ≤ 1000000) (hsg : sg = 0 ∨ sg = 1) (hmo : 0 ≤ mode ∧ mode ≤ 4) : ∃ w', xRun (d + 7) 262 [Value.ref 128, Value.int (Int32.ofInt r), Value.int (Int32.ofInt (rx : Int)), Value.int (Int32.ofInt sc), Value.int (Int32.ofInt sg), Value.int (Int32.ofInt mode)] w (.inl (some (.int (Int32.ofInt (sScl (S 153 r.toNat) (S 128 17) (S 128 18) (S 128 20) sg mode rx v sc (S 128 19)).2.2.2.2.1)))) w' ∧ ∃ S' V', mR w0 S' V' w' ∧ oP S S' V V' r.toNat (sScl (S 153 r.toNat) (S 128 17) (S 128 18) (S 128 20) sg mode rx v sc (S 128 19)) := by
  obtain ⟨hp_r, -⟩ := hI.1 r.toNat (by omega)
  have hi_l := hI.2.1
  have hi_g := hI.2.2.1
  have hi_f := hI.2.2.2
  have hx1 : xbl 1 = 1 := xbl_one
  have hxb : 2 ≤ xbl rx ∧ xbl rx ≤ 6 := by
    refine ⟨?_, xbl_le (by omega)⟩
    have g := xbl_lt rx
    refine Nat.le_of_not_lt fun c => ?_
    have := Nat.pow_le_pow_right (show 0 < 2 by decide) (show xbl rx ≤ 1 by omega)
    omega
  obtain ⟨B, hB⟩ : ∃ B : Int, (xbl rx : Int) - 1 = B := ⟨_, rfl⟩
  have hsB : -6000000 ≤ sc * B ∧ sc * B ≤ 6000000 ∧ -6000000 ≤ (-sc) * B ∧ (-sc) * B ≤ 6000000 := by
    rcases (show B = 1 ∨ B = 2 ∨ B = 3 ∨ B = 4 ∨ B = 5 by omega) with h | h | h | h | h <;> rw [h] <;> omega
  have key : xEv (d + 7) 262 0 (lv_args 0 [Value.ref 128, Value.int (Int32.ofInt r), Value.int (Int32.ofInt (rx : Int)), Value.int (Int32.ofInt sc), Value.int (Int32.ofInt sg), Value.int (Int32.ofInt mode)]) [] w (fun o w' => o = .inl (some (.int (Int32.ofInt (sScl (S 153 r.toNat) (S 128 17) (S 128 18) (S 128 20) sg mode rx v sc (S 128 19)).2.2.2.2.1))) ∧ ∃ S' V', mR w0 S' V' w' ∧ oP S S' V V' r.toNat (sScl (S 153 r.toNat) (S 128 17) (S 128 18) (S 128 20) sg mode rx v sc (S 128 19))) := by
    refine i_262_0 ?_
    refine i_262_2 (x := Int32.ofInt (rx : Int)) rfl ?_
    have hrun := s_nlz (d := d + 6) (w := w) (n := (rx : Int)) (by omega) (by omega)
    rw [Int.toNat_natCast] at hrun
    refine i_262_3 (Nat.le_of_ble_eq_true rfl) hrun ?_
    refine i_262_6 (c := Int32.ofInt B) ((o_sub 31 (32 - (xbl rx : Int))).trans (by rw [show (31 : Int) - (32 - (xbl rx : Int)) = B by omega])) ?_
    refine i_262_7 (lv2 := [(6, Value.int (Int32.ofInt B)), (0, Value.ref 128), (1, Value.int (Int32.ofInt r)), (2, Value.int (Int32.ofInt (rx : Int))), (3, Value.int (Int32.ofInt sc)), (4, Value.int (Int32.ofInt sg)), (5, Value.int (Int32.ofInt mode))]) rfl ?_
    refine i_262_9 (x := Int32.ofInt sc) rfl ?_
    refine i_262_10 (x := Int32.ofInt B) rfl ?_
    refine i_262_12 (c := Int32.ofInt (sc * B)) (o_mul sc B) ?_
    refine i_262_13 ?_
    refine i_262_16 (b_le (a := sc * B) (b := 18000) ⟨by omega, by omega⟩ ⟨by decide, by decide⟩ fun c0 => ?_) (b_lt (a := 18000) (b := sc * B) ⟨by decide, by decide⟩ ⟨by omega, by omega⟩ fun c0 => ?_)
    · refine i_262_44 (x := Int32.ofInt sc) rfl ?_
      refine i_262_45 (c := Int32.ofInt (-sc)) (o_neg sc) ?_
      refine i_262_46 (x := Int32.ofInt B) rfl ?_
      refine i_262_48 (c := Int32.ofInt ((-sc) * B)) (o_mul (-sc) B) ?_
      refine i_262_49 ?_
      refine i_262_52 (b_le (a := (-sc) * B) (b := 50000) ⟨by omega, by omega⟩ ⟨by decide, by decide⟩ fun c1 => ?_) (b_lt (a := 50000) (b := (-sc) * B) ⟨by decide, by decide⟩ ⟨by omega, by omega⟩ fun c1 => ?_)
      · refine i_262_80 (x := Int32.ofInt sc) rfl ?_
        refine i_262_81 (z_ne (a := sc) ⟨by omega, by omega⟩ fun c2 => ?_) (z_eq (a := sc) ⟨by omega, by omega⟩ fun c2 => ?_)
        · refine i_262_100 (x := 128) rfl ?_
          refine i_262_101 (v := Value.ref 133) hR.c128 rfl ?_
          refine i_262_104 (x := Int32.ofInt (rx : Int)) rfl ?_
          refine i_262_105 (c := Int64.ofInt (rx : Int)) (q_i2l (a := (rx : Int)) ⟨by omega, by omega⟩) ?_
          obtain ⟨fs, hobj⟩ := hR.obj (h := 133) (iNw (h := 133) (by decide) (by decide) (by decide))
          obtain ⟨w, hrun, hR⟩ := r_setl (d := d + 4) (x := Int64.ofInt (rx : Int)) (v := rx) hR (iNw (h := 133) (by decide) (by decide) (by decide)) ((xul_o (by omega) (by omega)).trans rfl)
          refine i_262_106 hobj (Nat.le_of_ble_eq_true rfl) hrun ?_
          refine i_262_109 (x := 128) rfl ?_
          refine i_262_110 (x := 128) rfl ?_
          refine i_262_111 (v := Value.ref 133) hR.c128 rfl ?_
          refine i_262_114 (x := Int32.ofInt sc) rfl ?_
          have hrun := s_abs (d := d + 5) (w := w) (a := sc) (by omega)
          refine i_262_115 (Nat.le_of_ble_eq_true rfl) hrun ?_
          have hobj := hR.c128
          have hpb : xbl (rx ^ sc.natAbs) ≤ 100002 := by
            have g := xbl_npow rx sc.natAbs
            rw [show xbl rx = B.toNat + 1 by omega] at g
            rcases (show B = 1 ∨ B = 2 ∨ B = 3 ∨ B = 4 ∨ B = 5 by omega) with h | h | h | h | h
            · rw [show B.toNat = 1 by omega] at g; rw [h] at c0 c1; omega
            · rw [show B.toNat = 2 by omega] at g; rw [h] at c0 c1; omega
            · rw [show B.toNat = 3 by omega] at g; rw [h] at c0 c1; omega
            · rw [show B.toNat = 4 by omega] at g; rw [h] at c0 c1; omega
            · rw [show B.toNat = 5 by omega] at g; rw [h] at c0 c1; omega
          have hpr := xbl_prod v (rx ^ sc.natAbs)
          obtain ⟨w, u, hrun, hR⟩ := s_raise (d := d + 3) (h := 133) (x := rx) (n := (sc.natAbs : Int)) hR (iNw (h := 133) (by decide) (by decide) (by decide)) (by decide) (by decide) (uv_s) (by omega) (by omega) (by omega) (by rw [Int.toNat_natCast]; omega)
          rw [Int.toNat_natCast] at hR
          refine i_262_118 hobj (Nat.le_of_ble_eq_true rfl) hrun ?_
          refine i_262_121 (x := Int32.ofInt sc) rfl ?_
          refine i_262_122 (z_le (a := sc) ⟨by omega, by omega⟩ fun c3 => ?_) (z_gt (a := sc) ⟨by omega, by omega⟩ fun c3 => ?_)
          · refine i_262_167 (x := 128) rfl ?_
            refine i_262_168 (v := Value.ref 133) hR.c128 rfl ?_
            refine i_262_171 (x := 128) rfl ?_
            refine i_262_172 (v := Value.ref 129) hR.c128 rfl ?_
            obtain ⟨fs, hobj⟩ := hR.obj (h := 133) (iNw (h := 133) (by decide) (by decide) (by decide))
            obtain ⟨w, hrun, hR⟩ := r_setn (d := d + 4) (v := v) (c := 4700) hR (iNw (h := 133) (by decide) (by decide) (by decide)) (iNw (h := 129) (by decide) (by decide) (by decide)) ((uv_n (by omega)).trans ((uv_n (by omega)).trans ((uv_n (by omega)).trans (h129)))) rfl (by omega)
            refine i_262_175 hobj (Nat.le_of_ble_eq_true rfl) hrun ?_
            refine i_262_178 (x := 128) rfl ?_
            refine i_262_179 (x := Int32.ofInt r) rfl ?_
            refine i_262_180 (x := 128) rfl ?_
            refine i_262_181 (v := Value.ref 133) hR.c128 rfl ?_
            refine i_262_184 ?_
            refine i_262_185 (x := 128) rfl ?_
            refine i_262_186 (v := Value.ref 141) hR.c128 rfl ?_
            refine i_262_189 ?_
            refine i_262_190 (x := Int32.ofInt sg) rfl ?_
            refine i_262_192 (x := Int32.ofInt mode) rfl ?_
            have hobj := hR.c128
            obtain ⟨w, hrun, S2, V2, hR, hP⟩ := s_ratio (d := d + 1) (h := 133) (m := v) (dd := rx ^ sc.natAbs) (r := r) (e := 0) (f := 0) (sg := sg) (mode := mode) hR (nS.mI nS.refl (nV.up (nV.up (nV.up (nV.up nV.refl (by omega)) (by omega)) (by omega)) (by omega)) hI) (iNw (h := 133) (by decide) (by decide) (by decide)) (by omega) (uv_s) ((uv_n (by omega)).trans (uv_s)) (by exact Nat.ne_of_gt (Nat.pow_pos (by omega))) (by omega) (by omega) (by omega) (by omega) (by omega) (by omega) (by omega) (by omega)
            refine i_262_194 hobj (Nat.le_of_ble_eq_true rfl) hrun ?_
            refine i_262_197 ?_
            have eo : sScl (S 153 r.toNat) (S 128 17) (S 128 18) (S 128 20) sg mode rx v sc (S 128 19) = sRat S r.toNat v 0 (rx ^ sc.natAbs) 0 sg mode := by
              unfold sScl
              rw [hB, if_neg (by omega), if_neg (by omega), if_neg (by omega), if_neg (by omega)]; rfl
            rw [eo]
            exact ⟨rfl, _, _, hR, oP.near nS.refl (nV.up (nV.up (nV.up (nV.up nV.refl (by omega)) (by omega)) (by omega)) (by omega)) hP⟩
          · refine i_262_125 (x := 128) rfl ?_
            refine i_262_126 (v := Value.ref 133) hR.c128 rfl ?_
            refine i_262_129 (x := 128) rfl ?_
            refine i_262_130 (v := Value.ref 129) hR.c128 rfl ?_
            refine i_262_133 (x := 128) rfl ?_
            refine i_262_134 (v := Value.ref 141) hR.c128 rfl ?_
            obtain ⟨fs, hobj⟩ := hR.obj (h := 133) (iNw (h := 133) (by decide) (by decide) (by decide))
            obtain ⟨w, hrun, hR⟩ := r_prod (d := d + 4) (v2 := v) (v3 := rx ^ sc.natAbs) (c := 4700) hR (iNw (h := 133) (by decide) (by decide) (by decide)) (iNw (h := 129) (by decide) (by decide) (by decide)) (iNw (h := 141) (by decide) (by decide) (by decide)) (by omega) (by omega) ((uv_n (by omega)).trans ((uv_n (by omega)).trans ((uv_n (by omega)).trans (h129)))) (uv_s) rfl (by omega)
            refine i_262_137 hobj (Nat.le_of_ble_eq_true rfl) hrun ?_
            refine i_262_140 (x := 128) rfl ?_
            refine i_262_141 (v := Value.ref 129) hR.c128 rfl ?_
            refine i_262_144 (x := 128) rfl ?_
            refine i_262_145 (v := Value.ref 133) hR.c128 rfl ?_
            obtain ⟨fs, hobj⟩ := hR.obj (h := 129) (iNw (h := 129) (by decide) (by decide) (by decide))
            obtain ⟨w, hrun, hR⟩ := r_setn (d := d + 4) (v := v * (rx ^ sc.natAbs)) (c := 4700) hR (iNw (h := 129) (by decide) (by decide) (by decide)) (iNw (h := 133) (by decide) (by decide) (by decide)) (uv_s) rfl (by omega)
            refine i_262_148 hobj (Nat.le_of_ble_eq_true rfl) hrun ?_
            refine i_262_151 (x := 128) rfl ?_
            refine i_262_152 (x := Int32.ofInt r) rfl ?_
            refine i_262_153 (x := 128) rfl ?_
            refine i_262_154 (v := Value.ref 129) hR.c128 rfl ?_
            refine i_262_157 ?_
            refine i_262_158 ?_
            refine i_262_159 (x := Int32.ofInt sg) rfl ?_
            refine i_262_161 (x := Int32.ofInt mode) rfl ?_
            have hobj := hR.c128
            have hx : (uv (uv (uv (uv (uv V 133 rx) 151 u) 141 (rx ^ sc.natAbs)) 133 (v * (rx ^ sc.natAbs))) 129 (v * (rx ^ sc.natAbs))) 129 = v * (rx ^ sc.natAbs) := uv_s
            obtain ⟨w, S5, V5, hrun, hR, hP⟩ := s_round (d := d + 2) (h := 129) (r := r) (e := 0) (more := 0) (sg := sg) (mode := mode) hR (iNw (h := 129) (by decide) (by decide) (by decide)) (by omega) (by omega) (by omega) (by omega) (by omega) (by omega) (by omega) (hp_r.1) (hp_r.2) (⟨hi_l.1, Int.le_trans hi_l.2.1 hi_l.2.2⟩) (⟨Int.le_trans hi_l.1 hi_l.2.1, hi_l.2.2⟩) (hi_g) (Or.inl hi_f) (by rw [hx]; omega)
            rw [hx] at hrun hP
            rw [hi_f] at hrun hP
            refine i_262_163 hobj (Nat.le_of_ble_eq_true rfl) hrun ?_
            refine i_262_166 ?_
            have eo : sScl (S 153 r.toNat) (S 128 17) (S 128 18) (S 128 20) sg mode rx v sc (S 128 19) = oR (S 153 r.toNat) (S 128 17) (S 128 18) (S 128 20) sg mode 0 (v * (rx ^ sc.natAbs)) 0 (S 128 19) := by
              unfold sScl
              rw [hB, if_neg (by omega), if_neg (by omega), if_neg (by omega), if_pos (by omega)]
            rw [eo]
            exact ⟨rfl, _, _, hR, oP_round hP (by omega) nS.refl (nV.up (nV.up (nV.up (nV.up (nV.up nV.refl (by omega)) (by omega)) (by omega)) (by omega)) (by omega))⟩
        · refine i_262_84 (x := 128) rfl ?_
          refine i_262_85 (x := Int32.ofInt r) rfl ?_
          refine i_262_86 (x := 128) rfl ?_
          refine i_262_87 (v := Value.ref 129) hR.c128 rfl ?_
          refine i_262_90 ?_
          refine i_262_91 ?_
          refine i_262_92 (x := Int32.ofInt sg) rfl ?_
          refine i_262_94 (x := Int32.ofInt mode) rfl ?_
          have hobj := hR.c128
          have hx : V 129 = v := h129
          obtain ⟨w, S6, V6, hrun, hR, hP⟩ := s_round (d := d + 2) (h := 129) (r := r) (e := 0) (more := 0) (sg := sg) (mode := mode) hR (iNw (h := 129) (by decide) (by decide) (by decide)) (by omega) (by omega) (by omega) (by omega) (by omega) (by omega) (by omega) (hp_r.1) (hp_r.2) (⟨hi_l.1, Int.le_trans hi_l.2.1 hi_l.2.2⟩) (⟨Int.le_trans hi_l.1 hi_l.2.1, hi_l.2.2⟩) (hi_g) (Or.inl hi_f) (by rw [hx]; omega)
          rw [hx] at hrun hP
          rw [hi_f] at hrun hP
          refine i_262_96 hobj (Nat.le_of_ble_eq_true rfl) hrun ?_
          refine i_262_99 ?_
          have eo : sScl (S 153 r.toNat) (S 128 17) (S 128 18) (S 128 20) sg mode rx v sc (S 128 19) = oR (S 153 r.toNat) (S 128 17) (S 128 18) (S 128 20) sg mode 0 v 0 (S 128 19) := by
            unfold sScl
            rw [hB, if_neg (by omega), if_neg (by omega), if_pos (by omega)]
          rw [eo]
          exact ⟨rfl, _, _, hR, oP_round hP (by omega) nS.refl nV.refl⟩
      · refine i_262_55 (x := 128) rfl ?_
        refine i_262_56 (v := Value.ref 129) hR.c128 rfl ?_
        refine i_262_59 ?_
        obtain ⟨fs, hobj⟩ := hR.obj (h := 129) (iNw (h := 129) (by decide) (by decide) (by decide))
        obtain ⟨fs, hobj⟩ := hR.obj (h := 129) (iNw (h := 129) (by decide) (by decide) (by decide))
        obtain ⟨w, hrun, hR⟩ := r_setl (d := d + 4) (x := 1) (v := 1) hR (iNw (h := 129) (by decide) (by decide) (by decide)) rfl
        refine i_262_60 hobj (Nat.le_of_ble_eq_true rfl) hrun ?_
        refine i_262_63 (x := 128) rfl ?_
        refine i_262_64 (x := Int32.ofInt r) rfl ?_
        refine i_262_65 (x := 128) rfl ?_
        refine i_262_66 (v := Value.ref 129) hR.c128 rfl ?_
        refine i_262_69 ?_
        refine i_262_71 ?_
        refine i_262_72 (x := Int32.ofInt sg) rfl ?_
        refine i_262_74 (x := Int32.ofInt mode) rfl ?_
        have hobj := hR.c128
        have hx : (uv V 129 1) 129 = 1 := uv_s
        obtain ⟨w, S7, V7, hrun, hR, hP⟩ := s_round (d := d + 2) (h := 129) (r := r) (e := (-40000)) (more := 0) (sg := sg) (mode := mode) hR (iNw (h := 129) (by decide) (by decide) (by decide)) (by omega) (by omega) (by omega) (by omega) (by omega) (by omega) (by omega) (hp_r.1) (hp_r.2) (⟨hi_l.1, Int.le_trans hi_l.2.1 hi_l.2.2⟩) (⟨Int.le_trans hi_l.1 hi_l.2.1, hi_l.2.2⟩) (hi_g) (Or.inl hi_f) (by rw [hx]; omega)
        rw [hx] at hrun hP
        rw [hi_f] at hrun hP
        refine i_262_76 hobj (Nat.le_of_ble_eq_true rfl) hrun ?_
        refine i_262_79 ?_
        have eo : sScl (S 153 r.toNat) (S 128 17) (S 128 18) (S 128 20) sg mode rx v sc (S 128 19) = oR (S 153 r.toNat) (S 128 17) (S 128 18) (S 128 20) sg mode 0 1 (-40000) (S 128 19) := by
          unfold sScl
          rw [hB, if_neg (by omega), if_pos (by omega)]
        rw [eo]
        exact ⟨rfl, _, _, hR, oP_round hP (by omega) nS.refl (nV.up nV.refl (by omega))⟩
    · refine i_262_19 (x := 128) rfl ?_
      refine i_262_20 (v := Value.ref 129) hR.c128 rfl ?_
      refine i_262_23 ?_
      obtain ⟨fs, hobj⟩ := hR.obj (h := 129) (iNw (h := 129) (by decide) (by decide) (by decide))
      obtain ⟨fs, hobj⟩ := hR.obj (h := 129) (iNw (h := 129) (by decide) (by decide) (by decide))
      obtain ⟨w, hrun, hR⟩ := r_setl (d := d + 4) (x := 1) (v := 1) hR (iNw (h := 129) (by decide) (by decide) (by decide)) rfl
      refine i_262_24 hobj (Nat.le_of_ble_eq_true rfl) hrun ?_
      refine i_262_27 (x := 128) rfl ?_
      refine i_262_28 (x := Int32.ofInt r) rfl ?_
      refine i_262_29 (x := 128) rfl ?_
      refine i_262_30 (v := Value.ref 129) hR.c128 rfl ?_
      refine i_262_33 ?_
      refine i_262_35 ?_
      refine i_262_36 (x := Int32.ofInt sg) rfl ?_
      refine i_262_38 (x := Int32.ofInt mode) rfl ?_
      have hobj := hR.c128
      have hx : (uv V 129 1) 129 = 1 := uv_s
      obtain ⟨w, S8, V8, hrun, hR, hP⟩ := s_round (d := d + 2) (h := 129) (r := r) (e := 40000) (more := 0) (sg := sg) (mode := mode) hR (iNw (h := 129) (by decide) (by decide) (by decide)) (by omega) (by omega) (by omega) (by omega) (by omega) (by omega) (by omega) (hp_r.1) (hp_r.2) (⟨hi_l.1, Int.le_trans hi_l.2.1 hi_l.2.2⟩) (⟨Int.le_trans hi_l.1 hi_l.2.1, hi_l.2.2⟩) (hi_g) (Or.inl hi_f) (by rw [hx]; omega)
      rw [hx] at hrun hP
      rw [hi_f] at hrun hP
      refine i_262_40 hobj (Nat.le_of_ble_eq_true rfl) hrun ?_
      refine i_262_43 ?_
      have eo : sScl (S 153 r.toNat) (S 128 17) (S 128 18) (S 128 20) sg mode rx v sc (S 128 19) = oR (S 153 r.toNat) (S 128 17) (S 128 18) (S 128 20) sg mode 0 1 40000 (S 128 19) := by
        unfold sScl
        rw [hB, if_pos (by omega)]
      rw [eo]
      exact ⟨rfl, _, _, hR, oP_round hP (by omega) nS.refl (nV.up nV.refl (by omega))⟩
  obtain ⟨o, w', h1, rfl, h2⟩ := key.run
  exact ⟨w', h1, h2⟩
end
