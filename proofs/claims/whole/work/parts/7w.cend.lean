/-! end, octet of the class -/
section
variable {w0 w : xW} {L Z : Nat} {S : Nat → Nat → Int} {V : Nat → Nat} {d h t r : Nat}
theorem x_end {n : Int} (hR : cX w0 L Z S V w) (hn : 0 ≤ n ∧ n ≤ S 7 11) (ht : S 7 11 ≤ 4096) : ∃ w', xRun (d + 0) 140 [Value.ref 7, Value.int (Int32.ofInt n)] w (.inl (some (.int (Int32.ofInt (S 7 11 - n))))) w' ∧ cX w0 L Z (u2 S 7 11 n) V w' := by
  have key : ∀ lv, xld lv 0 = some (Value.ref 7) → xld lv 1 = some (Value.int (Int32.ofInt n)) → xEv (d + 0) 140 0 lv [] w (fun o w' => o = .inl (some (.int (Int32.ofInt (S 7 11 - n)))) ∧ cX w0 L Z (u2 S 7 11 n) V w') := by
    intro lv l0 l1
    refine i_140_0 (x := Int32.ofInt n) l1 ?_
    refine i_140_1 (z_lt (a := n) ⟨by omega, by omega⟩ fun c0 => ?_) (z_ge (a := n) ⟨by omega, by omega⟩ fun c0 => ?_)
    · refine i_140_12 (by omega) (Nat.le_of_ble_eq_true rfl) ?_
      exfalso; omega
    · refine i_140_4 (x := Int32.ofInt n) l1 ?_
      refine i_140_5 (x := 7) l0 ?_
      refine i_140_6 (v := Value.int (Int32.ofInt (S 7 11))) (hR.k0 kq_7) rfl ?_
      refine i_140_9 (b_le (a := n) (b := S 7 11) ⟨by omega, by omega⟩ ⟨by omega, by omega⟩ fun c1 => ?_) (b_lt (a := S 7 11) (b := n) ⟨by omega, by omega⟩ ⟨by omega, by omega⟩ fun c1 => ?_)
      · refine i_140_20 (x := 7) l0 ?_
        refine i_140_21 (v := Value.int (Int32.ofInt (S 7 11))) (hR.k0 kq_7) rfl ?_
        refine i_140_24 (x := Int32.ofInt n) l1 ?_
        refine i_140_25 (c := Int32.ofInt ((S 7 11) - n)) (o_sub (S 7 11) n) ?_
        refine i_140_26 rfl ?_
        refine lgen1 (i := 2) (v := Value.int (Int32.ofInt ((S 7 11) - n))) (fun lv lg ls => ?_)
        replace l0 := lg 0 _ rfl rfl l0
        replace l1 := lg 1 _ rfl rfl l1
        have l2 := ls
        refine i_140_27 (x := 7) l0 ?_
        refine i_140_28 (x := Int32.ofInt n) l1 ?_
        refine i_140_29 (fs2 := f0 (u1 (S 7) 11 n)) (hR.k0 kq_7) (Nat.le_of_ble_eq_true rfl) rfl (h7k kq_7 (by decide)) ?_
        refine xgen (P := cX w0 L Z (u2 S 7 11 n) V) (hR.p0 kq_7) (fun w hR => ?_)
        refine i_140_32 (x := Int32.ofInt ((S 7 11) - n)) l2 ?_
        refine i_140_33 ?_
        exact ⟨rfl, hR⟩
      · refine i_140_12 (by omega) (Nat.le_of_ble_eq_true rfl) ?_
        exfalso; omega
  obtain ⟨o, w', h1, rfl, h2⟩ := (key (lv_args 0 [Value.ref 7, Value.int (Int32.ofInt n)]) rfl rfl).run
  exact ⟨w', h1, h2⟩
theorem x_octet {k : Int} (hR : cX w0 L Z S V w) (hk : -1 ≤ k ∧ k < S 113 3) (hl : S 113 3 ≤ 4112) : xRun (d + 0) 162 [Value.ref 7, Value.int (Int32.ofInt k)] w (.inl (some (.int (Int32.ofInt (if k = -1 then S 113 3 else S 114 k.toNat))))) w := by
  have key : ∀ lv, xld lv 0 = some (Value.ref 7) → xld lv 1 = some (Value.int (Int32.ofInt k)) → xEv (d + 0) 162 0 lv [] w (fun o w' => o = .inl (some (.int (Int32.ofInt (if k = -1 then S 113 3 else S 114 k.toNat)))) ∧ w' = w) := by
    intro lv l0 l1
    refine i_162_0 (x := Int32.ofInt k) l1 ?_
    refine i_162_1 ?_
    refine i_162_2 (b_lt (a := k) (b := (-1)) ⟨by omega, by omega⟩ ⟨by decide, by decide⟩ fun c0 => ?_) (b_le (a := (-1)) (b := k) ⟨by decide, by decide⟩ ⟨by omega, by omega⟩ fun c0 => ?_)
    · refine i_162_16 (by omega) (Nat.le_of_ble_eq_true rfl) ?_
      exfalso; omega
    · refine i_162_5 (x := Int32.ofInt k) l1 ?_
      refine i_162_6 (x := 7) l0 ?_
      refine i_162_7 (v := Value.ref 113) (hR.k0 kq_7) rfl ?_
      refine i_162_10 (v := Value.int (Int32.ofInt (S 113 3))) (hR.k11 kq_113) rfl ?_
      refine i_162_13 (b_lt (a := k) (b := S 113 3) ⟨by omega, by omega⟩ ⟨by omega, by omega⟩ fun c1 => ?_) (b_le (a := S 113 3) (b := k) ⟨by omega, by omega⟩ ⟨by omega, by omega⟩ fun c1 => ?_)
      · refine i_162_24 (x := Int32.ofInt k) l1 ?_
        refine i_162_25 ?_
        refine i_162_26 (b_ne (a := k) (b := (-1)) ⟨by omega, by omega⟩ ⟨by decide, by decide⟩ fun c2 => ?_) (b_eq (a := k) (b := (-1)) ⟨by omega, by omega⟩ ⟨by decide, by decide⟩ fun c2 => ?_)
        · refine i_162_39 (x := 7) l0 ?_
          refine i_162_40 (v := Value.ref 113) (hR.k0 kq_7) rfl ?_
          refine i_162_43 (v := Value.ref 114) (hR.k11 kq_113) rfl ?_
          refine i_162_46 (x := Int32.ofInt k) l1 ?_
          refine i_162_47 (v := Value.int (Int32.ofInt (S 114 (k).toNat))) (hR.bytes (a := 114) (n := 4112) (by omega)) (ix0 (T := k) (by omega) (by omega)) (ix1 (T := k) (by omega) (by omega) (by omega)) (ra (T := k) (by omega) (by omega) rfl) ?_
          refine i_162_48 ?_
          exact ⟨by rw [if_neg (by omega)], rfl⟩
        · refine i_162_29 (x := 7) l0 ?_
          refine i_162_30 (v := Value.ref 113) (hR.k0 kq_7) rfl ?_
          refine i_162_33 (v := Value.int (Int32.ofInt (S 113 3))) (hR.k11 kq_113) rfl ?_
          refine i_162_36 ?_
          refine i_162_48 ?_
          exact ⟨by rw [if_pos (by omega)], rfl⟩
      · refine i_162_16 (by omega) (Nat.le_of_ble_eq_true rfl) ?_
        exfalso; omega
  obtain ⟨o, w', h1, rfl, rfl⟩ := (key (lv_args 0 [Value.ref 7, Value.int (Int32.ofInt k)]) rfl rfl).run
  exact h1
end
