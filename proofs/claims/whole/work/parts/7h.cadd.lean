/-! Addition of the class -/
def orI (x : Int) (p : Prop) [Decidable p] : Int := if x ≠ 0 ∨ p then 1 else 0
theorem orI_01 (x : Int) (p : Prop) [Decidable p] : orI x p = 0 ∨ orI x p = 1 := by
  unfold orI
  split
  · exact Or.inr rfl
  · exact Or.inl rfl
theorem ncmp_3 (a b : Nat) : (ncmp a b = -1 ∧ a < b) ∨ (ncmp a b = 0 ∧ a = b) ∨ (ncmp a b = 1 ∧ b < a) := by
  unfold ncmp
  by_cases h : a < b
  · rw [if_pos h]; exact Or.inl ⟨rfl, h⟩
  · rw [if_neg h]
    by_cases h2 : a = b
    · rw [if_pos h2]; exact Or.inr (Or.inl ⟨rfl, h2⟩)
    · rw [if_neg h2]; exact Or.inr (Or.inr ⟨rfl, by omega⟩)
theorem shf_ble (u : Nat) (k : Int) : (xbl (shf u k) : Int) ≤ (xbl u : Int) + max 0 k := by
  by_cases h : u = 0
  · subst h; rw [shf_0, xbl_zero]; omega
  · rw [shf_bl h]; omega
theorem shf_nn {u : Nat} {k : Int} (h : 0 ≤ k) : shf u k = u * 2 ^ k.toNat := if_pos h
section
variable {w0 w : xW} {L Z : Nat} {S : Nat → Nat → Int} {V : Nat → Nat} {d h t r : Nat} {lv : xLv} {Q : Option Value ⊕ Nat → xW → Prop}
theorem x_begin (hR : cX w0 L Z S V w)  : ∃ w', xRun (d + 0) 59 [Value.ref 19] w (.inl none) w' ∧ cX w0 L Z (u2 (u2 (u2 (u2 (u2 (u2 (u2 (u2 S 19 4 0) 19 5 0) 19 6 0) 19 7 0) 19 8 0) 19 9 0) 19 10 0) 19 11 0) (uv (uv V 20 0) 22 0) w' := by
  have key : ∀ lv, xld lv 0 = some (Value.ref 19) → xEv (d + 0) 59 0 lv [] w (fun o w' => o = .inl none ∧ cX w0 L Z (u2 (u2 (u2 (u2 (u2 (u2 (u2 (u2 S 19 4 0) 19 5 0) 19 6 0) 19 7 0) 19 8 0) 19 9 0) 19 10 0) 19 11 0) (uv (uv V 20 0) 22 0) w') := by
    intro lv l0
    refine i_59_0 (x := 19) l0 ?_
    refine i_59_1 (v := Value.ref 20) (hR.k5 kq_19) rfl ?_
    refine i_59_4 ?_
    obtain ⟨a_, v_, hsz, hR⟩ := hR.zero (h := 20) kq_20
    refine i_59_5 hsz (Nat.le_of_ble_eq_true rfl) rfl (h7k kq_20 (by decide)) ?_
    refine xgen (P := cX w0 L Z S (uv V 20 0)) hR (fun w hR => ?_)
    refine i_59_8 (x := 19) l0 ?_
    refine i_59_9 (v := Value.ref 22) (hR.k5 kq_19) rfl ?_
    refine i_59_12 ?_
    obtain ⟨a_, v_, hsz, hR⟩ := hR.zero (h := 22) kq_22
    refine i_59_13 hsz (Nat.le_of_ble_eq_true rfl) rfl (h7k kq_22 (by decide)) ?_
    refine xgen (P := cX w0 L Z S (uv (uv V 20 0) 22 0)) hR (fun w hR => ?_)
    refine i_59_16 (x := 19) l0 ?_
    refine i_59_17 ?_
    refine i_59_18 (fs2 := f5 (u1 (S 19) 4 0)) (hR.k5 kq_19) (Nat.le_of_ble_eq_true rfl) rfl (h7k kq_19 (by decide)) ?_
    refine xgen (P := cX w0 L Z (u2 S 19 4 0) (uv (uv V 20 0) 22 0)) (hR.p5 kq_19) (fun w hR => ?_)
    refine i_59_21 (x := 19) l0 ?_
    refine i_59_22 ?_
    refine i_59_23 (fs2 := f5 (u1 ((u2 S 19 4 0) 19) 5 0)) (hR.k5 kq_19) rfl (Nat.le_of_ble_eq_true rfl) rfl (h7k kq_19 (by decide)) ?_
    refine xgen (P := cX w0 L Z (u2 (u2 S 19 4 0) 19 5 0) (uv (uv V 20 0) 22 0)) (hR.p5 kq_19) (fun w hR => ?_)
    refine i_59_26 (x := 19) l0 ?_
    refine i_59_27 ?_
    refine i_59_28 (fs2 := f5 (u1 ((u2 (u2 S 19 4 0) 19 5 0) 19) 6 0)) (hR.k5 kq_19) rfl (Nat.le_of_ble_eq_true rfl) rfl (h7k kq_19 (by decide)) ?_
    refine xgen (P := cX w0 L Z (u2 (u2 (u2 S 19 4 0) 19 5 0) 19 6 0) (uv (uv V 20 0) 22 0)) (hR.p5 kq_19) (fun w hR => ?_)
    refine i_59_31 (x := 19) l0 ?_
    refine i_59_32 ?_
    refine i_59_33 (fs2 := f5 (u1 ((u2 (u2 (u2 S 19 4 0) 19 5 0) 19 6 0) 19) 7 0)) (hR.k5 kq_19) rfl (Nat.le_of_ble_eq_true rfl) rfl (h7k kq_19 (by decide)) ?_
    refine xgen (P := cX w0 L Z (u2 (u2 (u2 (u2 S 19 4 0) 19 5 0) 19 6 0) 19 7 0) (uv (uv V 20 0) 22 0)) (hR.p5 kq_19) (fun w hR => ?_)
    refine i_59_36 (x := 19) l0 ?_
    refine i_59_37 ?_
    refine i_59_38 (fs2 := f5 (u1 ((u2 (u2 (u2 (u2 S 19 4 0) 19 5 0) 19 6 0) 19 7 0) 19) 8 0)) (hR.k5 kq_19) rfl (Nat.le_of_ble_eq_true rfl) rfl (h7k kq_19 (by decide)) ?_
    refine xgen (P := cX w0 L Z (u2 (u2 (u2 (u2 (u2 S 19 4 0) 19 5 0) 19 6 0) 19 7 0) 19 8 0) (uv (uv V 20 0) 22 0)) (hR.p5 kq_19) (fun w hR => ?_)
    refine i_59_41 (x := 19) l0 ?_
    refine i_59_42 ?_
    refine i_59_43 (fs2 := f5 (u1 ((u2 (u2 (u2 (u2 (u2 S 19 4 0) 19 5 0) 19 6 0) 19 7 0) 19 8 0) 19) 9 0)) (hR.k5 kq_19) rfl (Nat.le_of_ble_eq_true rfl) rfl (h7k kq_19 (by decide)) ?_
    refine xgen (P := cX w0 L Z (u2 (u2 (u2 (u2 (u2 (u2 S 19 4 0) 19 5 0) 19 6 0) 19 7 0) 19 8 0) 19 9 0) (uv (uv V 20 0) 22 0)) (hR.p5 kq_19) (fun w hR => ?_)
    refine i_59_46 (x := 19) l0 ?_
    refine i_59_47 ?_
    refine i_59_48 (fs2 := f5 (u1 ((u2 (u2 (u2 (u2 (u2 (u2 S 19 4 0) 19 5 0) 19 6 0) 19 7 0) 19 8 0) 19 9 0) 19) 10 0)) (hR.k5 kq_19) rfl (Nat.le_of_ble_eq_true rfl) rfl (h7k kq_19 (by decide)) ?_
    refine xgen (P := cX w0 L Z (u2 (u2 (u2 (u2 (u2 (u2 (u2 S 19 4 0) 19 5 0) 19 6 0) 19 7 0) 19 8 0) 19 9 0) 19 10 0) (uv (uv V 20 0) 22 0)) (hR.p5 kq_19) (fun w hR => ?_)
    refine i_59_51 (x := 19) l0 ?_
    refine i_59_52 ?_
    refine i_59_53 (fs2 := f5 (u1 ((u2 (u2 (u2 (u2 (u2 (u2 (u2 S 19 4 0) 19 5 0) 19 6 0) 19 7 0) 19 8 0) 19 9 0) 19 10 0) 19) 11 0)) (hR.k5 kq_19) rfl (Nat.le_of_ble_eq_true rfl) rfl (h7k kq_19 (by decide)) ?_
    refine xgen (P := cX w0 L Z (u2 (u2 (u2 (u2 (u2 (u2 (u2 (u2 S 19 4 0) 19 5 0) 19 6 0) 19 7 0) 19 8 0) 19 9 0) 19 10 0) 19 11 0) (uv (uv V 20 0) 22 0)) (hR.p5 kq_19) (fun w hR => ?_)
    refine i_59_56 ?_
    exact ⟨rfl, hR⟩
  obtain ⟨o, w', h1, rfl, h2⟩ := (key (lv_args 0 [Value.ref 19]) rfl).run
  exact ⟨w', h1, h2⟩
theorem ts_0 {k sg : Int} (hR : cX w0 L Z S V w) (hk : 0 ≤ k ∧ k ≤ 3) (hs : sg = 0 ∨ sg = 1) (hf : S 19 5 = 0 ∨ S 19 5 = 1) (l0 : xld lv 0 = some (Value.ref 19)) (l1 : xld lv 1 = some (Value.int (Int32.ofInt k))) (l2 : xld lv 2 = some (Value.int (Int32.ofInt sg))) (hQ : ∀ w', cX w0 L Z (u2 S 19 5 (orI (S 19 5) (k = 0))) V w' → xEv d 63 20 lv [] w' Q) : xEv d 63 0 lv [] w Q := by
  refine i_63_0 (x := 19) l0 ?_
  refine i_63_1 (x := 19) l0 ?_
  refine i_63_2 (v := Value.int (Int32.ofInt (S 19 5))) (hR.k5 kq_19) rfl ?_
  refine i_63_5 (z_ne (a := S 19 5) ⟨by omega, by omega⟩ fun c0 => ?_) (z_eq (a := S 19 5) ⟨by omega, by omega⟩ fun c0 => ?_)
  · refine i_63_12 ?_
    refine i_63_13 ?_
    refine i_63_17 (fs2 := f5 (u1 (S 19) 5 1)) (hR.k5 kq_19) rfl (Nat.le_of_ble_eq_true rfl) rfl (h7k kq_19 (by decide)) ?_
    refine xgen (P := cX w0 L Z (u2 S 19 5 1) V) (hR.p5 kq_19) (fun w hR => ?_)
    refine hQ _ ?_
    rw [show orI (S 19 5) (k = 0) = 1 from by unfold orI; rw [if_pos (by omega)]]
    exact hR
  · refine i_63_8 (x := Int32.ofInt k) l1 ?_
    refine i_63_9 (z_ne (a := k) ⟨by omega, by omega⟩ fun c1 => ?_) (z_eq (a := k) ⟨by omega, by omega⟩ fun c1 => ?_)
    · refine i_63_16 ?_
      refine i_63_17 (fs2 := f5 (u1 (S 19) 5 0)) (hR.k5 kq_19) rfl (Nat.le_of_ble_eq_true rfl) rfl (h7k kq_19 (by decide)) ?_
      refine xgen (P := cX w0 L Z (u2 S 19 5 0) V) (hR.p5 kq_19) (fun w hR => ?_)
      refine hQ _ ?_
      rw [show orI (S 19 5) (k = 0) = 0 from by unfold orI; rw [if_neg (by omega)]]
      exact hR
    · refine i_63_12 ?_
      refine i_63_13 ?_
      refine i_63_17 (fs2 := f5 (u1 (S 19) 5 1)) (hR.k5 kq_19) rfl (Nat.le_of_ble_eq_true rfl) rfl (h7k kq_19 (by decide)) ?_
      refine xgen (P := cX w0 L Z (u2 S 19 5 1) V) (hR.p5 kq_19) (fun w hR => ?_)
      refine hQ _ ?_
      rw [show orI (S 19 5) (k = 0) = 1 from by unfold orI; rw [if_pos (by omega)]]
      exact hR
theorem ts_1 {k sg : Int} (hR : cX w0 L Z S V w) (hk : 0 ≤ k ∧ k ≤ 3) (hs : sg = 0 ∨ sg = 1) (hf : S 19 7 = 0 ∨ S 19 7 = 1) (l0 : xld lv 0 = some (Value.ref 19)) (l1 : xld lv 1 = some (Value.int (Int32.ofInt k))) (l2 : xld lv 2 = some (Value.int (Int32.ofInt sg))) (hQ : ∀ w', cX w0 L Z (u2 S 19 7 (orI (S 19 7) (k = 1 ∧ sg = 0))) V w' → xEv d 63 45 lv [] w' Q) : xEv d 63 20 lv [] w Q := by
  refine i_63_20 (x := 19) l0 ?_
  refine i_63_21 (x := 19) l0 ?_
  refine i_63_22 (v := Value.int (Int32.ofInt (S 19 7))) (hR.k5 kq_19) rfl ?_
  refine i_63_25 (z_ne (a := S 19 7) ⟨by omega, by omega⟩ fun c0 => ?_) (z_eq (a := S 19 7) ⟨by omega, by omega⟩ fun c0 => ?_)
  · refine i_63_37 ?_
    refine i_63_38 ?_
    refine i_63_42 (fs2 := f5 (u1 (S 19) 7 1)) (hR.k5 kq_19) rfl (Nat.le_of_ble_eq_true rfl) rfl (h7k kq_19 (by decide)) ?_
    refine xgen (P := cX w0 L Z (u2 S 19 7 1) V) (hR.p5 kq_19) (fun w hR => ?_)
    refine hQ _ ?_
    rw [show orI (S 19 7) (k = 1 ∧ sg = 0) = 1 from by unfold orI; rw [if_pos (by omega)]]
    exact hR
  · refine i_63_28 (x := Int32.ofInt k) l1 ?_
    refine i_63_29 ?_
    refine i_63_30 (b_ne (a := k) (b := 1) ⟨by omega, by omega⟩ ⟨by decide, by decide⟩ fun c1 => ?_) (b_eq (a := k) (b := 1) ⟨by omega, by omega⟩ ⟨by decide, by decide⟩ fun c1 => ?_)
    · refine i_63_41 ?_
      refine i_63_42 (fs2 := f5 (u1 (S 19) 7 0)) (hR.k5 kq_19) rfl (Nat.le_of_ble_eq_true rfl) rfl (h7k kq_19 (by decide)) ?_
      refine xgen (P := cX w0 L Z (u2 S 19 7 0) V) (hR.p5 kq_19) (fun w hR => ?_)
      refine hQ _ ?_
      rw [show orI (S 19 7) (k = 1 ∧ sg = 0) = 0 from by unfold orI; rw [if_neg (by omega)]]
      exact hR
    · refine i_63_33 (x := Int32.ofInt sg) l2 ?_
      refine i_63_34 (z_ne (a := sg) ⟨by omega, by omega⟩ fun c2 => ?_) (z_eq (a := sg) ⟨by omega, by omega⟩ fun c2 => ?_)
      · refine i_63_41 ?_
        refine i_63_42 (fs2 := f5 (u1 (S 19) 7 0)) (hR.k5 kq_19) rfl (Nat.le_of_ble_eq_true rfl) rfl (h7k kq_19 (by decide)) ?_
        refine xgen (P := cX w0 L Z (u2 S 19 7 0) V) (hR.p5 kq_19) (fun w hR => ?_)
        refine hQ _ ?_
        rw [show orI (S 19 7) (k = 1 ∧ sg = 0) = 0 from by unfold orI; rw [if_neg (by omega)]]
        exact hR
      · refine i_63_37 ?_
        refine i_63_38 ?_
        refine i_63_42 (fs2 := f5 (u1 (S 19) 7 1)) (hR.k5 kq_19) rfl (Nat.le_of_ble_eq_true rfl) rfl (h7k kq_19 (by decide)) ?_
        refine xgen (P := cX w0 L Z (u2 S 19 7 1) V) (hR.p5 kq_19) (fun w hR => ?_)
        refine hQ _ ?_
        rw [show orI (S 19 7) (k = 1 ∧ sg = 0) = 1 from by unfold orI; rw [if_pos (by omega)]]
        exact hR
theorem ts_2 {k sg : Int} (hR : cX w0 L Z S V w) (hk : 0 ≤ k ∧ k ≤ 3) (hs : sg = 0 ∨ sg = 1) (hf : S 19 8 = 0 ∨ S 19 8 = 1) (l0 : xld lv 0 = some (Value.ref 19)) (l1 : xld lv 1 = some (Value.int (Int32.ofInt k))) (l2 : xld lv 2 = some (Value.int (Int32.ofInt sg))) (hQ : ∀ w', cX w0 L Z (u2 S 19 8 (orI (S 19 8) (k = 1 ∧ sg ≠ 0))) V w' → xEv d 63 70 lv [] w' Q) : xEv d 63 45 lv [] w Q := by
  refine i_63_45 (x := 19) l0 ?_
  refine i_63_46 (x := 19) l0 ?_
  refine i_63_47 (v := Value.int (Int32.ofInt (S 19 8))) (hR.k5 kq_19) rfl ?_
  refine i_63_50 (z_ne (a := S 19 8) ⟨by omega, by omega⟩ fun c0 => ?_) (z_eq (a := S 19 8) ⟨by omega, by omega⟩ fun c0 => ?_)
  · refine i_63_62 ?_
    refine i_63_63 ?_
    refine i_63_67 (fs2 := f5 (u1 (S 19) 8 1)) (hR.k5 kq_19) rfl (Nat.le_of_ble_eq_true rfl) rfl (h7k kq_19 (by decide)) ?_
    refine xgen (P := cX w0 L Z (u2 S 19 8 1) V) (hR.p5 kq_19) (fun w hR => ?_)
    refine hQ _ ?_
    rw [show orI (S 19 8) (k = 1 ∧ sg ≠ 0) = 1 from by unfold orI; rw [if_pos (by omega)]]
    exact hR
  · refine i_63_53 (x := Int32.ofInt k) l1 ?_
    refine i_63_54 ?_
    refine i_63_55 (b_ne (a := k) (b := 1) ⟨by omega, by omega⟩ ⟨by decide, by decide⟩ fun c1 => ?_) (b_eq (a := k) (b := 1) ⟨by omega, by omega⟩ ⟨by decide, by decide⟩ fun c1 => ?_)
    · refine i_63_66 ?_
      refine i_63_67 (fs2 := f5 (u1 (S 19) 8 0)) (hR.k5 kq_19) rfl (Nat.le_of_ble_eq_true rfl) rfl (h7k kq_19 (by decide)) ?_
      refine xgen (P := cX w0 L Z (u2 S 19 8 0) V) (hR.p5 kq_19) (fun w hR => ?_)
      refine hQ _ ?_
      rw [show orI (S 19 8) (k = 1 ∧ sg ≠ 0) = 0 from by unfold orI; rw [if_neg (by omega)]]
      exact hR
    · refine i_63_58 (x := Int32.ofInt sg) l2 ?_
      refine i_63_59 (z_eq (a := sg) ⟨by omega, by omega⟩ fun c2 => ?_) (z_ne (a := sg) ⟨by omega, by omega⟩ fun c2 => ?_)
      · refine i_63_66 ?_
        refine i_63_67 (fs2 := f5 (u1 (S 19) 8 0)) (hR.k5 kq_19) rfl (Nat.le_of_ble_eq_true rfl) rfl (h7k kq_19 (by decide)) ?_
        refine xgen (P := cX w0 L Z (u2 S 19 8 0) V) (hR.p5 kq_19) (fun w hR => ?_)
        refine hQ _ ?_
        rw [show orI (S 19 8) (k = 1 ∧ sg ≠ 0) = 0 from by unfold orI; rw [if_neg (by omega)]]
        exact hR
      · refine i_63_62 ?_
        refine i_63_63 ?_
        refine i_63_67 (fs2 := f5 (u1 (S 19) 8 1)) (hR.k5 kq_19) rfl (Nat.le_of_ble_eq_true rfl) rfl (h7k kq_19 (by decide)) ?_
        refine xgen (P := cX w0 L Z (u2 S 19 8 1) V) (hR.p5 kq_19) (fun w hR => ?_)
        refine hQ _ ?_
        rw [show orI (S 19 8) (k = 1 ∧ sg ≠ 0) = 1 from by unfold orI; rw [if_pos (by omega)]]
        exact hR
theorem ts_3 {k sg : Int} (hR : cX w0 L Z S V w) (hk : 0 ≤ k ∧ k ≤ 3) (hs : sg = 0 ∨ sg = 1) (hf : S 19 10 = 0 ∨ S 19 10 = 1) (l0 : xld lv 0 = some (Value.ref 19)) (l1 : xld lv 1 = some (Value.int (Int32.ofInt k))) (l2 : xld lv 2 = some (Value.int (Int32.ofInt sg))) (hQ : ∀ w', cX w0 L Z (u2 S 19 10 (orI (S 19 10) (k = 2 ∧ sg = 0))) V w' → xEv d 63 95 lv [] w' Q) : xEv d 63 70 lv [] w Q := by
  refine i_63_70 (x := 19) l0 ?_
  refine i_63_71 (x := 19) l0 ?_
  refine i_63_72 (v := Value.int (Int32.ofInt (S 19 10))) (hR.k5 kq_19) rfl ?_
  refine i_63_75 (z_ne (a := S 19 10) ⟨by omega, by omega⟩ fun c0 => ?_) (z_eq (a := S 19 10) ⟨by omega, by omega⟩ fun c0 => ?_)
  · refine i_63_87 ?_
    refine i_63_88 ?_
    refine i_63_92 (fs2 := f5 (u1 (S 19) 10 1)) (hR.k5 kq_19) rfl (Nat.le_of_ble_eq_true rfl) rfl (h7k kq_19 (by decide)) ?_
    refine xgen (P := cX w0 L Z (u2 S 19 10 1) V) (hR.p5 kq_19) (fun w hR => ?_)
    refine hQ _ ?_
    rw [show orI (S 19 10) (k = 2 ∧ sg = 0) = 1 from by unfold orI; rw [if_pos (by omega)]]
    exact hR
  · refine i_63_78 (x := Int32.ofInt k) l1 ?_
    refine i_63_79 ?_
    refine i_63_80 (b_ne (a := k) (b := 2) ⟨by omega, by omega⟩ ⟨by decide, by decide⟩ fun c1 => ?_) (b_eq (a := k) (b := 2) ⟨by omega, by omega⟩ ⟨by decide, by decide⟩ fun c1 => ?_)
    · refine i_63_91 ?_
      refine i_63_92 (fs2 := f5 (u1 (S 19) 10 0)) (hR.k5 kq_19) rfl (Nat.le_of_ble_eq_true rfl) rfl (h7k kq_19 (by decide)) ?_
      refine xgen (P := cX w0 L Z (u2 S 19 10 0) V) (hR.p5 kq_19) (fun w hR => ?_)
      refine hQ _ ?_
      rw [show orI (S 19 10) (k = 2 ∧ sg = 0) = 0 from by unfold orI; rw [if_neg (by omega)]]
      exact hR
    · refine i_63_83 (x := Int32.ofInt sg) l2 ?_
      refine i_63_84 (z_ne (a := sg) ⟨by omega, by omega⟩ fun c2 => ?_) (z_eq (a := sg) ⟨by omega, by omega⟩ fun c2 => ?_)
      · refine i_63_91 ?_
        refine i_63_92 (fs2 := f5 (u1 (S 19) 10 0)) (hR.k5 kq_19) rfl (Nat.le_of_ble_eq_true rfl) rfl (h7k kq_19 (by decide)) ?_
        refine xgen (P := cX w0 L Z (u2 S 19 10 0) V) (hR.p5 kq_19) (fun w hR => ?_)
        refine hQ _ ?_
        rw [show orI (S 19 10) (k = 2 ∧ sg = 0) = 0 from by unfold orI; rw [if_neg (by omega)]]
        exact hR
      · refine i_63_87 ?_
        refine i_63_88 ?_
        refine i_63_92 (fs2 := f5 (u1 (S 19) 10 1)) (hR.k5 kq_19) rfl (Nat.le_of_ble_eq_true rfl) rfl (h7k kq_19 (by decide)) ?_
        refine xgen (P := cX w0 L Z (u2 S 19 10 1) V) (hR.p5 kq_19) (fun w hR => ?_)
        refine hQ _ ?_
        rw [show orI (S 19 10) (k = 2 ∧ sg = 0) = 1 from by unfold orI; rw [if_pos (by omega)]]
        exact hR
theorem ts_4 {k sg : Int} (hR : cX w0 L Z S V w) (hk : 0 ≤ k ∧ k ≤ 3) (hs : sg = 0 ∨ sg = 1) (hf : S 19 11 = 0 ∨ S 19 11 = 1) (l0 : xld lv 0 = some (Value.ref 19)) (l1 : xld lv 1 = some (Value.int (Int32.ofInt k))) (l2 : xld lv 2 = some (Value.int (Int32.ofInt sg))) (hQ : ∀ w', cX w0 L Z (u2 S 19 11 (orI (S 19 11) (k = 2 ∧ sg ≠ 0))) V w' → xEv d 63 120 lv [] w' Q) : xEv d 63 95 lv [] w Q := by
  refine i_63_95 (x := 19) l0 ?_
  refine i_63_96 (x := 19) l0 ?_
  refine i_63_97 (v := Value.int (Int32.ofInt (S 19 11))) (hR.k5 kq_19) rfl ?_
  refine i_63_100 (z_ne (a := S 19 11) ⟨by omega, by omega⟩ fun c0 => ?_) (z_eq (a := S 19 11) ⟨by omega, by omega⟩ fun c0 => ?_)
  · refine i_63_112 ?_
    refine i_63_113 ?_
    refine i_63_117 (fs2 := f5 (u1 (S 19) 11 1)) (hR.k5 kq_19) rfl (Nat.le_of_ble_eq_true rfl) rfl (h7k kq_19 (by decide)) ?_
    refine xgen (P := cX w0 L Z (u2 S 19 11 1) V) (hR.p5 kq_19) (fun w hR => ?_)
    refine hQ _ ?_
    rw [show orI (S 19 11) (k = 2 ∧ sg ≠ 0) = 1 from by unfold orI; rw [if_pos (by omega)]]
    exact hR
  · refine i_63_103 (x := Int32.ofInt k) l1 ?_
    refine i_63_104 ?_
    refine i_63_105 (b_ne (a := k) (b := 2) ⟨by omega, by omega⟩ ⟨by decide, by decide⟩ fun c1 => ?_) (b_eq (a := k) (b := 2) ⟨by omega, by omega⟩ ⟨by decide, by decide⟩ fun c1 => ?_)
    · refine i_63_116 ?_
      refine i_63_117 (fs2 := f5 (u1 (S 19) 11 0)) (hR.k5 kq_19) rfl (Nat.le_of_ble_eq_true rfl) rfl (h7k kq_19 (by decide)) ?_
      refine xgen (P := cX w0 L Z (u2 S 19 11 0) V) (hR.p5 kq_19) (fun w hR => ?_)
      refine hQ _ ?_
      rw [show orI (S 19 11) (k = 2 ∧ sg ≠ 0) = 0 from by unfold orI; rw [if_neg (by omega)]]
      exact hR
    · refine i_63_108 (x := Int32.ofInt sg) l2 ?_
      refine i_63_109 (z_eq (a := sg) ⟨by omega, by omega⟩ fun c2 => ?_) (z_ne (a := sg) ⟨by omega, by omega⟩ fun c2 => ?_)
      · refine i_63_116 ?_
        refine i_63_117 (fs2 := f5 (u1 (S 19) 11 0)) (hR.k5 kq_19) rfl (Nat.le_of_ble_eq_true rfl) rfl (h7k kq_19 (by decide)) ?_
        refine xgen (P := cX w0 L Z (u2 S 19 11 0) V) (hR.p5 kq_19) (fun w hR => ?_)
        refine hQ _ ?_
        rw [show orI (S 19 11) (k = 2 ∧ sg ≠ 0) = 0 from by unfold orI; rw [if_neg (by omega)]]
        exact hR
      · refine i_63_112 ?_
        refine i_63_113 ?_
        refine i_63_117 (fs2 := f5 (u1 (S 19) 11 1)) (hR.k5 kq_19) rfl (Nat.le_of_ble_eq_true rfl) rfl (h7k kq_19 (by decide)) ?_
        refine xgen (P := cX w0 L Z (u2 S 19 11 1) V) (hR.p5 kq_19) (fun w hR => ?_)
        refine hQ _ ?_
        rw [show orI (S 19 11) (k = 2 ∧ sg ≠ 0) = 1 from by unfold orI; rw [if_pos (by omega)]]
        exact hR
theorem x_tsp {k sg : Int} (hR : cX w0 L Z S V w) (hk : 0 ≤ k ∧ k ≤ 3) (hs : sg = 0 ∨ sg = 1) (hf5 : S 19 5 = 0 ∨ S 19 5 = 1) (hf7 : S 19 7 = 0 ∨ S 19 7 = 1) (hf8 : S 19 8 = 0 ∨ S 19 8 = 1) (hf10 : S 19 10 = 0 ∨ S 19 10 = 1) (hf11 : S 19 11 = 0 ∨ S 19 11 = 1) : ∃ w', xRun (d + 0) 63 [Value.ref 19, Value.int (Int32.ofInt k), Value.int (Int32.ofInt sg)] w (.inl none) w' ∧ cX w0 L Z (u2 (u2 (u2 (u2 (u2 S 19 5 (orI (S 19 5) (k = 0))) 19 7 (orI (S 19 7) (k = 1 ∧ sg = 0))) 19 8 (orI (S 19 8) (k = 1 ∧ sg ≠ 0))) 19 10 (orI (S 19 10) (k = 2 ∧ sg = 0))) 19 11 (orI (S 19 11) (k = 2 ∧ sg ≠ 0))) V w' := by
  have key : ∀ lv, xld lv 0 = some (Value.ref 19) → xld lv 1 = some (Value.int (Int32.ofInt k)) → xld lv 2 = some (Value.int (Int32.ofInt sg)) → xEv (d + 0) 63 0 lv [] w (fun o w' => o = .inl none ∧ cX w0 L Z (u2 (u2 (u2 (u2 (u2 S 19 5 (orI (S 19 5) (k = 0))) 19 7 (orI (S 19 7) (k = 1 ∧ sg = 0))) 19 8 (orI (S 19 8) (k = 1 ∧ sg ≠ 0))) 19 10 (orI (S 19 10) (k = 2 ∧ sg = 0))) 19 11 (orI (S 19 11) (k = 2 ∧ sg ≠ 0))) V w') := by
    intro lv l0 l1 l2
    have e0 : S 19 5 = S 19 5 := by rfl
    refine ts_0 hR hk hs (by rw [e0]; exact hf5) l0 l1 l2 (fun w hR => ?_)
    rw [e0] at hR
    have e1 : (u2 S 19 5 (orI (S 19 5) (k = 0))) 19 7 = S 19 7 := by rw [u2_eq, if_neg (fun e => absurd e.2 (by decide))]
    refine ts_1 hR hk hs (by rw [e1]; exact hf7) l0 l1 l2 (fun w hR => ?_)
    rw [e1] at hR
    have e2 : (u2 (u2 S 19 5 (orI (S 19 5) (k = 0))) 19 7 (orI (S 19 7) (k = 1 ∧ sg = 0))) 19 8 = S 19 8 := by rw [u2_eq, if_neg (fun e => absurd e.2 (by decide)), u2_eq, if_neg (fun e => absurd e.2 (by decide))]
    refine ts_2 hR hk hs (by rw [e2]; exact hf8) l0 l1 l2 (fun w hR => ?_)
    rw [e2] at hR
    have e3 : (u2 (u2 (u2 S 19 5 (orI (S 19 5) (k = 0))) 19 7 (orI (S 19 7) (k = 1 ∧ sg = 0))) 19 8 (orI (S 19 8) (k = 1 ∧ sg ≠ 0))) 19 10 = S 19 10 := by rw [u2_eq, if_neg (fun e => absurd e.2 (by decide)), u2_eq, if_neg (fun e => absurd e.2 (by decide)), u2_eq, if_neg (fun e => absurd e.2 (by decide))]
    refine ts_3 hR hk hs (by rw [e3]; exact hf10) l0 l1 l2 (fun w hR => ?_)
    rw [e3] at hR
    have e4 : (u2 (u2 (u2 (u2 S 19 5 (orI (S 19 5) (k = 0))) 19 7 (orI (S 19 7) (k = 1 ∧ sg = 0))) 19 8 (orI (S 19 8) (k = 1 ∧ sg ≠ 0))) 19 10 (orI (S 19 10) (k = 2 ∧ sg = 0))) 19 11 = S 19 11 := by rw [u2_eq, if_neg (fun e => absurd e.2 (by decide)), u2_eq, if_neg (fun e => absurd e.2 (by decide)), u2_eq, if_neg (fun e => absurd e.2 (by decide)), u2_eq, if_neg (fun e => absurd e.2 (by decide))]
    refine ts_4 hR hk hs (by rw [e4]; exact hf11) l0 l1 l2 (fun w hR => ?_)
    rw [e4] at hR
    exact i_63_120 ⟨rfl, hR⟩
  obtain ⟨o, w', h1, rfl, h2⟩ := (key (lv_args 0 [Value.ref 19, Value.int (Int32.ofInt k), Value.int (Int32.ofInt sg)]) rfl rfl rfl).run
  exact ⟨w', h1, h2⟩
/-- the new lowest exponent -/
def nlo (num b sc : Int) : Int := if num = 0 then sc else min b sc
theorem shf_z {u : Nat} : shf u 0 = u := by
  unfold shf
  rw [if_pos (by omega)]
  exact Nat.mul_one u
set_option maxHeartbeats 8000000 in
theorem x_tm {sc sg : Int} (hR : cX w0 L Z S V w) (hh : kd h = 3) (h20 : h ≠ 20) (h22 : h ≠ 22) (hs : sg = 0 ∨ sg = 1) (hsc : -100000 ≤ sc ∧ sc ≤ 100000) (hb : -100000 ≤ S 19 4 ∧ S 19 4 ≤ 100000) (hn : S 19 9 = 0 ∨ S 19 9 = 1) (hP : xbl (V 20) ≤ 400000) (hM : xbl (V 22) ≤ 400000) (hm : xbl (V h) ≤ 400000) : ∃ w', xRun (d + 5) 61 [Value.ref 19, Value.ref h, Value.int (Int32.ofInt sc), Value.int (Int32.ofInt sg)] w (.inl none) w' ∧ ∃ V', cX w0 L Z (u2 (u2 S 19 4 (nlo (S 19 9) (S 19 4) sc)) 19 9 1) V' w' ∧ V' 20 = shf (V 20) (if S 19 9 = 0 then 0 else S 19 4 - nlo (S 19 9) (S 19 4) sc) + (if sg = 0 then shf (V h) (sc - nlo (S 19 9) (S 19 4) sc) else 0) ∧ V' 22 = shf (V 22) (if S 19 9 = 0 then 0 else S 19 4 - nlo (S 19 9) (S 19 4) sc) + (if sg = 0 then 0 else shf (V h) (sc - nlo (S 19 9) (S 19 4) sc)) ∧ ∀ k, k ≠ 20 → k ≠ 22 → V' k = V k := by
  have key : ∀ lv, xld lv 0 = some (Value.ref 19) → xld lv 1 = some (Value.ref h) → xld lv 2 = some (Value.int (Int32.ofInt sc)) → xld lv 3 = some (Value.int (Int32.ofInt sg)) → xEv (d + 5) 61 0 lv [] w (fun o w' => o = .inl none ∧ ∃ V', cX w0 L Z (u2 (u2 S 19 4 (nlo (S 19 9) (S 19 4) sc)) 19 9 1) V' w' ∧ V' 20 = shf (V 20) (if S 19 9 = 0 then 0 else S 19 4 - nlo (S 19 9) (S 19 4) sc) + (if sg = 0 then shf (V h) (sc - nlo (S 19 9) (S 19 4) sc) else 0) ∧ V' 22 = shf (V 22) (if S 19 9 = 0 then 0 else S 19 4 - nlo (S 19 9) (S 19 4) sc) + (if sg = 0 then 0 else shf (V h) (sc - nlo (S 19 9) (S 19 4) sc)) ∧ ∀ k, k ≠ 20 → k ≠ 22 → V' k = V k) := by
    intro lv l0 l1 l2 l3
    have hb20 := shf_ble (V 20) (S 19 4 - sc)
    have hb22 := shf_ble (V 22) (S 19 4 - sc)
    refine i_61_0 (x := 19) l0 ?_
    refine i_61_1 (v := Value.int (Int32.ofInt (S 19 9))) (hR.k5 kq_19) rfl ?_
    refine i_61_4 (z_ne (a := S 19 9) ⟨by omega, by omega⟩ fun c0 => ?_) (z_eq (a := S 19 9) ⟨by omega, by omega⟩ fun c0 => ?_)
    · refine i_61_15 (x := Int32.ofInt sc) l2 ?_
      refine i_61_16 (x := 19) l0 ?_
      refine i_61_17 (v := Value.int (Int32.ofInt (S 19 4))) (hR.k5 kq_19) rfl ?_
      refine i_61_20 (b_le (a := S 19 4) (b := sc) ⟨by omega, by omega⟩ ⟨by omega, by omega⟩ fun c1 => ?_) (b_lt (a := sc) (b := S 19 4) ⟨by omega, by omega⟩ ⟨by omega, by omega⟩ fun c1 => ?_)
      · refine i_61_62 (x := 19) l0 ?_
        refine i_61_63 ?_
        refine i_61_64 (fs2 := f5 (u1 (S 19) 9 1)) (hR.k5 kq_19) rfl (Nat.le_of_ble_eq_true rfl) rfl (h7k kq_19 (by decide)) ?_
        refine xgen (P := cX w0 L Z (u2 S 19 9 1) V) (hR.p5 kq_19) (fun w hR => ?_)
        refine i_61_67 (x := Int32.ofInt sg) l3 ?_
        refine i_61_68 (z_eq (a := sg) ⟨by omega, by omega⟩ fun c2 => ?_) (z_ne (a := sg) ⟨by omega, by omega⟩ fun c2 => ?_)
        · refine i_61_88 (x := 19) l0 ?_
          refine i_61_89 (v := Value.ref 20) (hR.k5 kq_19) rfl ?_
          refine i_61_92 (x := h) l1 ?_
          refine i_61_93 (x := Int32.ofInt sc) l2 ?_
          refine i_61_94 (x := 19) l0 ?_
          refine i_61_95 (v := Value.int (Int32.ofInt ((u2 S 19 9 1) 19 4))) (hR.k5 kq_19) rfl ?_
          rw [show Int32.ofInt ((u2 S 19 9 1) 19 4) = Int32.ofInt (S 19 4) by rw [u2_eq, if_neg (fun e => absurd e.2 (by decide))]]
          refine i_61_98 (c := Int32.ofInt (sc - (S 19 4))) (o_sub sc (S 19 4)) ?_
          obtain ⟨fs, hobj⟩ := hR.nat kq_20
          obtain ⟨w, hrun, hR⟩ := X_addsh (d := d) (h := 20) (h2 := h) (u := V 20) (v2 := V h) (k := sc - (S 19 4)) hR kq_20 hh (by omega) (rfl) (rfl) (by omega) (by omega) (by omega)
          refine i_61_99 hobj (Nat.le_of_ble_eq_true rfl) hrun ?_
          refine i_61_102 ?_
          have en : nlo (S 19 9) (S 19 4) sc = S 19 4 := by unfold nlo; first | (rw [if_pos (by omega)]; done) | (rw [if_neg (by omega)]; omega)
          rw [en, u2self]
          refine ⟨rfl, _, hR, ?_, ?_, fun k k1 k2 => ?_⟩
          · simp only [uv_e]; grind [shf_z]
          · simp only [uv_e]; grind [shf_z]
          · simp only [uv_e]; grind
        · refine i_61_71 (x := 19) l0 ?_
          refine i_61_72 (v := Value.ref 22) (hR.k5 kq_19) rfl ?_
          refine i_61_75 (x := h) l1 ?_
          refine i_61_76 (x := Int32.ofInt sc) l2 ?_
          refine i_61_77 (x := 19) l0 ?_
          refine i_61_78 (v := Value.int (Int32.ofInt ((u2 S 19 9 1) 19 4))) (hR.k5 kq_19) rfl ?_
          rw [show Int32.ofInt ((u2 S 19 9 1) 19 4) = Int32.ofInt (S 19 4) by rw [u2_eq, if_neg (fun e => absurd e.2 (by decide))]]
          refine i_61_81 (c := Int32.ofInt (sc - (S 19 4))) (o_sub sc (S 19 4)) ?_
          obtain ⟨fs, hobj⟩ := hR.nat kq_22
          obtain ⟨w, hrun, hR⟩ := X_addsh (d := d) (h := 22) (h2 := h) (u := V 22) (v2 := V h) (k := sc - (S 19 4)) hR kq_22 hh (by omega) (rfl) (rfl) (by omega) (by omega) (by omega)
          refine i_61_82 hobj (Nat.le_of_ble_eq_true rfl) hrun ?_
          refine i_61_85 ?_
          refine i_61_102 ?_
          have en : nlo (S 19 9) (S 19 4) sc = S 19 4 := by unfold nlo; first | (rw [if_pos (by omega)]; done) | (rw [if_neg (by omega)]; omega)
          rw [en, u2self]
          refine ⟨rfl, _, hR, ?_, ?_, fun k k1 k2 => ?_⟩
          · simp only [uv_e]; grind [shf_z]
          · simp only [uv_e]; grind [shf_z]
          · simp only [uv_e]; grind
      · refine i_61_23 (x := 19) l0 ?_
        refine i_61_24 (v := Value.ref 20) (hR.k5 kq_19) rfl ?_
        refine i_61_27 (x := 19) l0 ?_
        refine i_61_28 (v := Value.ref 20) (hR.k5 kq_19) rfl ?_
        refine i_61_31 (x := 19) l0 ?_
        refine i_61_32 (v := Value.int (Int32.ofInt (S 19 4))) (hR.k5 kq_19) rfl ?_
        refine i_61_35 (x := Int32.ofInt sc) l2 ?_
        refine i_61_36 (c := Int32.ofInt ((S 19 4) - sc)) (o_sub (S 19 4) sc) ?_
        obtain ⟨fs, hobj⟩ := hR.nat kq_20
        obtain ⟨w, hrun, hR⟩ := X_shift (d := d + 1) (h := 20) (h2 := 20) (u := V 20) (k := (S 19 4) - sc) hR kq_20 kq_20 (rfl) (by omega) (by omega)
        refine i_61_37 hobj (Nat.le_of_ble_eq_true rfl) hrun ?_
        refine i_61_40 (x := 19) l0 ?_
        refine i_61_41 (v := Value.ref 22) (hR.k5 kq_19) rfl ?_
        refine i_61_44 (x := 19) l0 ?_
        refine i_61_45 (v := Value.ref 22) (hR.k5 kq_19) rfl ?_
        refine i_61_48 (x := 19) l0 ?_
        refine i_61_49 (v := Value.int (Int32.ofInt (S 19 4))) (hR.k5 kq_19) rfl ?_
        refine i_61_52 (x := Int32.ofInt sc) l2 ?_
        refine i_61_53 (c := Int32.ofInt ((S 19 4) - sc)) (o_sub (S 19 4) sc) ?_
        obtain ⟨fs, hobj⟩ := hR.nat kq_22
        obtain ⟨w, hrun, hR⟩ := X_shift (d := d + 1) (h := 22) (h2 := 22) (u := V 22) (k := (S 19 4) - sc) hR kq_22 kq_22 ((uv_n (by omega)).trans (rfl)) (by omega) (by omega)
        refine i_61_54 hobj (Nat.le_of_ble_eq_true rfl) hrun ?_
        refine i_61_57 (x := 19) l0 ?_
        refine i_61_58 (x := Int32.ofInt sc) l2 ?_
        refine i_61_59 (fs2 := f5 (u1 (S 19) 4 sc)) (hR.k5 kq_19) (Nat.le_of_ble_eq_true rfl) rfl (h7k kq_19 (by decide)) ?_
        refine xgen (P := cX w0 L Z (u2 S 19 4 sc) (uv (uv V 20 (shf (V 20) ((S 19 4) - sc))) 22 (shf (V 22) ((S 19 4) - sc)))) (hR.p5 kq_19) (fun w hR => ?_)
        refine i_61_62 (x := 19) l0 ?_
        refine i_61_63 ?_
        refine i_61_64 (fs2 := f5 (u1 ((u2 S 19 4 sc) 19) 9 1)) (hR.k5 kq_19) rfl (Nat.le_of_ble_eq_true rfl) rfl (h7k kq_19 (by decide)) ?_
        refine xgen (P := cX w0 L Z (u2 (u2 S 19 4 sc) 19 9 1) (uv (uv V 20 (shf (V 20) ((S 19 4) - sc))) 22 (shf (V 22) ((S 19 4) - sc)))) (hR.p5 kq_19) (fun w hR => ?_)
        refine i_61_67 (x := Int32.ofInt sg) l3 ?_
        refine i_61_68 (z_eq (a := sg) ⟨by omega, by omega⟩ fun c3 => ?_) (z_ne (a := sg) ⟨by omega, by omega⟩ fun c3 => ?_)
        · refine i_61_88 (x := 19) l0 ?_
          refine i_61_89 (v := Value.ref 20) (hR.k5 kq_19) rfl ?_
          refine i_61_92 (x := h) l1 ?_
          refine i_61_93 (x := Int32.ofInt sc) l2 ?_
          refine i_61_94 (x := 19) l0 ?_
          refine i_61_95 (v := Value.int (Int32.ofInt ((u2 (u2 S 19 4 sc) 19 9 1) 19 4))) (hR.k5 kq_19) rfl ?_
          rw [show Int32.ofInt ((u2 (u2 S 19 4 sc) 19 9 1) 19 4) = Int32.ofInt sc by rw [u2_eq, if_neg (fun e => absurd e.2 (by decide)), u2_eq, if_pos ⟨rfl, rfl⟩]]
          refine i_61_98 (c := Int32.ofInt (sc - sc)) (o_sub sc sc) ?_
          obtain ⟨fs, hobj⟩ := hR.nat kq_20
          obtain ⟨w, hrun, hR⟩ := X_addsh (d := d) (h := 20) (h2 := h) (u := shf (V 20) ((S 19 4) - sc)) (v2 := V h) (k := sc - sc) hR kq_20 hh (by omega) ((uv_n (by omega)).trans (uv_s)) ((uv_n (by omega)).trans ((uv_n (by omega)).trans (rfl))) (by omega) (by omega) (by omega)
          refine i_61_99 hobj (Nat.le_of_ble_eq_true rfl) hrun ?_
          refine i_61_102 ?_
          have en : nlo (S 19 9) (S 19 4) sc = sc := by unfold nlo; first | (rw [if_pos (by omega)]; done) | (rw [if_neg (by omega)]; omega)
          rw [en]
          refine ⟨rfl, _, hR, ?_, ?_, fun k k1 k2 => ?_⟩
          · simp only [uv_e]; grind [shf_z]
          · simp only [uv_e]; grind [shf_z]
          · simp only [uv_e]; grind
        · refine i_61_71 (x := 19) l0 ?_
          refine i_61_72 (v := Value.ref 22) (hR.k5 kq_19) rfl ?_
          refine i_61_75 (x := h) l1 ?_
          refine i_61_76 (x := Int32.ofInt sc) l2 ?_
          refine i_61_77 (x := 19) l0 ?_
          refine i_61_78 (v := Value.int (Int32.ofInt ((u2 (u2 S 19 4 sc) 19 9 1) 19 4))) (hR.k5 kq_19) rfl ?_
          rw [show Int32.ofInt ((u2 (u2 S 19 4 sc) 19 9 1) 19 4) = Int32.ofInt sc by rw [u2_eq, if_neg (fun e => absurd e.2 (by decide)), u2_eq, if_pos ⟨rfl, rfl⟩]]
          refine i_61_81 (c := Int32.ofInt (sc - sc)) (o_sub sc sc) ?_
          obtain ⟨fs, hobj⟩ := hR.nat kq_22
          obtain ⟨w, hrun, hR⟩ := X_addsh (d := d) (h := 22) (h2 := h) (u := shf (V 22) ((S 19 4) - sc)) (v2 := V h) (k := sc - sc) hR kq_22 hh (by omega) (uv_s) ((uv_n (by omega)).trans ((uv_n (by omega)).trans (rfl))) (by omega) (by omega) (by omega)
          rw [uvv] at hR
          refine i_61_82 hobj (Nat.le_of_ble_eq_true rfl) hrun ?_
          refine i_61_85 ?_
          refine i_61_102 ?_
          have en : nlo (S 19 9) (S 19 4) sc = sc := by unfold nlo; first | (rw [if_pos (by omega)]; done) | (rw [if_neg (by omega)]; omega)
          rw [en]
          refine ⟨rfl, _, hR, ?_, ?_, fun k k1 k2 => ?_⟩
          · simp only [uv_e]; grind [shf_z]
          · simp only [uv_e]; grind [shf_z]
          · simp only [uv_e]; grind
    · refine i_61_7 (x := 19) l0 ?_
      refine i_61_8 (x := Int32.ofInt sc) l2 ?_
      refine i_61_9 (fs2 := f5 (u1 (S 19) 4 sc)) (hR.k5 kq_19) (Nat.le_of_ble_eq_true rfl) rfl (h7k kq_19 (by decide)) ?_
      refine xgen (P := cX w0 L Z (u2 S 19 4 sc) V) (hR.p5 kq_19) (fun w hR => ?_)
      refine i_61_12 ?_
      refine i_61_62 (x := 19) l0 ?_
      refine i_61_63 ?_
      refine i_61_64 (fs2 := f5 (u1 ((u2 S 19 4 sc) 19) 9 1)) (hR.k5 kq_19) rfl (Nat.le_of_ble_eq_true rfl) rfl (h7k kq_19 (by decide)) ?_
      refine xgen (P := cX w0 L Z (u2 (u2 S 19 4 sc) 19 9 1) V) (hR.p5 kq_19) (fun w hR => ?_)
      refine i_61_67 (x := Int32.ofInt sg) l3 ?_
      refine i_61_68 (z_eq (a := sg) ⟨by omega, by omega⟩ fun c4 => ?_) (z_ne (a := sg) ⟨by omega, by omega⟩ fun c4 => ?_)
      · refine i_61_88 (x := 19) l0 ?_
        refine i_61_89 (v := Value.ref 20) (hR.k5 kq_19) rfl ?_
        refine i_61_92 (x := h) l1 ?_
        refine i_61_93 (x := Int32.ofInt sc) l2 ?_
        refine i_61_94 (x := 19) l0 ?_
        refine i_61_95 (v := Value.int (Int32.ofInt ((u2 (u2 S 19 4 sc) 19 9 1) 19 4))) (hR.k5 kq_19) rfl ?_
        rw [show Int32.ofInt ((u2 (u2 S 19 4 sc) 19 9 1) 19 4) = Int32.ofInt sc by rw [u2_eq, if_neg (fun e => absurd e.2 (by decide)), u2_eq, if_pos ⟨rfl, rfl⟩]]
        refine i_61_98 (c := Int32.ofInt (sc - sc)) (o_sub sc sc) ?_
        obtain ⟨fs, hobj⟩ := hR.nat kq_20
        obtain ⟨w, hrun, hR⟩ := X_addsh (d := d) (h := 20) (h2 := h) (u := V 20) (v2 := V h) (k := sc - sc) hR kq_20 hh (by omega) (rfl) (rfl) (by omega) (by omega) (by omega)
        refine i_61_99 hobj (Nat.le_of_ble_eq_true rfl) hrun ?_
        refine i_61_102 ?_
        have en : nlo (S 19 9) (S 19 4) sc = sc := by unfold nlo; first | (rw [if_pos (by omega)]; done) | (rw [if_neg (by omega)]; omega)
        rw [en]
        refine ⟨rfl, _, hR, ?_, ?_, fun k k1 k2 => ?_⟩
        · simp only [uv_e]; grind [shf_z]
        · simp only [uv_e]; grind [shf_z]
        · simp only [uv_e]; grind
      · refine i_61_71 (x := 19) l0 ?_
        refine i_61_72 (v := Value.ref 22) (hR.k5 kq_19) rfl ?_
        refine i_61_75 (x := h) l1 ?_
        refine i_61_76 (x := Int32.ofInt sc) l2 ?_
        refine i_61_77 (x := 19) l0 ?_
        refine i_61_78 (v := Value.int (Int32.ofInt ((u2 (u2 S 19 4 sc) 19 9 1) 19 4))) (hR.k5 kq_19) rfl ?_
        rw [show Int32.ofInt ((u2 (u2 S 19 4 sc) 19 9 1) 19 4) = Int32.ofInt sc by rw [u2_eq, if_neg (fun e => absurd e.2 (by decide)), u2_eq, if_pos ⟨rfl, rfl⟩]]
        refine i_61_81 (c := Int32.ofInt (sc - sc)) (o_sub sc sc) ?_
        obtain ⟨fs, hobj⟩ := hR.nat kq_22
        obtain ⟨w, hrun, hR⟩ := X_addsh (d := d) (h := 22) (h2 := h) (u := V 22) (v2 := V h) (k := sc - sc) hR kq_22 hh (by omega) (rfl) (rfl) (by omega) (by omega) (by omega)
        refine i_61_82 hobj (Nat.le_of_ble_eq_true rfl) hrun ?_
        refine i_61_85 ?_
        refine i_61_102 ?_
        have en : nlo (S 19 9) (S 19 4) sc = sc := by unfold nlo; first | (rw [if_pos (by omega)]; done) | (rw [if_neg (by omega)]; omega)
        rw [en]
        refine ⟨rfl, _, hR, ?_, ?_, fun k k1 k2 => ?_⟩
        · simp only [uv_e]; grind [shf_z]
        · simp only [uv_e]; grind [shf_z]
        · simp only [uv_e]; grind
  obtain ⟨o, w', h1, rfl, h2⟩ := (key (lv_args 0 [Value.ref 19, Value.ref h, Value.int (Int32.ofInt sc), Value.int (Int32.ofInt sg)]) rfl rfl rfl rfl).run
  exact ⟨w', h1, h2⟩
end
