/-! Power of the class: cutTo, swap -/
/-- how many words are cut off -/
def cutc (v : Nat) (most : Int) : Nat := ((((xbl v + 31) / 32 : Nat) : Int) - most).toNat
theorem uvself {V : Nat → Nat} {k : Nat} : uv V k (V k) = V := by
  funext j
  rw [uv_e]
  split
  · rename_i e; rw [e]
  · rfl
section
variable {w0 w : xW} {L Z : Nat} {S : Nat → Nat → Int} {V : Nat → Nat} {d h t r : Nat}
set_option maxHeartbeats 4000000 in
theorem x_cut {most : Int} (hR : cX w0 L Z S V w) (hh : kd h = 3) (hcu : S 79 4 = 0 ∨ S 79 4 = 1) (hm : 0 ≤ most ∧ most ≤ 20000000) : ∃ w', xRun (d + 4) 84 [Value.ref 79, Value.ref h, Value.int (Int32.ofInt most)] w (.inl (some (.int (Int32.ofInt (32 * ((cutc (V h) most : Nat) : Int)))))) w' ∧ cX w0 L Z (u2 S 79 4 (orI (S 79 4) (nany (V h) (32 * ((cutc (V h) most : Nat) : Int)) = true))) (uv V h (V h / 2 ^ (32 * cutc (V h) most))) w' := by
  have key : ∀ lv, xld lv 0 = some (Value.ref 79) → xld lv 1 = some (Value.ref h) → xld lv 2 = some (Value.int (Int32.ofInt most)) → xEv (d + 4) 84 0 lv [] w (fun o w' => o = .inl (some (.int (Int32.ofInt (32 * ((cutc (V h) most : Nat) : Int))))) ∧ cX w0 L Z (u2 S 79 4 (orI (S 79 4) (nany (V h) (32 * ((cutc (V h) most : Nat) : Int)) = true))) (uv V h (V h / 2 ^ (32 * cutc (V h) most))) w') := by
    intro lv l0 l1 l2
    refine i_84_0 (x := h) l1 ?_
    obtain ⟨a1, hsz, hz1⟩ := hR.size (h := h) (u := V h) hh (rfl)
    refine i_84_1 (v := Value.int (Int32.ofInt (((xbl (V h) + 31) / 32 : Nat) : Int))) hsz rfl ?_
    refine i_84_4 (x := Int32.ofInt most) l2 ?_
    refine i_84_5 (c := Int32.ofInt ((((xbl (V h) + 31) / 32 : Nat) : Int) - most)) (o_sub (((xbl (V h) + 31) / 32 : Nat) : Int) most) ?_
    obtain ⟨c, hc⟩ : ∃ c : Int, c = (((xbl (V h) + 31) / 32 : Nat) : Int) - most := ⟨_, rfl⟩
    rw [← hc]
    have hct : cutc (V h) most = c.toNat := by unfold cutc; rw [hc]
    have hsb : xbl (V h) ≤ 1280000 := by obtain ⟨a, -, hz⟩ := hR.size hh rfl; exact hz
    rw [hct]
    by_cases hc0 : c ≤ 0
    · refine i_84_6 rfl ?_
      refine lgen1 (i := 3) (v := Value.int (Int32.ofInt c)) (fun lv lg ls => ?_)
      replace l0 := lg 0 _ rfl rfl l0
      replace l1 := lg 1 _ rfl rfl l1
      replace l2 := lg 2 _ rfl rfl l2
      have l3 := ls
      refine i_84_7 (x := Int32.ofInt c) l3 ?_
      refine i_84_8 (z_gt (a := c) ⟨by omega, by omega⟩ fun c10 => absurd c10 (by omega)) (z_le (a := c) ⟨by omega, by omega⟩ fun c10 => ?_)
      refine i_84_11 ?_
      refine i_84_12 ?_
      refine ⟨by rw [show c.toNat = 0 by omega]; rfl, ?_⟩
      rw [show c.toNat = 0 by omega, Nat.mul_zero, Nat.pow_zero, Nat.div_one, uvself, show orI (S 79 4) (nany (V h) (32 * ((0 : Nat) : Int)) = true) = S 79 4 from ?_, u2self]
      · exact hR
      · rw [nany_0 (by omega)]; unfold orI; rcases hcu with g | g <;> rw [g] <;> rfl
    · obtain ⟨n, rfl⟩ : ∃ n : Nat, c = (n : Int) := ⟨c.toNat, by omega⟩
      rw [show ((n : Int)).toNat = n from rfl]
      refine i_84_6 rfl ?_
      refine lgen1 (i := 3) (v := Value.int (Int32.ofInt (n : Int))) (fun lv lg ls => ?_)
      replace l0 := lg 0 _ rfl rfl l0
      replace l1 := lg 1 _ rfl rfl l1
      replace l2 := lg 2 _ rfl rfl l2
      have l3 := ls
      refine i_84_7 (x := Int32.ofInt (n : Int)) l3 ?_
      refine i_84_8 (z_gt (a := (n : Int)) ⟨by omega, by omega⟩ fun c30 => ?_) (z_le (a := (n : Int)) ⟨by omega, by omega⟩ fun c30 => absurd c30 (by omega))
      refine i_84_13 (x := 79) l0 ?_
      refine i_84_14 (x := 79) l0 ?_
      refine i_84_15 (v := Value.int (Int32.ofInt (S 79 4))) (hR.k6 kq_79) rfl ?_
      refine i_84_18 (z_ne (a := S 79 4) ⟨by omega, by omega⟩ fun c31 => ?_) (z_eq (a := S 79 4) ⟨by omega, by omega⟩ fun c31 => ?_)
      · refine i_84_32 ?_
        refine i_84_33 ?_
        refine i_84_37 (fs2 := f6 (u1 (S 79) 4 1)) (hR.k6 kq_79) rfl (Nat.le_of_ble_eq_true rfl) rfl (h7k kq_79 (by decide)) ?_
        refine xgen (P := cX w0 L Z (u2 S 79 4 1) V) (hR.p6 kq_79) (fun w hR => ?_)
        refine i_84_40 (x := h) l1 ?_
        refine i_84_41 (x := Int32.ofInt (n : Int)) l3 ?_
        obtain ⟨fs, hobj⟩ := hR.nat hh
        obtain ⟨w, hrun, hR⟩ := X_drop (d := d + 2) (h := h) (u := V h) (t := n) hR hh (rfl) (by omega)
        refine i_84_42 hobj (Nat.le_of_ble_eq_true rfl) hrun ?_
        refine i_84_45 ?_
        refine i_84_47 (x := Int32.ofInt (n : Int)) l3 ?_
        refine i_84_48 (c := Int32.ofInt (32 * (n : Int))) (o_mul 32 (n : Int)) ?_
        refine i_84_49 ?_
        refine ⟨rfl, ?_⟩
        have e4 : orI (S 79 4) (nany (V h) (32 * (n : Int)) = true) = 1 := by unfold orI; rw [if_pos (by first | exact Or.inl ‹S 79 4 ≠ 0› | exact Or.inr ‹nany (V h) (32 * (n : Int)) = true›)]
        rw [e4]
        exact hR
      · refine i_84_21 (x := h) l1 ?_
        refine i_84_22 ?_
        refine i_84_24 (x := Int32.ofInt (n : Int)) l3 ?_
        refine i_84_25 (c := Int32.ofInt (32 * (n : Int))) (o_mul 32 (n : Int)) ?_
        obtain ⟨fs, hobj⟩ := hR.nat hh
        have hrun := X_any (d := d + 1) (h := h) (u := V h) (p := 32 * (n : Int)) hR hh (rfl) ⟨by omega, by omega⟩
        refine i_84_26 hobj (Nat.le_of_ble_eq_true rfl) hrun ?_
        refine i_84_29 (zb_f fun c32 => ?_) (zb_t fun c32 => ?_)
        · refine i_84_36 ?_
          refine i_84_37 (fs2 := f6 (u1 (S 79) 4 0)) (hR.k6 kq_79) rfl (Nat.le_of_ble_eq_true rfl) rfl (h7k kq_79 (by decide)) ?_
          refine xgen (P := cX w0 L Z (u2 S 79 4 0) V) (hR.p6 kq_79) (fun w hR => ?_)
          refine i_84_40 (x := h) l1 ?_
          refine i_84_41 (x := Int32.ofInt (n : Int)) l3 ?_
          obtain ⟨fs, hobj⟩ := hR.nat hh
          obtain ⟨w, hrun, hR⟩ := X_drop (d := d + 2) (h := h) (u := V h) (t := n) hR hh (rfl) (by omega)
          refine i_84_42 hobj (Nat.le_of_ble_eq_true rfl) hrun ?_
          refine i_84_45 ?_
          refine i_84_47 (x := Int32.ofInt (n : Int)) l3 ?_
          refine i_84_48 (c := Int32.ofInt (32 * (n : Int))) (o_mul 32 (n : Int)) ?_
          refine i_84_49 ?_
          refine ⟨rfl, ?_⟩
          have e4 : orI (S 79 4) (nany (V h) (32 * (n : Int)) = true) = 0 := by unfold orI; rw [if_neg (by rintro (e | e); exact e ‹S 79 4 = 0›; rw [‹nany (V h) (32 * (n : Int)) = false›] at e; exact absurd e (by decide))]
          rw [e4]
          exact hR
        · refine i_84_32 ?_
          refine i_84_33 ?_
          refine i_84_37 (fs2 := f6 (u1 (S 79) 4 1)) (hR.k6 kq_79) rfl (Nat.le_of_ble_eq_true rfl) rfl (h7k kq_79 (by decide)) ?_
          refine xgen (P := cX w0 L Z (u2 S 79 4 1) V) (hR.p6 kq_79) (fun w hR => ?_)
          refine i_84_40 (x := h) l1 ?_
          refine i_84_41 (x := Int32.ofInt (n : Int)) l3 ?_
          obtain ⟨fs, hobj⟩ := hR.nat hh
          obtain ⟨w, hrun, hR⟩ := X_drop (d := d + 2) (h := h) (u := V h) (t := n) hR hh (rfl) (by omega)
          refine i_84_42 hobj (Nat.le_of_ble_eq_true rfl) hrun ?_
          refine i_84_45 ?_
          refine i_84_47 (x := Int32.ofInt (n : Int)) l3 ?_
          refine i_84_48 (c := Int32.ofInt (32 * (n : Int))) (o_mul 32 (n : Int)) ?_
          refine i_84_49 ?_
          refine ⟨rfl, ?_⟩
          have e4 : orI (S 79 4) (nany (V h) (32 * (n : Int)) = true) = 1 := by unfold orI; rw [if_pos (by first | exact Or.inl ‹S 79 4 ≠ 0› | exact Or.inr ‹nany (V h) (32 * (n : Int)) = true›)]
          rw [e4]
          exact hR
  obtain ⟨o, w', h1, rfl, h2⟩ := (key (lv_args 0 [Value.ref 79, Value.ref h, Value.int (Int32.ofInt most)]) rfl rfl rfl).run
  exact ⟨w', h1, h2⟩
theorem x_swap {hv hs : Nat} (hR : cX w0 L Z S V w) (e0 : S 79 0 = (hv : Int)) (e1 : S 79 1 = (hs : Int)) : ∃ w', xRun (d + 0) 86 [Value.ref 79] w (.inl none) w' ∧ cX w0 L Z (u2 (u2 S 79 0 (hs : Int)) 79 1 (hv : Int)) V w' := by
  have key : ∀ lv, xld lv 0 = some (Value.ref 79) → xEv (d + 0) 86 0 lv [] w (fun o w' => o = .inl none ∧ cX w0 L Z (u2 (u2 S 79 0 (hs : Int)) 79 1 (hv : Int)) V w') := by
    intro lv l0
    refine i_86_0 (x := 79) l0 ?_
    refine i_86_1 (v := Value.ref (S 79 0).toNat) (hR.k6 kq_79) rfl ?_
    rw [show (S 79 0).toNat = hv by rw [e0]; rfl]
    refine i_86_4 rfl ?_
    refine lgen1 (i := 1) (v := Value.ref hv) (fun lv lg ls => ?_)
    replace l0 := lg 0 _ rfl rfl l0
    have l1 := ls
    refine i_86_5 (x := 79) l0 ?_
    refine i_86_6 (x := 79) l0 ?_
    refine i_86_7 (v := Value.ref (S 79 1).toNat) (hR.k6 kq_79) rfl ?_
    rw [show (S 79 1).toNat = hs by rw [e1]; rfl]
    refine i_86_10 (fs2 := f6 (u1 (S 79) 0 (hs : Int))) (hR.k6 kq_79) (Nat.le_of_ble_eq_true rfl) rfl (h7k kq_79 (by decide)) ?_
    refine xgen (P := cX w0 L Z (u2 S 79 0 (hs : Int)) V) (hR.p6 kq_79) (fun w hR => ?_)
    refine i_86_13 (x := 79) l0 ?_
    refine i_86_14 (x := hv) l1 ?_
    refine i_86_15 (fs2 := f6 (u1 ((u2 S 79 0 (hs : Int)) 79) 1 (hv : Int))) (hR.k6 kq_79) (Nat.le_of_ble_eq_true rfl) rfl (h7k kq_79 (by decide)) ?_
    refine xgen (P := cX w0 L Z (u2 (u2 S 79 0 (hs : Int)) 79 1 (hv : Int)) V) (hR.p6 kq_79) (fun w hR => ?_)
    refine i_86_18 ?_
    exact ⟨rfl, hR⟩
  obtain ⟨o, w', h1, rfl, h2⟩ := (key (lv_args 0 [Value.ref 79]) rfl).run
  exact ⟨w', h1, h2⟩
end
