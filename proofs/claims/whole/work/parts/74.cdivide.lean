/-! divide of the class's division, from its begin -/
theorem shf_p {u s : Nat} : shf u (s : Int) = u * 2 ^ s := by
  unfold shf
  rw [if_pos (by omega)]
  rfl
section
variable {w0 w : xW} {L Z : Nat} {S : Nat → Nat → Int} {V : Nat → Nat} {d h r : Nat} {v : Int}
theorem X_divide {hx hy : Nat} (hR : cX w0 L Z S V w) (kx : kd hx = 3) (ky : kd hy = 3) (x1 : hx ≠ 87) (x2 : hx ≠ 89) (x3 : hx ≠ 91) (y1 : hy ≠ 87) (y2 : hy ≠ 89) (y3 : hy ≠ 91) (y0 : V hy ≠ 0) (bx : xbl (V hx) ≤ 600000) (bY : xbl (V hy) ≤ 600000) : ∃ w', xRun (d + 4) 72 [.ref 86, .ref hx, .ref hy] w (.inl none) w' ∧ ∃ z, cX w0 L Z S (uv (uv (uv V 87 (V hx / V hy)) 91 z) 89 (V hx % V hy)) w' := by
  have hy1 := (xbl_of y0).2.2
  have key : ∀ lv, xld lv 0 = some (.ref 86) → xld lv 1 = some (.ref hx) → xld lv 2 = some (.ref hy) → xEv (d + 4) 72 0 lv [] w (fun o w' => o = .inl none ∧ ∃ z, cX w0 L Z S (uv (uv (uv V 87 (V hx / V hy)) 91 z) 89 (V hx % V hy)) w') := by
    intro lv l0 l1 l2
    refine i_72_0 (x := 86) l0 ?_
    refine i_72_1 (v := Value.ref 87) (hR.k7 kq_86) rfl ?_
    refine i_72_4 ?_
    obtain ⟨a_, v_, hsz, hR⟩ := hR.zero (h := 87) kq_87
    refine i_72_5 hsz (Nat.le_of_ble_eq_true rfl) rfl (h7k kq_87 (by decide)) ?_
    refine xgen (P := cX w0 L Z S (uv V 87 0)) hR (fun w hR => ?_)
    refine i_72_8 (x := 86) l0 ?_
    refine i_72_9 (v := Value.ref 89) (hR.k7 kq_86) rfl ?_
    refine i_72_12 (x := hx) l1 ?_
    obtain ⟨fs, hobj⟩ := hR.nat kq_89
    obtain ⟨w, hrun, hR⟩ := X_set (d := d) (h := 89) (h2 := hx) (u := V hx) hR kq_89 kx (by omega) ((uv_n (by omega)).trans (rfl)) (by omega)
    refine i_72_13 hobj (Nat.le_of_ble_eq_true rfl) hrun ?_
    refine i_72_16 (x := hy) l2 ?_
    obtain ⟨a1, hsz, hz1⟩ := hR.size (h := hy) (u := V hy) ky ((uv_n (by omega)).trans ((uv_n (by omega)).trans (rfl)))
    refine i_72_17 (v := Value.int (Int32.ofInt (((xbl (V hy) + 31) / 32 : Nat) : Int))) hsz rfl ?_
    refine i_72_20 rfl ?_
    refine lgen1 (i := 3) (v := Value.int (Int32.ofInt (((xbl (V hy) + 31) / 32 : Nat) : Int))) (fun lv lg ls => ?_)
    replace l0 := lg 0 _ rfl rfl l0
    replace l1 := lg 1 _ rfl rfl l1
    replace l2 := lg 2 _ rfl rfl l2
    have l3 := ls
    refine i_72_21 (x := Int32.ofInt (((xbl (V hy) + 31) / 32 : Nat) : Int)) l3 ?_
    refine i_72_22 (z_eq (a := (((xbl (V hy) + 31) / 32 : Nat) : Int)) ⟨by omega, by omega⟩ fun c1 => absurd c1 (by omega)) (z_ne (a := (((xbl (V hy) + 31) / 32 : Nat) : Int)) ⟨by omega, by omega⟩ fun c1 => ?_)
    refine i_72_25 (x := hx) l1 ?_
    obtain ⟨a3, hsz, hz3⟩ := hR.size (h := hx) (u := V hx) kx ((uv_n (by omega)).trans ((uv_n (by omega)).trans (rfl)))
    refine i_72_26 (v := Value.int (Int32.ofInt (((xbl (V hx) + 31) / 32 : Nat) : Int))) hsz rfl ?_
    refine i_72_29 (x := Int32.ofInt (((xbl (V hy) + 31) / 32 : Nat) : Int)) l3 ?_
    refine i_72_30 (b_le (a := (((xbl (V hy) + 31) / 32 : Nat) : Int)) (b := (((xbl (V hx) + 31) / 32 : Nat) : Int)) ⟨by omega, by omega⟩ ⟨by omega, by omega⟩ fun c3 => ?_) (b_lt (a := (((xbl (V hx) + 31) / 32 : Nat) : Int)) (b := (((xbl (V hy) + 31) / 32 : Nat) : Int)) ⟨by omega, by omega⟩ ⟨by omega, by omega⟩ fun c3 => ?_)
    · refine i_72_34 ?_
      refine i_72_36 (x := Int32.ofInt (((xbl (V hy) + 31) / 32 : Nat) : Int)) l3 ?_
      refine i_72_37 (c := Int32.ofInt (32 * (((xbl (V hy) + 31) / 32 : Nat) : Int))) (o_mul 32 (((xbl (V hy) + 31) / 32 : Nat) : Int)) ?_
      refine i_72_38 (x := hy) l2 ?_
      obtain ⟨fs, hobj⟩ := hR.nat ky
      have hrun := X_bits (d := d + 2) (h := hy) (u := V hy) hR ky ((uv_n (by omega)).trans ((uv_n (by omega)).trans (rfl)))
      refine i_72_39 hobj (Nat.le_of_ble_eq_true rfl) hrun ?_
      refine i_72_42 (c := Int32.ofInt ((32 * (((xbl (V hy) + 31) / 32 : Nat) : Int)) - (xbl (V hy) : Int))) (o_sub (32 * (((xbl (V hy) + 31) / 32 : Nat) : Int)) (xbl (V hy) : Int)) ?_
      obtain ⟨s, hs⟩ : ∃ s : Nat, (s : Int) = (32 * (((xbl (V hy) + 31) / 32 : Nat) : Int)) - (xbl (V hy) : Int) := ⟨((32 * (((xbl (V hy) + 31) / 32 : Nat) : Int)) - (xbl (V hy) : Int)).toNat, by omega⟩
      rw [← hs]
      have hxp : xbl (V hx * 2 ^ s) ≤ 610000 := by have := xbl_powle (V hx) s; omega
      have hxq : xbl (V hx) ≤ xbl (V hx * 2 ^ s) := by
        by_cases g : V hx = 0
        · rw [g, Nat.zero_mul]; exact Nat.le_refl _
        · rw [xbl_pow _ _ g]; omega
      refine i_72_43 rfl ?_
      refine lgen1 (i := 4) (v := Value.int (Int32.ofInt (s : Int))) (fun lv lg ls => ?_)
      replace l3 := lg 3 _ rfl rfl l3
      replace l0 := lg 0 _ rfl rfl l0
      replace l1 := lg 1 _ rfl rfl l1
      replace l2 := lg 2 _ rfl rfl l2
      have l4 := ls
      refine i_72_45 (x := 86) l0 ?_
      refine i_72_46 (v := Value.ref 91) (hR.k7 kq_86) rfl ?_
      refine i_72_49 (x := hy) l2 ?_
      refine i_72_50 (x := Int32.ofInt (s : Int)) l4 ?_
      obtain ⟨fs, hobj⟩ := hR.nat kq_91
      obtain ⟨w, hrun, hR⟩ := X_shift (d := d) (h := 91) (h2 := hy) (u := V hy) (k := (s : Int)) hR kq_91 ky ((uv_n (by omega)).trans ((uv_n (by omega)).trans (rfl))) (by omega) (by omega)
      refine i_72_52 hobj (Nat.le_of_ble_eq_true rfl) hrun ?_
      refine i_72_55 (x := 86) l0 ?_
      refine i_72_56 (v := Value.ref 89) (hR.k7 kq_86) rfl ?_
      refine i_72_59 (x := 86) l0 ?_
      refine i_72_60 (v := Value.ref 89) (hR.k7 kq_86) rfl ?_
      refine i_72_63 (x := Int32.ofInt (s : Int)) l4 ?_
      obtain ⟨fs, hobj⟩ := hR.nat kq_89
      obtain ⟨w, hrun, hR⟩ := X_shift (d := d) (h := 89) (h2 := 89) (u := V hx) (k := (s : Int)) hR kq_89 kq_89 ((uv_n (by omega)).trans (uv_s)) (by omega) (by omega)
      refine i_72_65 hobj (Nat.le_of_ble_eq_true rfl) hrun ?_
      refine dv_rest (d := d) (x := V hx) (y := V hy) (s := s) (n := (xbl (V hy) + 31) / 32) hR (by simp only [uv_e]; rfl) (by rw [uv_s, shf_p]) (by rw [uv_n (by decide), uv_s, shf_p]) y0 (by rw [xbl_pow _ _ y0]; omega) (by omega) (by omega) hxp (by omega) l0 l3 l4 (fun w' hX => ⟨rfl, shf (V hy) (s : Int), hX.cong (fun k _ => ?_)⟩)
      simp only [uv_e]
      grind
    · refine i_72_33 ?_
      have hlt : V hx < V hy := xbl_lt' (by omega) y0
      refine ⟨rfl, V 91, hR.cong (fun k _ => ?_)⟩
      rw [Nat.div_eq_of_lt hlt, Nat.mod_eq_of_lt hlt]
      simp only [uv_e]
      grind
  obtain ⟨o, w', h1, rfl, h2⟩ := (key (lv_args 0 [.ref 86, .ref hx, .ref hy]) rfl rfl rfl).run
  exact ⟨w', h1, h2⟩
end
