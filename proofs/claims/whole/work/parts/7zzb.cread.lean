/-! reading: understands -/
theorem rdS_bc {t : Nat → Int} {rx n : Nat} : ∀ (f a : Nat) (pt : Int) (c b v : Nat), (pt = 0 ∨ pt = 1) → b ≤ c → (rdS t rx n f a pt c b v).2.2.1 ≤ (rdS t rx n f a pt c b v).2.1
  | 0, _, _, _, _, _, _, h => h
  | f + 1, a, pt, c, b, v, hp, h => by
    rw [rdS]
    split
    · exact h
    · split
      · exact rdS_bc f _ _ _ _ _ (Or.inr rfl) h
      · split
        · exact h
        · exact rdS_bc f _ _ _ _ _ hp (by omega)
def unP (S : Nat → Nat → Int) (V : Nat → Nat) (S' : Nat → Nat → Int) (V' : Nat → Nat) (rx : Nat) (x : Option (Int × Int × Nat × Int)) : Prop := (∀ b j, b ≠ 108 → S' b j = S b j) ∧ (∀ i, i ≠ 109 → V' i = V i) ∧ S' 108 4 = (rx : Int) ∧
  ∀ k sg v sh, x = some (k, sg, v, sh) → S' 108 5 = k ∧ S' 108 6 = sg ∧ (2 ≤ k → V' 109 = v ∧ S' 108 8 = sh ∧ ∃ sig : Nat, S' 108 7 = (sig : Int) ∧ v < rx ^ sig ∧ (sig = 0 ∨ rx ^ (sig - 1) ≤ v) ∧ xbl v ≤ 24576 ∧ sig ≤ 4096 ∧ -1004096 ≤ sh ∧ sh ≤ 1000000)
section
variable {w0 w : xW} {L Z : Nat} {S : Nat → Nat → Int} {V : Nat → Nat} {d rx n : Nat}
set_option maxHeartbeats 8000000 in
theorem x_und (hR : cX w0 L Z S V w) (hW1 : wrdC w0 1 110 97 110) (hW3 : wrdC w0 3 105 110 102) (hr : 2 ≤ rx ∧ rx ≤ 36) (hB : ∀ j, -128 ≤ S 29 j ∧ S 29 j ≤ 127) (hn : n ≤ 4096) : ∃ w', xRun (d + 6) 143 [Value.ref 108, Value.ref 29, Value.int (Int32.ofInt (n : Int)), Value.int (Int32.ofInt (rx : Int))] w (.inl (some (.int (Int32.ofInt (bb (unS (S 29) rx n).isSome))))) w' ∧ ∃ S' V', cX w0 L Z S' V' w' ∧ unP S V S' V' rx (unS (S 29) rx n) := by
  have key : ∀ lv, xld lv 0 = some (Value.ref 108) → xld lv 1 = some (Value.ref 29) → xld lv 2 = some (Value.int (Int32.ofInt (n : Int))) → xld lv 3 = some (Value.int (Int32.ofInt (rx : Int))) → xEv (d + 6) 143 0 lv [] w (fun o w' => o = .inl (some (.int (Int32.ofInt (bb (unS (S 29) rx n).isSome)))) ∧ ∃ S' V', cX w0 L Z S' V' w' ∧ unP S V S' V' rx (unS (S 29) rx n)) := by
    intro lv l0 l1 l2 l3
    obtain ⟨t0, ht0d⟩ : ∃ t0, t0 = S 29 0 := ⟨_, rfl⟩
    have ht0 : -128 ≤ t0 ∧ t0 ≤ 127 := by rw [ht0d]; exact hB 0
    refine i_143_0 (x := 108) l0 ?_
    refine i_143_1 (x := Int32.ofInt (rx : Int)) l3 ?_
    refine i_143_2 (fs2 := f10 (u1 (S 108) 4 (rx : Int))) (hR.k10 kq_108) (Nat.le_of_ble_eq_true rfl) rfl (h7k kq_108 (by decide)) ?_
    refine xgen (P := cX w0 L Z (u2 S 108 4 (rx : Int)) V) (hR.p10 kq_108) (fun w hR => ?_)
    refine i_143_5 (x := 108) l0 ?_
    refine i_143_6 ?_
    refine i_143_7 (fs2 := f10 (u1 ((u2 S 108 4 (rx : Int)) 108) 6 0)) (hR.k10 kq_108) rfl (Nat.le_of_ble_eq_true rfl) rfl (h7k kq_108 (by decide)) ?_
    refine xgen (P := cX w0 L Z (u2 (u2 S 108 4 (rx : Int)) 108 6 0) V) (hR.p10 kq_108) (fun w hR => ?_)
    refine i_143_10 (x := 29) l1 ?_
    refine i_143_11 ?_
    refine i_143_12 (x := Int32.ofInt (n : Int)) l2 ?_
    refine i_143_13 ?_
    have hrun := hW1 (d) L Z (u2 (u2 S 108 4 (rx : Int)) 108 6 0) V w 0 n hR hB hn (by omega)
    rw [show Int32.ofInt ((0 : Nat) : Int) = 0 from rfl, show (u2 (u2 S 108 4 (rx : Int)) 108 6 0) 29 = S 29 from rfl] at hrun
    refine i_143_15 (Nat.le_of_ble_eq_true rfl) hrun ?_
    refine i_143_18 (zb_f fun c0 => ?_) (zb_t fun c0 => ?_)
    · refine i_143_28 ?_
      refine i_143_29 rfl ?_
      refine lgen1 (i := 4) (v := Value.int 0) (fun lv lg ls => ?_)
      replace l0 := lg 0 _ rfl rfl l0
      replace l1 := lg 1 _ rfl rfl l1
      replace l2 := lg 2 _ rfl rfl l2
      replace l3 := lg 3 _ rfl rfl l3
      have l4 := ls
      refine i_143_31 (x := Int32.ofInt (n : Int)) l2 ?_
      refine i_143_32 (z_le (a := (n : Int)) ⟨by omega, by omega⟩ fun c1 => ?_) (z_gt (a := (n : Int)) ⟨by omega, by omega⟩ fun c1 => ?_)
      · refine i_143_64 (x := 29) l1 ?_
        refine i_143_65 (x := 0) l4 ?_
        refine i_143_67 (x := Int32.ofInt (n : Int)) l2 ?_
        refine i_143_68 ?_
        have hrun := hW3 (d) L Z (u2 (u2 S 108 4 (rx : Int)) 108 6 0) V w 0 n hR hB hn (by omega)
        rw [show Int32.ofInt ((0 : Nat) : Int) = 0 from rfl, show (u2 (u2 S 108 4 (rx : Int)) 108 6 0) 29 = S 29 from rfl] at hrun
        refine i_143_70 (Nat.le_of_ble_eq_true rfl) hrun ?_
        refine i_143_73 (zb_f fun c2 => ?_) (zb_t fun c2 => ?_)
        · refine i_143_83 (x := 108) l0 ?_
          refine i_143_84 (x := 29) l1 ?_
          refine i_143_85 (x := 0) l4 ?_
          refine i_143_87 (x := Int32.ofInt (n : Int)) l2 ?_
          have hobj := hR.k10 kq_108
          have hr4 : (u2 (u2 S 108 4 (rx : Int)) 108 6 0) 108 4 = (rx : Int) := by rw [u2_eq, if_neg (fun e => absurd e.2 (by decide)), u2_eq, if_pos ⟨rfl, rfl⟩]
          obtain ⟨w, hrun, T1, U1, sig, hR, g1, g2, g3, g4, g5, g6, g7⟩ := x_td (d := d) (rx := rx) (n := n) (a0 := 0) hR hr hB hn hr4 (by omega)
          rw [show Int32.ofInt ((0 : Nat) : Int) = 0 from rfl] at hrun
          have hbc := rdS_bc (t := S 29) (rx := rx) (n := n) (n - 0) 0 0 0 0 0 (Or.inl rfl) (Nat.le_refl _)
          obtain ⟨r, er⟩ : ∃ r, r = rdS (S 29) rx n (n - 0) 0 0 0 0 0 := ⟨_, rfl⟩
          rw [show rdS ((u2 (u2 S 108 4 (rx : Int)) 108 6 0) 29) rx n (n - 0) 0 0 0 0 0 = r from er.symm] at hrun g1 g2 g3 g4 g5 g6 g7
          rw [← er] at hbc
          obtain ⟨ta, eta⟩ : ∃ ta : Int, ta = (if r.2.1 = 0 then -1 else ((r.1 : Nat) : Int)) := ⟨_, rfl⟩
          rw [← eta] at hrun
          have hta : (ta = -1 ∧ r.2.1 = 0) ∨ (ta = ((r.1 : Nat) : Int) ∧ r.2.1 ≠ 0) := by
            by_cases z : r.2.1 = 0
            · rw [if_pos z] at eta; exact Or.inl ⟨eta, z⟩
            · rw [if_neg z] at eta; exact Or.inr ⟨eta, z⟩
          have et29 : T1 29 = S 29 := by funext j; exact g1.1 29 j (by omega)
          refine i_143_88 hobj (Nat.le_of_ble_eq_true rfl) hrun ?_
          refine i_143_91 rfl ?_
          refine lgen1 (i := 4) (v := Value.int (Int32.ofInt ta)) (fun lv lg ls => ?_)
          replace l0 := lg 0 _ rfl rfl l0
          replace l1 := lg 1 _ rfl rfl l1
          replace l2 := lg 2 _ rfl rfl l2
          replace l3 := lg 3 _ rfl rfl l3
          have l4 := ls
          refine i_143_93 (x := Int32.ofInt ta) l4 ?_
          refine i_143_95 (z_lt (a := ta) ⟨by omega, by omega⟩ fun c3 => ?_) (z_ge (a := ta) ⟨by omega, by omega⟩ fun c3 => ?_)
          · refine i_143_115 ?_
            refine i_143_116 rfl ?_
            have eo : unS (S 29) rx n = none := by unfold unS unS1; rw [if_neg (by rw [‹wrd (S 29) 0 n 110 97 110 = false›]; decide), if_neg (by rw [← ht0d]; simp at *; omega), if_neg (by rw [← ht0d]; simp at *; omega), if_neg (by rw [‹wrd (S 29) 0 n 105 110 102 = false›]; decide), ← er]; unfold unS2; rw [if_pos (by omega)]
            rw [eo]
            refine ⟨rfl, _, _, hR, fun b j hb => by rw [g1.1 b j (fun e => hb e.1), u2_eq, if_neg (fun e => hb e.1), u2_eq, if_neg (fun e => hb e.1)], fun i hi => g1.2.2.2.2 i hi, by rw [g1.1 108 4 (by omega), u2_eq, if_neg (fun e => absurd e.2 (by decide)), u2_eq, if_pos ⟨rfl, rfl⟩], fun k sg v sh hx => by simp at hx⟩
          · refine i_143_98 (x := Int32.ofInt ta) l4 ?_
            refine i_143_100 (x := Int32.ofInt (n : Int)) l2 ?_
            refine i_143_101 (b_le (a := (n : Int)) (b := ta) ⟨by omega, by omega⟩ ⟨by omega, by omega⟩ fun c4 => ?_) (b_lt (a := ta) (b := (n : Int)) ⟨by omega, by omega⟩ ⟨by omega, by omega⟩ fun c4 => ?_)
            · refine i_143_117 (x := 108) l0 ?_
              refine i_143_118 (x := 108) l0 ?_
              refine i_143_119 (v := Value.ref 109) (hR.k10 kq_108) rfl ?_
              obtain ⟨a6, hsz, hz6⟩ := hR.size (h := 109) (u := U1 109) kq_109 (rfl)
              refine i_143_122 (v := Value.int (Int32.ofInt (((xbl (U1 109) + 31) / 32 : Nat) : Int))) hsz rfl ?_
              refine i_143_125 (z_ne (a := (((xbl (U1 109) + 31) / 32 : Nat) : Int)) ⟨by omega, by omega⟩ fun c6 => ?_) (z_eq (a := (((xbl (U1 109) + 31) / 32 : Nat) : Int)) ⟨by omega, by omega⟩ fun c6 => ?_)
              · refine i_143_132 ?_
                refine i_143_133 (fs2 := f10 (u1 (T1 108) 5 3)) (hR.k10 kq_108) (Nat.le_of_ble_eq_true rfl) rfl (h7k kq_108 (by decide)) ?_
                refine xgen (P := cX w0 L Z (u2 T1 108 5 3) U1) (hR.p10 kq_108) (fun w hR => ?_)
                refine i_143_136 ?_
                refine i_143_137 rfl ?_
                have hz0 : ¬ r.2.2.2 = 0 := by
                  have hsz9 := ‹(((xbl (U1 109) + 31) / 32 : Nat) : Int) ≠ 0›
                  rw [g1.2.2.2.1] at hsz9
                  exact fun e => hsz9 (by rw [e, xbl_zero]; rfl)
                have eo : unS (S 29) rx n = some (3, 0, r.2.2.2, -((r.2.2.1 : Nat) : Int)) := by unfold unS unS1; rw [if_neg (by rw [‹wrd (S 29) 0 n 110 97 110 = false›]; decide), if_neg (by rw [← ht0d]; simp at *; omega), if_neg (by rw [← ht0d]; simp at *; omega), if_neg (by rw [‹wrd (S 29) 0 n 105 110 102 = false›]; decide), ← er]; unfold unS2; rw [if_neg (by omega), if_neg (by omega), if_neg (by exact hz0)]
                rw [eo]
                refine ⟨rfl, _, _, hR, fun b j hb => by rw [u2_eq, if_neg (fun e => hb e.1), g1.1 b j (fun e => hb e.1), u2_eq, if_neg (fun e => hb e.1), u2_eq, if_neg (fun e => hb e.1)], fun i hi => g1.2.2.2.2 i hi, by rw [u2_eq, if_neg (fun e => absurd e.2 (by decide)), g1.1 108 4 (by omega), u2_eq, if_neg (fun e => absurd e.2 (by decide)), u2_eq, if_pos ⟨rfl, rfl⟩], fun k sg v sh hx => ?_⟩
                injection hx with hx
                injection hx with h1 hx
                injection hx with h2 hx
                injection hx with h3 h4
                refine ⟨by rw [u2_eq, if_pos ⟨rfl, rfl⟩, ← h1], by rw [u2_eq, if_neg (fun e => absurd e.2 (by decide)), g1.1 108 6 (by omega), u2_eq, if_pos ⟨rfl, rfl⟩, ← h2], fun _ => ⟨by rw [g1.2.2.2.1, ← h3], by rw [← h4]; exact (by rw [u2_eq, if_neg (fun e => absurd e.2 (by decide)), g1.2.2.1]), sig, by rw [u2_eq, if_neg (fun e => absurd e.2 (by decide)), g1.2.1], by rw [← h3]; exact g2, by rw [← h3]; exact g3, by rw [← h3]; omega, by omega, by omega, by omega⟩⟩
              · refine i_143_128 ?_
                refine i_143_129 ?_
                refine i_143_133 (fs2 := f10 (u1 (T1 108) 5 2)) (hR.k10 kq_108) (Nat.le_of_ble_eq_true rfl) rfl (h7k kq_108 (by decide)) ?_
                refine xgen (P := cX w0 L Z (u2 T1 108 5 2) U1) (hR.p10 kq_108) (fun w hR => ?_)
                refine i_143_136 ?_
                refine i_143_137 rfl ?_
                have hz0 : r.2.2.2 = 0 := by
                  have hsz9 := ‹(((xbl (U1 109) + 31) / 32 : Nat) : Int) = 0›
                  rw [g1.2.2.2.1] at hsz9
                  exact xbl_nz.mp (by omega)
                have eo : unS (S 29) rx n = some (2, 0, r.2.2.2, -((r.2.2.1 : Nat) : Int)) := by unfold unS unS1; rw [if_neg (by rw [‹wrd (S 29) 0 n 110 97 110 = false›]; decide), if_neg (by rw [← ht0d]; simp at *; omega), if_neg (by rw [← ht0d]; simp at *; omega), if_neg (by rw [‹wrd (S 29) 0 n 105 110 102 = false›]; decide), ← er]; unfold unS2; rw [if_neg (by omega), if_neg (by omega), if_pos (by exact hz0)]
                rw [eo]
                refine ⟨rfl, _, _, hR, fun b j hb => by rw [u2_eq, if_neg (fun e => hb e.1), g1.1 b j (fun e => hb e.1), u2_eq, if_neg (fun e => hb e.1), u2_eq, if_neg (fun e => hb e.1)], fun i hi => g1.2.2.2.2 i hi, by rw [u2_eq, if_neg (fun e => absurd e.2 (by decide)), g1.1 108 4 (by omega), u2_eq, if_neg (fun e => absurd e.2 (by decide)), u2_eq, if_pos ⟨rfl, rfl⟩], fun k sg v sh hx => ?_⟩
                injection hx with hx
                injection hx with h1 hx
                injection hx with h2 hx
                injection hx with h3 h4
                refine ⟨by rw [u2_eq, if_pos ⟨rfl, rfl⟩, ← h1], by rw [u2_eq, if_neg (fun e => absurd e.2 (by decide)), g1.1 108 6 (by omega), u2_eq, if_pos ⟨rfl, rfl⟩, ← h2], fun _ => ⟨by rw [g1.2.2.2.1, ← h3], by rw [← h4]; exact (by rw [u2_eq, if_neg (fun e => absurd e.2 (by decide)), g1.2.2.1]), sig, by rw [u2_eq, if_neg (fun e => absurd e.2 (by decide)), g1.2.1], by rw [← h3]; exact g2, by rw [← h3]; exact g3, by rw [← h3]; omega, by omega, by omega, by omega⟩⟩
            · refine i_143_104 (x := 108) l0 ?_
              refine i_143_105 (x := 29) l1 ?_
              refine i_143_106 (x := Int32.ofInt ta) l4 ?_
              refine i_143_108 (x := Int32.ofInt (n : Int)) l2 ?_
              have hobj := hR.k10 kq_108
              rw [show ta = ((r.1 : Nat) : Int) by omega]
              obtain ⟨w, hrun, T2, hR, hx⟩ := x_te (d := d + 2) (n := n) (a0 := r.1) hR (by rw [et29]; exact hB) hn (by omega)
              rw [et29] at hrun hx
              refine i_143_109 hobj (Nat.le_of_ble_eq_true rfl) hrun ?_
              refine i_143_112 (zb_t fun c7 => ?_) (zb_f fun c7 => ?_)
              · refine i_143_117 (x := 108) l0 ?_
                refine i_143_118 (x := 108) l0 ?_
                refine i_143_119 (v := Value.ref 109) (hR.k10 kq_108) rfl ?_
                obtain ⟨a9, hsz, hz9⟩ := hR.size (h := 109) (u := U1 109) kq_109 (rfl)
                refine i_143_122 (v := Value.int (Int32.ofInt (((xbl (U1 109) + 31) / 32 : Nat) : Int))) hsz rfl ?_
                refine i_143_125 (z_ne (a := (((xbl (U1 109) + 31) / 32 : Nat) : Int)) ⟨by omega, by omega⟩ fun c9 => ?_) (z_eq (a := (((xbl (U1 109) + 31) / 32 : Nat) : Int)) ⟨by omega, by omega⟩ fun c9 => ?_)
                · refine i_143_132 ?_
                  refine i_143_133 (fs2 := f10 (u1 (T2 108) 5 3)) (hR.k10 kq_108) (Nat.le_of_ble_eq_true rfl) rfl (h7k kq_108 (by decide)) ?_
                  refine xgen (P := cX w0 L Z (u2 T2 108 5 3) U1) (hR.p10 kq_108) (fun w hR => ?_)
                  refine i_143_136 ?_
                  refine i_143_137 rfl ?_
                  obtain ⟨ev, hev⟩ := Option.isSome_iff_exists.mp ‹(exS (S 29) n r.1).isSome = true›
                  rw [hev] at hx
                  have hxe : T2 = u2 T1 108 8 (T1 108 8 + ev) := hx
                  have hevb := exS_b hev
                  have hz0 : ¬ r.2.2.2 = 0 := by
                    have hsz9 := ‹(((xbl (U1 109) + 31) / 32 : Nat) : Int) ≠ 0›
                    rw [g1.2.2.2.1] at hsz9
                    exact fun e => hsz9 (by rw [e, xbl_zero]; rfl)
                  have eo : unS (S 29) rx n = some (3, 0, r.2.2.2, -((r.2.2.1 : Nat) : Int) + ev) := by unfold unS unS1; rw [if_neg (by rw [‹wrd (S 29) 0 n 110 97 110 = false›]; decide), if_neg (by rw [← ht0d]; simp at *; omega), if_neg (by rw [← ht0d]; simp at *; omega), if_neg (by rw [‹wrd (S 29) 0 n 105 110 102 = false›]; decide), ← er]; unfold unS2; rw [if_neg (by omega), if_pos (by omega), hev]; dsimp only; rw [if_neg (by exact hz0)]
                  rw [eo]
                  refine ⟨rfl, _, _, hR, fun b j hb => by rw [u2_eq, if_neg (fun e => hb e.1), hxe, u2_eq, if_neg (fun e => hb e.1), g1.1 b j (fun e => hb e.1), u2_eq, if_neg (fun e => hb e.1), u2_eq, if_neg (fun e => hb e.1)], fun i hi => g1.2.2.2.2 i hi, by rw [u2_eq, if_neg (fun e => absurd e.2 (by decide)), hxe, u2_eq, if_neg (by omega), g1.1 108 4 (by omega), u2_eq, if_neg (fun e => absurd e.2 (by decide)), u2_eq, if_pos ⟨rfl, rfl⟩], fun k sg v sh hx => ?_⟩
                  injection hx with hx
                  injection hx with h1 hx
                  injection hx with h2 hx
                  injection hx with h3 h4
                  refine ⟨by rw [u2_eq, if_pos ⟨rfl, rfl⟩, ← h1], by rw [u2_eq, if_neg (fun e => absurd e.2 (by decide)), hxe, u2_eq, if_neg (by omega), g1.1 108 6 (by omega), u2_eq, if_pos ⟨rfl, rfl⟩, ← h2], fun _ => ⟨by rw [g1.2.2.2.1, ← h3], by rw [← h4]; exact (by rw [u2_eq, if_neg (fun e => absurd e.2 (by decide)), hxe, u2_eq, if_pos ⟨rfl, rfl⟩, g1.2.2.1]), sig, by rw [u2_eq, if_neg (fun e => absurd e.2 (by decide)), hxe, u2_eq, if_neg (by omega), g1.2.1], by rw [← h3]; exact g2, by rw [← h3]; exact g3, by rw [← h3]; omega, by omega, by omega, by omega⟩⟩
                · refine i_143_128 ?_
                  refine i_143_129 ?_
                  refine i_143_133 (fs2 := f10 (u1 (T2 108) 5 2)) (hR.k10 kq_108) (Nat.le_of_ble_eq_true rfl) rfl (h7k kq_108 (by decide)) ?_
                  refine xgen (P := cX w0 L Z (u2 T2 108 5 2) U1) (hR.p10 kq_108) (fun w hR => ?_)
                  refine i_143_136 ?_
                  refine i_143_137 rfl ?_
                  obtain ⟨ev, hev⟩ := Option.isSome_iff_exists.mp ‹(exS (S 29) n r.1).isSome = true›
                  rw [hev] at hx
                  have hxe : T2 = u2 T1 108 8 (T1 108 8 + ev) := hx
                  have hevb := exS_b hev
                  have hz0 : r.2.2.2 = 0 := by
                    have hsz9 := ‹(((xbl (U1 109) + 31) / 32 : Nat) : Int) = 0›
                    rw [g1.2.2.2.1] at hsz9
                    exact xbl_nz.mp (by omega)
                  have eo : unS (S 29) rx n = some (2, 0, r.2.2.2, -((r.2.2.1 : Nat) : Int) + ev) := by unfold unS unS1; rw [if_neg (by rw [‹wrd (S 29) 0 n 110 97 110 = false›]; decide), if_neg (by rw [← ht0d]; simp at *; omega), if_neg (by rw [← ht0d]; simp at *; omega), if_neg (by rw [‹wrd (S 29) 0 n 105 110 102 = false›]; decide), ← er]; unfold unS2; rw [if_neg (by omega), if_pos (by omega), hev]; dsimp only; rw [if_pos (by exact hz0)]
                  rw [eo]
                  refine ⟨rfl, _, _, hR, fun b j hb => by rw [u2_eq, if_neg (fun e => hb e.1), hxe, u2_eq, if_neg (fun e => hb e.1), g1.1 b j (fun e => hb e.1), u2_eq, if_neg (fun e => hb e.1), u2_eq, if_neg (fun e => hb e.1)], fun i hi => g1.2.2.2.2 i hi, by rw [u2_eq, if_neg (fun e => absurd e.2 (by decide)), hxe, u2_eq, if_neg (by omega), g1.1 108 4 (by omega), u2_eq, if_neg (fun e => absurd e.2 (by decide)), u2_eq, if_pos ⟨rfl, rfl⟩], fun k sg v sh hx => ?_⟩
                  injection hx with hx
                  injection hx with h1 hx
                  injection hx with h2 hx
                  injection hx with h3 h4
                  refine ⟨by rw [u2_eq, if_pos ⟨rfl, rfl⟩, ← h1], by rw [u2_eq, if_neg (fun e => absurd e.2 (by decide)), hxe, u2_eq, if_neg (by omega), g1.1 108 6 (by omega), u2_eq, if_pos ⟨rfl, rfl⟩, ← h2], fun _ => ⟨by rw [g1.2.2.2.1, ← h3], by rw [← h4]; exact (by rw [u2_eq, if_neg (fun e => absurd e.2 (by decide)), hxe, u2_eq, if_pos ⟨rfl, rfl⟩, g1.2.2.1]), sig, by rw [u2_eq, if_neg (fun e => absurd e.2 (by decide)), hxe, u2_eq, if_neg (by omega), g1.2.1], by rw [← h3]; exact g2, by rw [← h3]; exact g3, by rw [← h3]; omega, by omega, by omega, by omega⟩⟩
              · refine i_143_115 ?_
                refine i_143_116 rfl ?_
                have hnone : exS (S 29) n r.1 = none := by have h9 := ‹(exS (S 29) n r.1).isSome = false›; exact Option.isSome_eq_false_iff.mp h9 |> Option.isNone_iff_eq_none.mp
                rw [hnone] at hx
                have eo : unS (S 29) rx n = none := by unfold unS unS1; rw [if_neg (by rw [‹wrd (S 29) 0 n 110 97 110 = false›]; decide), if_neg (by rw [← ht0d]; simp at *; omega), if_neg (by rw [← ht0d]; simp at *; omega), if_neg (by rw [‹wrd (S 29) 0 n 105 110 102 = false›]; decide), ← er]; unfold unS2; rw [if_neg (by omega), if_pos (by omega), hnone]
                rw [eo]
                refine ⟨rfl, _, _, hR, fun b j hb => by rw [show T2 = T1 from hx, g1.1 b j (fun e => hb e.1), u2_eq, if_neg (fun e => hb e.1), u2_eq, if_neg (fun e => hb e.1)], fun i hi => g1.2.2.2.2 i hi, by rw [show T2 = T1 from hx, g1.1 108 4 (by omega), u2_eq, if_neg (fun e => absurd e.2 (by decide)), u2_eq, if_pos ⟨rfl, rfl⟩], fun k sg v sh hx => by simp at hx⟩
        · refine i_143_76 (x := 108) l0 ?_
          refine i_143_77 ?_
          refine i_143_78 (fs2 := f10 (u1 ((u2 (u2 S 108 4 (rx : Int)) 108 6 0) 108) 5 1)) (hR.k10 kq_108) (Nat.le_of_ble_eq_true rfl) rfl (h7k kq_108 (by decide)) ?_
          refine xgen (P := cX w0 L Z (u2 (u2 (u2 S 108 4 (rx : Int)) 108 6 0) 108 5 1) V) (hR.p10 kq_108) (fun w hR => ?_)
          refine i_143_81 ?_
          refine i_143_82 rfl ?_
          have eo : unS (S 29) rx n = some (1, 0, 0, 0) := by unfold unS unS1; rw [if_neg (by rw [‹wrd (S 29) 0 n 110 97 110 = false›]; decide), if_neg (by rw [← ht0d]; simp at *; omega), if_neg (by rw [← ht0d]; simp at *; omega), if_pos ‹_›]
          rw [eo]
          refine ⟨rfl, _, _, hR, fun b j hb => by rw [u2_eq, if_neg (fun e => hb e.1), u2_eq, if_neg (fun e => hb e.1), u2_eq, if_neg (fun e => hb e.1)], fun _ _ => rfl, by rw [u2_eq, if_neg (fun e => absurd e.2 (by decide)), u2_eq, if_neg (fun e => absurd e.2 (by decide)), u2_eq, if_pos ⟨rfl, rfl⟩], fun k sg v sh hx => ?_⟩
          injection hx with hx
          injection hx with h1 hx
          injection hx with h2 hx
          exact ⟨by rw [u2_eq, if_pos ⟨rfl, rfl⟩, ← h1], by rw [u2_eq, if_neg (fun e => absurd e.2 (by decide)), u2_eq, if_pos ⟨rfl, rfl⟩, ← h2], fun e => by omega⟩
      · refine i_143_35 (x := 29) l1 ?_
        refine i_143_36 ?_
        refine i_143_37 (v := Value.int (Int32.ofInt ((u2 (u2 S 108 4 (rx : Int)) 108 6 0) 29 0))) (hR.bytes (a := 29) (n := 4096) (by omega)) (by decide) (by decide) rfl ?_
        rw [show (u2 (u2 S 108 4 (rx : Int)) 108 6 0) 29 0 = t0 from ht0d.symm]
        have hrun := x_sig (d := d + 5) (w := w) (c := t0) ht0
        refine i_143_38 (Nat.le_of_ble_eq_true rfl) hrun ?_
        refine i_143_41 (zb_f fun c10 => ?_) (zb_t fun c10 => ?_)
        · refine i_143_64 (x := 29) l1 ?_
          refine i_143_65 (x := 0) l4 ?_
          refine i_143_67 (x := Int32.ofInt (n : Int)) l2 ?_
          refine i_143_68 ?_
          have hrun := hW3 (d) L Z (u2 (u2 S 108 4 (rx : Int)) 108 6 0) V w 0 n hR hB hn (by omega)
          rw [show Int32.ofInt ((0 : Nat) : Int) = 0 from rfl, show (u2 (u2 S 108 4 (rx : Int)) 108 6 0) 29 = S 29 from rfl] at hrun
          refine i_143_70 (Nat.le_of_ble_eq_true rfl) hrun ?_
          refine i_143_73 (zb_f fun c11 => ?_) (zb_t fun c11 => ?_)
          · refine i_143_83 (x := 108) l0 ?_
            refine i_143_84 (x := 29) l1 ?_
            refine i_143_85 (x := 0) l4 ?_
            refine i_143_87 (x := Int32.ofInt (n : Int)) l2 ?_
            have hobj := hR.k10 kq_108
            have hr4 : (u2 (u2 S 108 4 (rx : Int)) 108 6 0) 108 4 = (rx : Int) := by rw [u2_eq, if_neg (fun e => absurd e.2 (by decide)), u2_eq, if_pos ⟨rfl, rfl⟩]
            obtain ⟨w, hrun, T1, U1, sig, hR, g1, g2, g3, g4, g5, g6, g7⟩ := x_td (d := d) (rx := rx) (n := n) (a0 := 0) hR hr hB hn hr4 (by omega)
            rw [show Int32.ofInt ((0 : Nat) : Int) = 0 from rfl] at hrun
            have hbc := rdS_bc (t := S 29) (rx := rx) (n := n) (n - 0) 0 0 0 0 0 (Or.inl rfl) (Nat.le_refl _)
            obtain ⟨r, er⟩ : ∃ r, r = rdS (S 29) rx n (n - 0) 0 0 0 0 0 := ⟨_, rfl⟩
            rw [show rdS ((u2 (u2 S 108 4 (rx : Int)) 108 6 0) 29) rx n (n - 0) 0 0 0 0 0 = r from er.symm] at hrun g1 g2 g3 g4 g5 g6 g7
            rw [← er] at hbc
            obtain ⟨ta, eta⟩ : ∃ ta : Int, ta = (if r.2.1 = 0 then -1 else ((r.1 : Nat) : Int)) := ⟨_, rfl⟩
            rw [← eta] at hrun
            have hta : (ta = -1 ∧ r.2.1 = 0) ∨ (ta = ((r.1 : Nat) : Int) ∧ r.2.1 ≠ 0) := by
              by_cases z : r.2.1 = 0
              · rw [if_pos z] at eta; exact Or.inl ⟨eta, z⟩
              · rw [if_neg z] at eta; exact Or.inr ⟨eta, z⟩
            have et29 : T1 29 = S 29 := by funext j; exact g1.1 29 j (by omega)
            refine i_143_88 hobj (Nat.le_of_ble_eq_true rfl) hrun ?_
            refine i_143_91 rfl ?_
            refine lgen1 (i := 4) (v := Value.int (Int32.ofInt ta)) (fun lv lg ls => ?_)
            replace l0 := lg 0 _ rfl rfl l0
            replace l1 := lg 1 _ rfl rfl l1
            replace l2 := lg 2 _ rfl rfl l2
            replace l3 := lg 3 _ rfl rfl l3
            have l4 := ls
            refine i_143_93 (x := Int32.ofInt ta) l4 ?_
            refine i_143_95 (z_lt (a := ta) ⟨by omega, by omega⟩ fun c12 => ?_) (z_ge (a := ta) ⟨by omega, by omega⟩ fun c12 => ?_)
            · refine i_143_115 ?_
              refine i_143_116 rfl ?_
              have eo : unS (S 29) rx n = none := by unfold unS unS1; rw [if_neg (by rw [‹wrd (S 29) 0 n 110 97 110 = false›]; decide), if_neg (by rw [← ht0d]; simp at *; omega), if_neg (by rw [← ht0d]; simp at *; omega), if_neg (by rw [‹wrd (S 29) 0 n 105 110 102 = false›]; decide), ← er]; unfold unS2; rw [if_pos (by omega)]
              rw [eo]
              refine ⟨rfl, _, _, hR, fun b j hb => by rw [g1.1 b j (fun e => hb e.1), u2_eq, if_neg (fun e => hb e.1), u2_eq, if_neg (fun e => hb e.1)], fun i hi => g1.2.2.2.2 i hi, by rw [g1.1 108 4 (by omega), u2_eq, if_neg (fun e => absurd e.2 (by decide)), u2_eq, if_pos ⟨rfl, rfl⟩], fun k sg v sh hx => by simp at hx⟩
            · refine i_143_98 (x := Int32.ofInt ta) l4 ?_
              refine i_143_100 (x := Int32.ofInt (n : Int)) l2 ?_
              refine i_143_101 (b_le (a := (n : Int)) (b := ta) ⟨by omega, by omega⟩ ⟨by omega, by omega⟩ fun c13 => ?_) (b_lt (a := ta) (b := (n : Int)) ⟨by omega, by omega⟩ ⟨by omega, by omega⟩ fun c13 => ?_)
              · refine i_143_117 (x := 108) l0 ?_
                refine i_143_118 (x := 108) l0 ?_
                refine i_143_119 (v := Value.ref 109) (hR.k10 kq_108) rfl ?_
                obtain ⟨a15, hsz, hz15⟩ := hR.size (h := 109) (u := U1 109) kq_109 (rfl)
                refine i_143_122 (v := Value.int (Int32.ofInt (((xbl (U1 109) + 31) / 32 : Nat) : Int))) hsz rfl ?_
                refine i_143_125 (z_ne (a := (((xbl (U1 109) + 31) / 32 : Nat) : Int)) ⟨by omega, by omega⟩ fun c15 => ?_) (z_eq (a := (((xbl (U1 109) + 31) / 32 : Nat) : Int)) ⟨by omega, by omega⟩ fun c15 => ?_)
                · refine i_143_132 ?_
                  refine i_143_133 (fs2 := f10 (u1 (T1 108) 5 3)) (hR.k10 kq_108) (Nat.le_of_ble_eq_true rfl) rfl (h7k kq_108 (by decide)) ?_
                  refine xgen (P := cX w0 L Z (u2 T1 108 5 3) U1) (hR.p10 kq_108) (fun w hR => ?_)
                  refine i_143_136 ?_
                  refine i_143_137 rfl ?_
                  have hz0 : ¬ r.2.2.2 = 0 := by
                    have hsz9 := ‹(((xbl (U1 109) + 31) / 32 : Nat) : Int) ≠ 0›
                    rw [g1.2.2.2.1] at hsz9
                    exact fun e => hsz9 (by rw [e, xbl_zero]; rfl)
                  have eo : unS (S 29) rx n = some (3, 0, r.2.2.2, -((r.2.2.1 : Nat) : Int)) := by unfold unS unS1; rw [if_neg (by rw [‹wrd (S 29) 0 n 110 97 110 = false›]; decide), if_neg (by rw [← ht0d]; simp at *; omega), if_neg (by rw [← ht0d]; simp at *; omega), if_neg (by rw [‹wrd (S 29) 0 n 105 110 102 = false›]; decide), ← er]; unfold unS2; rw [if_neg (by omega), if_neg (by omega), if_neg (by exact hz0)]
                  rw [eo]
                  refine ⟨rfl, _, _, hR, fun b j hb => by rw [u2_eq, if_neg (fun e => hb e.1), g1.1 b j (fun e => hb e.1), u2_eq, if_neg (fun e => hb e.1), u2_eq, if_neg (fun e => hb e.1)], fun i hi => g1.2.2.2.2 i hi, by rw [u2_eq, if_neg (fun e => absurd e.2 (by decide)), g1.1 108 4 (by omega), u2_eq, if_neg (fun e => absurd e.2 (by decide)), u2_eq, if_pos ⟨rfl, rfl⟩], fun k sg v sh hx => ?_⟩
                  injection hx with hx
                  injection hx with h1 hx
                  injection hx with h2 hx
                  injection hx with h3 h4
                  refine ⟨by rw [u2_eq, if_pos ⟨rfl, rfl⟩, ← h1], by rw [u2_eq, if_neg (fun e => absurd e.2 (by decide)), g1.1 108 6 (by omega), u2_eq, if_pos ⟨rfl, rfl⟩, ← h2], fun _ => ⟨by rw [g1.2.2.2.1, ← h3], by rw [← h4]; exact (by rw [u2_eq, if_neg (fun e => absurd e.2 (by decide)), g1.2.2.1]), sig, by rw [u2_eq, if_neg (fun e => absurd e.2 (by decide)), g1.2.1], by rw [← h3]; exact g2, by rw [← h3]; exact g3, by rw [← h3]; omega, by omega, by omega, by omega⟩⟩
                · refine i_143_128 ?_
                  refine i_143_129 ?_
                  refine i_143_133 (fs2 := f10 (u1 (T1 108) 5 2)) (hR.k10 kq_108) (Nat.le_of_ble_eq_true rfl) rfl (h7k kq_108 (by decide)) ?_
                  refine xgen (P := cX w0 L Z (u2 T1 108 5 2) U1) (hR.p10 kq_108) (fun w hR => ?_)
                  refine i_143_136 ?_
                  refine i_143_137 rfl ?_
                  have hz0 : r.2.2.2 = 0 := by
                    have hsz9 := ‹(((xbl (U1 109) + 31) / 32 : Nat) : Int) = 0›
                    rw [g1.2.2.2.1] at hsz9
                    exact xbl_nz.mp (by omega)
                  have eo : unS (S 29) rx n = some (2, 0, r.2.2.2, -((r.2.2.1 : Nat) : Int)) := by unfold unS unS1; rw [if_neg (by rw [‹wrd (S 29) 0 n 110 97 110 = false›]; decide), if_neg (by rw [← ht0d]; simp at *; omega), if_neg (by rw [← ht0d]; simp at *; omega), if_neg (by rw [‹wrd (S 29) 0 n 105 110 102 = false›]; decide), ← er]; unfold unS2; rw [if_neg (by omega), if_neg (by omega), if_pos (by exact hz0)]
                  rw [eo]
                  refine ⟨rfl, _, _, hR, fun b j hb => by rw [u2_eq, if_neg (fun e => hb e.1), g1.1 b j (fun e => hb e.1), u2_eq, if_neg (fun e => hb e.1), u2_eq, if_neg (fun e => hb e.1)], fun i hi => g1.2.2.2.2 i hi, by rw [u2_eq, if_neg (fun e => absurd e.2 (by decide)), g1.1 108 4 (by omega), u2_eq, if_neg (fun e => absurd e.2 (by decide)), u2_eq, if_pos ⟨rfl, rfl⟩], fun k sg v sh hx => ?_⟩
                  injection hx with hx
                  injection hx with h1 hx
                  injection hx with h2 hx
                  injection hx with h3 h4
                  refine ⟨by rw [u2_eq, if_pos ⟨rfl, rfl⟩, ← h1], by rw [u2_eq, if_neg (fun e => absurd e.2 (by decide)), g1.1 108 6 (by omega), u2_eq, if_pos ⟨rfl, rfl⟩, ← h2], fun _ => ⟨by rw [g1.2.2.2.1, ← h3], by rw [← h4]; exact (by rw [u2_eq, if_neg (fun e => absurd e.2 (by decide)), g1.2.2.1]), sig, by rw [u2_eq, if_neg (fun e => absurd e.2 (by decide)), g1.2.1], by rw [← h3]; exact g2, by rw [← h3]; exact g3, by rw [← h3]; omega, by omega, by omega, by omega⟩⟩
              · refine i_143_104 (x := 108) l0 ?_
                refine i_143_105 (x := 29) l1 ?_
                refine i_143_106 (x := Int32.ofInt ta) l4 ?_
                refine i_143_108 (x := Int32.ofInt (n : Int)) l2 ?_
                have hobj := hR.k10 kq_108
                rw [show ta = ((r.1 : Nat) : Int) by omega]
                obtain ⟨w, hrun, T2, hR, hx⟩ := x_te (d := d + 2) (n := n) (a0 := r.1) hR (by rw [et29]; exact hB) hn (by omega)
                rw [et29] at hrun hx
                refine i_143_109 hobj (Nat.le_of_ble_eq_true rfl) hrun ?_
                refine i_143_112 (zb_t fun c16 => ?_) (zb_f fun c16 => ?_)
                · refine i_143_117 (x := 108) l0 ?_
                  refine i_143_118 (x := 108) l0 ?_
                  refine i_143_119 (v := Value.ref 109) (hR.k10 kq_108) rfl ?_
                  obtain ⟨a18, hsz, hz18⟩ := hR.size (h := 109) (u := U1 109) kq_109 (rfl)
                  refine i_143_122 (v := Value.int (Int32.ofInt (((xbl (U1 109) + 31) / 32 : Nat) : Int))) hsz rfl ?_
                  refine i_143_125 (z_ne (a := (((xbl (U1 109) + 31) / 32 : Nat) : Int)) ⟨by omega, by omega⟩ fun c18 => ?_) (z_eq (a := (((xbl (U1 109) + 31) / 32 : Nat) : Int)) ⟨by omega, by omega⟩ fun c18 => ?_)
                  · refine i_143_132 ?_
                    refine i_143_133 (fs2 := f10 (u1 (T2 108) 5 3)) (hR.k10 kq_108) (Nat.le_of_ble_eq_true rfl) rfl (h7k kq_108 (by decide)) ?_
                    refine xgen (P := cX w0 L Z (u2 T2 108 5 3) U1) (hR.p10 kq_108) (fun w hR => ?_)
                    refine i_143_136 ?_
                    refine i_143_137 rfl ?_
                    obtain ⟨ev, hev⟩ := Option.isSome_iff_exists.mp ‹(exS (S 29) n r.1).isSome = true›
                    rw [hev] at hx
                    have hxe : T2 = u2 T1 108 8 (T1 108 8 + ev) := hx
                    have hevb := exS_b hev
                    have hz0 : ¬ r.2.2.2 = 0 := by
                      have hsz9 := ‹(((xbl (U1 109) + 31) / 32 : Nat) : Int) ≠ 0›
                      rw [g1.2.2.2.1] at hsz9
                      exact fun e => hsz9 (by rw [e, xbl_zero]; rfl)
                    have eo : unS (S 29) rx n = some (3, 0, r.2.2.2, -((r.2.2.1 : Nat) : Int) + ev) := by unfold unS unS1; rw [if_neg (by rw [‹wrd (S 29) 0 n 110 97 110 = false›]; decide), if_neg (by rw [← ht0d]; simp at *; omega), if_neg (by rw [← ht0d]; simp at *; omega), if_neg (by rw [‹wrd (S 29) 0 n 105 110 102 = false›]; decide), ← er]; unfold unS2; rw [if_neg (by omega), if_pos (by omega), hev]; dsimp only; rw [if_neg (by exact hz0)]
                    rw [eo]
                    refine ⟨rfl, _, _, hR, fun b j hb => by rw [u2_eq, if_neg (fun e => hb e.1), hxe, u2_eq, if_neg (fun e => hb e.1), g1.1 b j (fun e => hb e.1), u2_eq, if_neg (fun e => hb e.1), u2_eq, if_neg (fun e => hb e.1)], fun i hi => g1.2.2.2.2 i hi, by rw [u2_eq, if_neg (fun e => absurd e.2 (by decide)), hxe, u2_eq, if_neg (by omega), g1.1 108 4 (by omega), u2_eq, if_neg (fun e => absurd e.2 (by decide)), u2_eq, if_pos ⟨rfl, rfl⟩], fun k sg v sh hx => ?_⟩
                    injection hx with hx
                    injection hx with h1 hx
                    injection hx with h2 hx
                    injection hx with h3 h4
                    refine ⟨by rw [u2_eq, if_pos ⟨rfl, rfl⟩, ← h1], by rw [u2_eq, if_neg (fun e => absurd e.2 (by decide)), hxe, u2_eq, if_neg (by omega), g1.1 108 6 (by omega), u2_eq, if_pos ⟨rfl, rfl⟩, ← h2], fun _ => ⟨by rw [g1.2.2.2.1, ← h3], by rw [← h4]; exact (by rw [u2_eq, if_neg (fun e => absurd e.2 (by decide)), hxe, u2_eq, if_pos ⟨rfl, rfl⟩, g1.2.2.1]), sig, by rw [u2_eq, if_neg (fun e => absurd e.2 (by decide)), hxe, u2_eq, if_neg (by omega), g1.2.1], by rw [← h3]; exact g2, by rw [← h3]; exact g3, by rw [← h3]; omega, by omega, by omega, by omega⟩⟩
                  · refine i_143_128 ?_
                    refine i_143_129 ?_
                    refine i_143_133 (fs2 := f10 (u1 (T2 108) 5 2)) (hR.k10 kq_108) (Nat.le_of_ble_eq_true rfl) rfl (h7k kq_108 (by decide)) ?_
                    refine xgen (P := cX w0 L Z (u2 T2 108 5 2) U1) (hR.p10 kq_108) (fun w hR => ?_)
                    refine i_143_136 ?_
                    refine i_143_137 rfl ?_
                    obtain ⟨ev, hev⟩ := Option.isSome_iff_exists.mp ‹(exS (S 29) n r.1).isSome = true›
                    rw [hev] at hx
                    have hxe : T2 = u2 T1 108 8 (T1 108 8 + ev) := hx
                    have hevb := exS_b hev
                    have hz0 : r.2.2.2 = 0 := by
                      have hsz9 := ‹(((xbl (U1 109) + 31) / 32 : Nat) : Int) = 0›
                      rw [g1.2.2.2.1] at hsz9
                      exact xbl_nz.mp (by omega)
                    have eo : unS (S 29) rx n = some (2, 0, r.2.2.2, -((r.2.2.1 : Nat) : Int) + ev) := by unfold unS unS1; rw [if_neg (by rw [‹wrd (S 29) 0 n 110 97 110 = false›]; decide), if_neg (by rw [← ht0d]; simp at *; omega), if_neg (by rw [← ht0d]; simp at *; omega), if_neg (by rw [‹wrd (S 29) 0 n 105 110 102 = false›]; decide), ← er]; unfold unS2; rw [if_neg (by omega), if_pos (by omega), hev]; dsimp only; rw [if_pos (by exact hz0)]
                    rw [eo]
                    refine ⟨rfl, _, _, hR, fun b j hb => by rw [u2_eq, if_neg (fun e => hb e.1), hxe, u2_eq, if_neg (fun e => hb e.1), g1.1 b j (fun e => hb e.1), u2_eq, if_neg (fun e => hb e.1), u2_eq, if_neg (fun e => hb e.1)], fun i hi => g1.2.2.2.2 i hi, by rw [u2_eq, if_neg (fun e => absurd e.2 (by decide)), hxe, u2_eq, if_neg (by omega), g1.1 108 4 (by omega), u2_eq, if_neg (fun e => absurd e.2 (by decide)), u2_eq, if_pos ⟨rfl, rfl⟩], fun k sg v sh hx => ?_⟩
                    injection hx with hx
                    injection hx with h1 hx
                    injection hx with h2 hx
                    injection hx with h3 h4
                    refine ⟨by rw [u2_eq, if_pos ⟨rfl, rfl⟩, ← h1], by rw [u2_eq, if_neg (fun e => absurd e.2 (by decide)), hxe, u2_eq, if_neg (by omega), g1.1 108 6 (by omega), u2_eq, if_pos ⟨rfl, rfl⟩, ← h2], fun _ => ⟨by rw [g1.2.2.2.1, ← h3], by rw [← h4]; exact (by rw [u2_eq, if_neg (fun e => absurd e.2 (by decide)), hxe, u2_eq, if_pos ⟨rfl, rfl⟩, g1.2.2.1]), sig, by rw [u2_eq, if_neg (fun e => absurd e.2 (by decide)), hxe, u2_eq, if_neg (by omega), g1.2.1], by rw [← h3]; exact g2, by rw [← h3]; exact g3, by rw [← h3]; omega, by omega, by omega, by omega⟩⟩
                · refine i_143_115 ?_
                  refine i_143_116 rfl ?_
                  have hnone : exS (S 29) n r.1 = none := by have h9 := ‹(exS (S 29) n r.1).isSome = false›; exact Option.isSome_eq_false_iff.mp h9 |> Option.isNone_iff_eq_none.mp
                  rw [hnone] at hx
                  have eo : unS (S 29) rx n = none := by unfold unS unS1; rw [if_neg (by rw [‹wrd (S 29) 0 n 110 97 110 = false›]; decide), if_neg (by rw [← ht0d]; simp at *; omega), if_neg (by rw [← ht0d]; simp at *; omega), if_neg (by rw [‹wrd (S 29) 0 n 105 110 102 = false›]; decide), ← er]; unfold unS2; rw [if_neg (by omega), if_pos (by omega), hnone]
                  rw [eo]
                  refine ⟨rfl, _, _, hR, fun b j hb => by rw [show T2 = T1 from hx, g1.1 b j (fun e => hb e.1), u2_eq, if_neg (fun e => hb e.1), u2_eq, if_neg (fun e => hb e.1)], fun i hi => g1.2.2.2.2 i hi, by rw [show T2 = T1 from hx, g1.1 108 4 (by omega), u2_eq, if_neg (fun e => absurd e.2 (by decide)), u2_eq, if_pos ⟨rfl, rfl⟩], fun k sg v sh hx => by simp at hx⟩
          · refine i_143_76 (x := 108) l0 ?_
            refine i_143_77 ?_
            refine i_143_78 (fs2 := f10 (u1 ((u2 (u2 S 108 4 (rx : Int)) 108 6 0) 108) 5 1)) (hR.k10 kq_108) (Nat.le_of_ble_eq_true rfl) rfl (h7k kq_108 (by decide)) ?_
            refine xgen (P := cX w0 L Z (u2 (u2 (u2 S 108 4 (rx : Int)) 108 6 0) 108 5 1) V) (hR.p10 kq_108) (fun w hR => ?_)
            refine i_143_81 ?_
            refine i_143_82 rfl ?_
            have eo : unS (S 29) rx n = some (1, 0, 0, 0) := by unfold unS unS1; rw [if_neg (by rw [‹wrd (S 29) 0 n 110 97 110 = false›]; decide), if_neg (by rw [← ht0d]; simp at *; omega), if_neg (by rw [← ht0d]; simp at *; omega), if_pos ‹_›]
            rw [eo]
            refine ⟨rfl, _, _, hR, fun b j hb => by rw [u2_eq, if_neg (fun e => hb e.1), u2_eq, if_neg (fun e => hb e.1), u2_eq, if_neg (fun e => hb e.1)], fun _ _ => rfl, by rw [u2_eq, if_neg (fun e => absurd e.2 (by decide)), u2_eq, if_neg (fun e => absurd e.2 (by decide)), u2_eq, if_pos ⟨rfl, rfl⟩], fun k sg v sh hx => ?_⟩
            injection hx with hx
            injection hx with h1 hx
            injection hx with h2 hx
            exact ⟨by rw [u2_eq, if_pos ⟨rfl, rfl⟩, ← h1], by rw [u2_eq, if_neg (fun e => absurd e.2 (by decide)), u2_eq, if_pos ⟨rfl, rfl⟩, ← h2], fun e => by omega⟩
        · refine i_143_44 (x := 108) l0 ?_
          refine i_143_45 (x := 29) l1 ?_
          refine i_143_46 ?_
          refine i_143_47 (v := Value.int (Int32.ofInt ((u2 (u2 S 108 4 (rx : Int)) 108 6 0) 29 0))) (hR.bytes (a := 29) (n := 4096) (by omega)) (by decide) (by decide) rfl ?_
          rw [show (u2 (u2 S 108 4 (rx : Int)) 108 6 0) 29 0 = t0 from ht0d.symm]
          refine i_143_48 ?_
          refine i_143_50 (b_ne (a := t0) (b := 45) ⟨by omega, by omega⟩ ⟨by decide, by decide⟩ fun c19 => ?_) (b_eq (a := t0) (b := 45) ⟨by omega, by omega⟩ ⟨by decide, by decide⟩ fun c19 => ?_)
          · refine i_143_57 ?_
            refine i_143_58 (fs2 := f10 (u1 ((u2 (u2 S 108 4 (rx : Int)) 108 6 0) 108) 6 0)) (hR.k10 kq_108) rfl (Nat.le_of_ble_eq_true rfl) rfl (h7k kq_108 (by decide)) ?_
            refine xgen (P := cX w0 L Z (u2 (u2 (u2 S 108 4 (rx : Int)) 108 6 0) 108 6 0) V) (hR.p10 kq_108) (fun w hR => ?_)
            refine i_143_61 ?_
            refine i_143_62 rfl ?_
            refine lgen1 (i := 4) (v := Value.int 1) (fun lv lg ls => ?_)
            replace l0 := lg 0 _ rfl rfl l0
            replace l1 := lg 1 _ rfl rfl l1
            replace l2 := lg 2 _ rfl rfl l2
            replace l3 := lg 3 _ rfl rfl l3
            have l4 := ls
            refine i_143_64 (x := 29) l1 ?_
            refine i_143_65 (x := 1) l4 ?_
            refine i_143_67 (x := Int32.ofInt (n : Int)) l2 ?_
            refine i_143_68 ?_
            have hrun := hW3 (d) L Z (u2 (u2 (u2 S 108 4 (rx : Int)) 108 6 0) 108 6 0) V w 1 n hR hB hn (by omega)
            rw [show Int32.ofInt ((1 : Nat) : Int) = 1 from rfl, show (u2 (u2 (u2 S 108 4 (rx : Int)) 108 6 0) 108 6 0) 29 = S 29 from rfl] at hrun
            refine i_143_70 (Nat.le_of_ble_eq_true rfl) hrun ?_
            refine i_143_73 (zb_f fun c20 => ?_) (zb_t fun c20 => ?_)
            · refine i_143_83 (x := 108) l0 ?_
              refine i_143_84 (x := 29) l1 ?_
              refine i_143_85 (x := 1) l4 ?_
              refine i_143_87 (x := Int32.ofInt (n : Int)) l2 ?_
              have hobj := hR.k10 kq_108
              have hr4 : (u2 (u2 (u2 S 108 4 (rx : Int)) 108 6 0) 108 6 0) 108 4 = (rx : Int) := by rw [u2_eq, if_neg (fun e => absurd e.2 (by decide)), u2_eq, if_neg (fun e => absurd e.2 (by decide)), u2_eq, if_pos ⟨rfl, rfl⟩]
              obtain ⟨w, hrun, T1, U1, sig, hR, g1, g2, g3, g4, g5, g6, g7⟩ := x_td (d := d) (rx := rx) (n := n) (a0 := 1) hR hr hB hn hr4 (by omega)
              rw [show Int32.ofInt ((1 : Nat) : Int) = 1 from rfl] at hrun
              have hbc := rdS_bc (t := S 29) (rx := rx) (n := n) (n - 1) 1 0 0 0 0 (Or.inl rfl) (Nat.le_refl _)
              obtain ⟨r, er⟩ : ∃ r, r = rdS (S 29) rx n (n - 1) 1 0 0 0 0 := ⟨_, rfl⟩
              rw [show rdS ((u2 (u2 (u2 S 108 4 (rx : Int)) 108 6 0) 108 6 0) 29) rx n (n - 1) 1 0 0 0 0 = r from er.symm] at hrun g1 g2 g3 g4 g5 g6 g7
              rw [← er] at hbc
              obtain ⟨ta, eta⟩ : ∃ ta : Int, ta = (if r.2.1 = 0 then -1 else ((r.1 : Nat) : Int)) := ⟨_, rfl⟩
              rw [← eta] at hrun
              have hta : (ta = -1 ∧ r.2.1 = 0) ∨ (ta = ((r.1 : Nat) : Int) ∧ r.2.1 ≠ 0) := by
                by_cases z : r.2.1 = 0
                · rw [if_pos z] at eta; exact Or.inl ⟨eta, z⟩
                · rw [if_neg z] at eta; exact Or.inr ⟨eta, z⟩
              have et29 : T1 29 = S 29 := by funext j; exact g1.1 29 j (by omega)
              refine i_143_88 hobj (Nat.le_of_ble_eq_true rfl) hrun ?_
              refine i_143_91 rfl ?_
              refine lgen1 (i := 4) (v := Value.int (Int32.ofInt ta)) (fun lv lg ls => ?_)
              replace l0 := lg 0 _ rfl rfl l0
              replace l1 := lg 1 _ rfl rfl l1
              replace l2 := lg 2 _ rfl rfl l2
              replace l3 := lg 3 _ rfl rfl l3
              have l4 := ls
              refine i_143_93 (x := Int32.ofInt ta) l4 ?_
              refine i_143_95 (z_lt (a := ta) ⟨by omega, by omega⟩ fun c21 => ?_) (z_ge (a := ta) ⟨by omega, by omega⟩ fun c21 => ?_)
              · refine i_143_115 ?_
                refine i_143_116 rfl ?_
                have eo : unS (S 29) rx n = none := by unfold unS unS1; rw [if_neg (by rw [‹wrd (S 29) 0 n 110 97 110 = false›]; decide), if_neg (by rw [← ht0d]; simp at *; omega), if_pos (by rw [← ht0d]; simp at *; omega), if_neg (by rw [‹wrd (S 29) 1 n 105 110 102 = false›]; decide), ← er]; unfold unS2; rw [if_pos (by omega)]
                rw [eo]
                refine ⟨rfl, _, _, hR, fun b j hb => by rw [g1.1 b j (fun e => hb e.1), u2_eq, if_neg (fun e => hb e.1), u2_eq, if_neg (fun e => hb e.1), u2_eq, if_neg (fun e => hb e.1)], fun i hi => g1.2.2.2.2 i hi, by rw [g1.1 108 4 (by omega), u2_eq, if_neg (fun e => absurd e.2 (by decide)), u2_eq, if_neg (fun e => absurd e.2 (by decide)), u2_eq, if_pos ⟨rfl, rfl⟩], fun k sg v sh hx => by simp at hx⟩
              · refine i_143_98 (x := Int32.ofInt ta) l4 ?_
                refine i_143_100 (x := Int32.ofInt (n : Int)) l2 ?_
                refine i_143_101 (b_le (a := (n : Int)) (b := ta) ⟨by omega, by omega⟩ ⟨by omega, by omega⟩ fun c22 => ?_) (b_lt (a := ta) (b := (n : Int)) ⟨by omega, by omega⟩ ⟨by omega, by omega⟩ fun c22 => ?_)
                · refine i_143_117 (x := 108) l0 ?_
                  refine i_143_118 (x := 108) l0 ?_
                  refine i_143_119 (v := Value.ref 109) (hR.k10 kq_108) rfl ?_
                  obtain ⟨a24, hsz, hz24⟩ := hR.size (h := 109) (u := U1 109) kq_109 (rfl)
                  refine i_143_122 (v := Value.int (Int32.ofInt (((xbl (U1 109) + 31) / 32 : Nat) : Int))) hsz rfl ?_
                  refine i_143_125 (z_ne (a := (((xbl (U1 109) + 31) / 32 : Nat) : Int)) ⟨by omega, by omega⟩ fun c24 => ?_) (z_eq (a := (((xbl (U1 109) + 31) / 32 : Nat) : Int)) ⟨by omega, by omega⟩ fun c24 => ?_)
                  · refine i_143_132 ?_
                    refine i_143_133 (fs2 := f10 (u1 (T1 108) 5 3)) (hR.k10 kq_108) (Nat.le_of_ble_eq_true rfl) rfl (h7k kq_108 (by decide)) ?_
                    refine xgen (P := cX w0 L Z (u2 T1 108 5 3) U1) (hR.p10 kq_108) (fun w hR => ?_)
                    refine i_143_136 ?_
                    refine i_143_137 rfl ?_
                    have hz0 : ¬ r.2.2.2 = 0 := by
                      have hsz9 := ‹(((xbl (U1 109) + 31) / 32 : Nat) : Int) ≠ 0›
                      rw [g1.2.2.2.1] at hsz9
                      exact fun e => hsz9 (by rw [e, xbl_zero]; rfl)
                    have eo : unS (S 29) rx n = some (3, 0, r.2.2.2, -((r.2.2.1 : Nat) : Int)) := by unfold unS unS1; rw [if_neg (by rw [‹wrd (S 29) 0 n 110 97 110 = false›]; decide), if_neg (by rw [← ht0d]; simp at *; omega), if_pos (by rw [← ht0d]; simp at *; omega), if_neg (by rw [‹wrd (S 29) 1 n 105 110 102 = false›]; decide), ← er]; unfold unS2; rw [if_neg (by omega), if_neg (by omega), if_neg (by exact hz0)]
                    rw [eo]
                    refine ⟨rfl, _, _, hR, fun b j hb => by rw [u2_eq, if_neg (fun e => hb e.1), g1.1 b j (fun e => hb e.1), u2_eq, if_neg (fun e => hb e.1), u2_eq, if_neg (fun e => hb e.1), u2_eq, if_neg (fun e => hb e.1)], fun i hi => g1.2.2.2.2 i hi, by rw [u2_eq, if_neg (fun e => absurd e.2 (by decide)), g1.1 108 4 (by omega), u2_eq, if_neg (fun e => absurd e.2 (by decide)), u2_eq, if_neg (fun e => absurd e.2 (by decide)), u2_eq, if_pos ⟨rfl, rfl⟩], fun k sg v sh hx => ?_⟩
                    injection hx with hx
                    injection hx with h1 hx
                    injection hx with h2 hx
                    injection hx with h3 h4
                    refine ⟨by rw [u2_eq, if_pos ⟨rfl, rfl⟩, ← h1], by rw [u2_eq, if_neg (fun e => absurd e.2 (by decide)), g1.1 108 6 (by omega), u2_eq, if_pos ⟨rfl, rfl⟩, ← h2], fun _ => ⟨by rw [g1.2.2.2.1, ← h3], by rw [← h4]; exact (by rw [u2_eq, if_neg (fun e => absurd e.2 (by decide)), g1.2.2.1]), sig, by rw [u2_eq, if_neg (fun e => absurd e.2 (by decide)), g1.2.1], by rw [← h3]; exact g2, by rw [← h3]; exact g3, by rw [← h3]; omega, by omega, by omega, by omega⟩⟩
                  · refine i_143_128 ?_
                    refine i_143_129 ?_
                    refine i_143_133 (fs2 := f10 (u1 (T1 108) 5 2)) (hR.k10 kq_108) (Nat.le_of_ble_eq_true rfl) rfl (h7k kq_108 (by decide)) ?_
                    refine xgen (P := cX w0 L Z (u2 T1 108 5 2) U1) (hR.p10 kq_108) (fun w hR => ?_)
                    refine i_143_136 ?_
                    refine i_143_137 rfl ?_
                    have hz0 : r.2.2.2 = 0 := by
                      have hsz9 := ‹(((xbl (U1 109) + 31) / 32 : Nat) : Int) = 0›
                      rw [g1.2.2.2.1] at hsz9
                      exact xbl_nz.mp (by omega)
                    have eo : unS (S 29) rx n = some (2, 0, r.2.2.2, -((r.2.2.1 : Nat) : Int)) := by unfold unS unS1; rw [if_neg (by rw [‹wrd (S 29) 0 n 110 97 110 = false›]; decide), if_neg (by rw [← ht0d]; simp at *; omega), if_pos (by rw [← ht0d]; simp at *; omega), if_neg (by rw [‹wrd (S 29) 1 n 105 110 102 = false›]; decide), ← er]; unfold unS2; rw [if_neg (by omega), if_neg (by omega), if_pos (by exact hz0)]
                    rw [eo]
                    refine ⟨rfl, _, _, hR, fun b j hb => by rw [u2_eq, if_neg (fun e => hb e.1), g1.1 b j (fun e => hb e.1), u2_eq, if_neg (fun e => hb e.1), u2_eq, if_neg (fun e => hb e.1), u2_eq, if_neg (fun e => hb e.1)], fun i hi => g1.2.2.2.2 i hi, by rw [u2_eq, if_neg (fun e => absurd e.2 (by decide)), g1.1 108 4 (by omega), u2_eq, if_neg (fun e => absurd e.2 (by decide)), u2_eq, if_neg (fun e => absurd e.2 (by decide)), u2_eq, if_pos ⟨rfl, rfl⟩], fun k sg v sh hx => ?_⟩
                    injection hx with hx
                    injection hx with h1 hx
                    injection hx with h2 hx
                    injection hx with h3 h4
                    refine ⟨by rw [u2_eq, if_pos ⟨rfl, rfl⟩, ← h1], by rw [u2_eq, if_neg (fun e => absurd e.2 (by decide)), g1.1 108 6 (by omega), u2_eq, if_pos ⟨rfl, rfl⟩, ← h2], fun _ => ⟨by rw [g1.2.2.2.1, ← h3], by rw [← h4]; exact (by rw [u2_eq, if_neg (fun e => absurd e.2 (by decide)), g1.2.2.1]), sig, by rw [u2_eq, if_neg (fun e => absurd e.2 (by decide)), g1.2.1], by rw [← h3]; exact g2, by rw [← h3]; exact g3, by rw [← h3]; omega, by omega, by omega, by omega⟩⟩
                · refine i_143_104 (x := 108) l0 ?_
                  refine i_143_105 (x := 29) l1 ?_
                  refine i_143_106 (x := Int32.ofInt ta) l4 ?_
                  refine i_143_108 (x := Int32.ofInt (n : Int)) l2 ?_
                  have hobj := hR.k10 kq_108
                  rw [show ta = ((r.1 : Nat) : Int) by omega]
                  obtain ⟨w, hrun, T2, hR, hx⟩ := x_te (d := d + 2) (n := n) (a0 := r.1) hR (by rw [et29]; exact hB) hn (by omega)
                  rw [et29] at hrun hx
                  refine i_143_109 hobj (Nat.le_of_ble_eq_true rfl) hrun ?_
                  refine i_143_112 (zb_t fun c25 => ?_) (zb_f fun c25 => ?_)
                  · refine i_143_117 (x := 108) l0 ?_
                    refine i_143_118 (x := 108) l0 ?_
                    refine i_143_119 (v := Value.ref 109) (hR.k10 kq_108) rfl ?_
                    obtain ⟨a27, hsz, hz27⟩ := hR.size (h := 109) (u := U1 109) kq_109 (rfl)
                    refine i_143_122 (v := Value.int (Int32.ofInt (((xbl (U1 109) + 31) / 32 : Nat) : Int))) hsz rfl ?_
                    refine i_143_125 (z_ne (a := (((xbl (U1 109) + 31) / 32 : Nat) : Int)) ⟨by omega, by omega⟩ fun c27 => ?_) (z_eq (a := (((xbl (U1 109) + 31) / 32 : Nat) : Int)) ⟨by omega, by omega⟩ fun c27 => ?_)
                    · refine i_143_132 ?_
                      refine i_143_133 (fs2 := f10 (u1 (T2 108) 5 3)) (hR.k10 kq_108) (Nat.le_of_ble_eq_true rfl) rfl (h7k kq_108 (by decide)) ?_
                      refine xgen (P := cX w0 L Z (u2 T2 108 5 3) U1) (hR.p10 kq_108) (fun w hR => ?_)
                      refine i_143_136 ?_
                      refine i_143_137 rfl ?_
                      obtain ⟨ev, hev⟩ := Option.isSome_iff_exists.mp ‹(exS (S 29) n r.1).isSome = true›
                      rw [hev] at hx
                      have hxe : T2 = u2 T1 108 8 (T1 108 8 + ev) := hx
                      have hevb := exS_b hev
                      have hz0 : ¬ r.2.2.2 = 0 := by
                        have hsz9 := ‹(((xbl (U1 109) + 31) / 32 : Nat) : Int) ≠ 0›
                        rw [g1.2.2.2.1] at hsz9
                        exact fun e => hsz9 (by rw [e, xbl_zero]; rfl)
                      have eo : unS (S 29) rx n = some (3, 0, r.2.2.2, -((r.2.2.1 : Nat) : Int) + ev) := by unfold unS unS1; rw [if_neg (by rw [‹wrd (S 29) 0 n 110 97 110 = false›]; decide), if_neg (by rw [← ht0d]; simp at *; omega), if_pos (by rw [← ht0d]; simp at *; omega), if_neg (by rw [‹wrd (S 29) 1 n 105 110 102 = false›]; decide), ← er]; unfold unS2; rw [if_neg (by omega), if_pos (by omega), hev]; dsimp only; rw [if_neg (by exact hz0)]
                      rw [eo]
                      refine ⟨rfl, _, _, hR, fun b j hb => by rw [u2_eq, if_neg (fun e => hb e.1), hxe, u2_eq, if_neg (fun e => hb e.1), g1.1 b j (fun e => hb e.1), u2_eq, if_neg (fun e => hb e.1), u2_eq, if_neg (fun e => hb e.1), u2_eq, if_neg (fun e => hb e.1)], fun i hi => g1.2.2.2.2 i hi, by rw [u2_eq, if_neg (fun e => absurd e.2 (by decide)), hxe, u2_eq, if_neg (by omega), g1.1 108 4 (by omega), u2_eq, if_neg (fun e => absurd e.2 (by decide)), u2_eq, if_neg (fun e => absurd e.2 (by decide)), u2_eq, if_pos ⟨rfl, rfl⟩], fun k sg v sh hx => ?_⟩
                      injection hx with hx
                      injection hx with h1 hx
                      injection hx with h2 hx
                      injection hx with h3 h4
                      refine ⟨by rw [u2_eq, if_pos ⟨rfl, rfl⟩, ← h1], by rw [u2_eq, if_neg (fun e => absurd e.2 (by decide)), hxe, u2_eq, if_neg (by omega), g1.1 108 6 (by omega), u2_eq, if_pos ⟨rfl, rfl⟩, ← h2], fun _ => ⟨by rw [g1.2.2.2.1, ← h3], by rw [← h4]; exact (by rw [u2_eq, if_neg (fun e => absurd e.2 (by decide)), hxe, u2_eq, if_pos ⟨rfl, rfl⟩, g1.2.2.1]), sig, by rw [u2_eq, if_neg (fun e => absurd e.2 (by decide)), hxe, u2_eq, if_neg (by omega), g1.2.1], by rw [← h3]; exact g2, by rw [← h3]; exact g3, by rw [← h3]; omega, by omega, by omega, by omega⟩⟩
                    · refine i_143_128 ?_
                      refine i_143_129 ?_
                      refine i_143_133 (fs2 := f10 (u1 (T2 108) 5 2)) (hR.k10 kq_108) (Nat.le_of_ble_eq_true rfl) rfl (h7k kq_108 (by decide)) ?_
                      refine xgen (P := cX w0 L Z (u2 T2 108 5 2) U1) (hR.p10 kq_108) (fun w hR => ?_)
                      refine i_143_136 ?_
                      refine i_143_137 rfl ?_
                      obtain ⟨ev, hev⟩ := Option.isSome_iff_exists.mp ‹(exS (S 29) n r.1).isSome = true›
                      rw [hev] at hx
                      have hxe : T2 = u2 T1 108 8 (T1 108 8 + ev) := hx
                      have hevb := exS_b hev
                      have hz0 : r.2.2.2 = 0 := by
                        have hsz9 := ‹(((xbl (U1 109) + 31) / 32 : Nat) : Int) = 0›
                        rw [g1.2.2.2.1] at hsz9
                        exact xbl_nz.mp (by omega)
                      have eo : unS (S 29) rx n = some (2, 0, r.2.2.2, -((r.2.2.1 : Nat) : Int) + ev) := by unfold unS unS1; rw [if_neg (by rw [‹wrd (S 29) 0 n 110 97 110 = false›]; decide), if_neg (by rw [← ht0d]; simp at *; omega), if_pos (by rw [← ht0d]; simp at *; omega), if_neg (by rw [‹wrd (S 29) 1 n 105 110 102 = false›]; decide), ← er]; unfold unS2; rw [if_neg (by omega), if_pos (by omega), hev]; dsimp only; rw [if_pos (by exact hz0)]
                      rw [eo]
                      refine ⟨rfl, _, _, hR, fun b j hb => by rw [u2_eq, if_neg (fun e => hb e.1), hxe, u2_eq, if_neg (fun e => hb e.1), g1.1 b j (fun e => hb e.1), u2_eq, if_neg (fun e => hb e.1), u2_eq, if_neg (fun e => hb e.1), u2_eq, if_neg (fun e => hb e.1)], fun i hi => g1.2.2.2.2 i hi, by rw [u2_eq, if_neg (fun e => absurd e.2 (by decide)), hxe, u2_eq, if_neg (by omega), g1.1 108 4 (by omega), u2_eq, if_neg (fun e => absurd e.2 (by decide)), u2_eq, if_neg (fun e => absurd e.2 (by decide)), u2_eq, if_pos ⟨rfl, rfl⟩], fun k sg v sh hx => ?_⟩
                      injection hx with hx
                      injection hx with h1 hx
                      injection hx with h2 hx
                      injection hx with h3 h4
                      refine ⟨by rw [u2_eq, if_pos ⟨rfl, rfl⟩, ← h1], by rw [u2_eq, if_neg (fun e => absurd e.2 (by decide)), hxe, u2_eq, if_neg (by omega), g1.1 108 6 (by omega), u2_eq, if_pos ⟨rfl, rfl⟩, ← h2], fun _ => ⟨by rw [g1.2.2.2.1, ← h3], by rw [← h4]; exact (by rw [u2_eq, if_neg (fun e => absurd e.2 (by decide)), hxe, u2_eq, if_pos ⟨rfl, rfl⟩, g1.2.2.1]), sig, by rw [u2_eq, if_neg (fun e => absurd e.2 (by decide)), hxe, u2_eq, if_neg (by omega), g1.2.1], by rw [← h3]; exact g2, by rw [← h3]; exact g3, by rw [← h3]; omega, by omega, by omega, by omega⟩⟩
                  · refine i_143_115 ?_
                    refine i_143_116 rfl ?_
                    have hnone : exS (S 29) n r.1 = none := by have h9 := ‹(exS (S 29) n r.1).isSome = false›; exact Option.isSome_eq_false_iff.mp h9 |> Option.isNone_iff_eq_none.mp
                    rw [hnone] at hx
                    have eo : unS (S 29) rx n = none := by unfold unS unS1; rw [if_neg (by rw [‹wrd (S 29) 0 n 110 97 110 = false›]; decide), if_neg (by rw [← ht0d]; simp at *; omega), if_pos (by rw [← ht0d]; simp at *; omega), if_neg (by rw [‹wrd (S 29) 1 n 105 110 102 = false›]; decide), ← er]; unfold unS2; rw [if_neg (by omega), if_pos (by omega), hnone]
                    rw [eo]
                    refine ⟨rfl, _, _, hR, fun b j hb => by rw [show T2 = T1 from hx, g1.1 b j (fun e => hb e.1), u2_eq, if_neg (fun e => hb e.1), u2_eq, if_neg (fun e => hb e.1), u2_eq, if_neg (fun e => hb e.1)], fun i hi => g1.2.2.2.2 i hi, by rw [show T2 = T1 from hx, g1.1 108 4 (by omega), u2_eq, if_neg (fun e => absurd e.2 (by decide)), u2_eq, if_neg (fun e => absurd e.2 (by decide)), u2_eq, if_pos ⟨rfl, rfl⟩], fun k sg v sh hx => by simp at hx⟩
            · refine i_143_76 (x := 108) l0 ?_
              refine i_143_77 ?_
              refine i_143_78 (fs2 := f10 (u1 ((u2 (u2 (u2 S 108 4 (rx : Int)) 108 6 0) 108 6 0) 108) 5 1)) (hR.k10 kq_108) (Nat.le_of_ble_eq_true rfl) rfl (h7k kq_108 (by decide)) ?_
              refine xgen (P := cX w0 L Z (u2 (u2 (u2 (u2 S 108 4 (rx : Int)) 108 6 0) 108 6 0) 108 5 1) V) (hR.p10 kq_108) (fun w hR => ?_)
              refine i_143_81 ?_
              refine i_143_82 rfl ?_
              have eo : unS (S 29) rx n = some (1, 0, 0, 0) := by unfold unS unS1; rw [if_neg (by rw [‹wrd (S 29) 0 n 110 97 110 = false›]; decide), if_neg (by rw [← ht0d]; simp at *; omega), if_pos (by rw [← ht0d]; simp at *; omega), if_pos ‹_›]
              rw [eo]
              refine ⟨rfl, _, _, hR, fun b j hb => by rw [u2_eq, if_neg (fun e => hb e.1), u2_eq, if_neg (fun e => hb e.1), u2_eq, if_neg (fun e => hb e.1), u2_eq, if_neg (fun e => hb e.1)], fun _ _ => rfl, by rw [u2_eq, if_neg (fun e => absurd e.2 (by decide)), u2_eq, if_neg (fun e => absurd e.2 (by decide)), u2_eq, if_neg (fun e => absurd e.2 (by decide)), u2_eq, if_pos ⟨rfl, rfl⟩], fun k sg v sh hx => ?_⟩
              injection hx with hx
              injection hx with h1 hx
              injection hx with h2 hx
              exact ⟨by rw [u2_eq, if_pos ⟨rfl, rfl⟩, ← h1], by rw [u2_eq, if_neg (fun e => absurd e.2 (by decide)), u2_eq, if_pos ⟨rfl, rfl⟩, ← h2], fun e => by omega⟩
          · refine i_143_53 ?_
            refine i_143_54 ?_
            refine i_143_58 (fs2 := f10 (u1 ((u2 (u2 S 108 4 (rx : Int)) 108 6 0) 108) 6 1)) (hR.k10 kq_108) rfl (Nat.le_of_ble_eq_true rfl) rfl (h7k kq_108 (by decide)) ?_
            refine xgen (P := cX w0 L Z (u2 (u2 (u2 S 108 4 (rx : Int)) 108 6 0) 108 6 1) V) (hR.p10 kq_108) (fun w hR => ?_)
            refine i_143_61 ?_
            refine i_143_62 rfl ?_
            refine lgen1 (i := 4) (v := Value.int 1) (fun lv lg ls => ?_)
            replace l0 := lg 0 _ rfl rfl l0
            replace l1 := lg 1 _ rfl rfl l1
            replace l2 := lg 2 _ rfl rfl l2
            replace l3 := lg 3 _ rfl rfl l3
            have l4 := ls
            refine i_143_64 (x := 29) l1 ?_
            refine i_143_65 (x := 1) l4 ?_
            refine i_143_67 (x := Int32.ofInt (n : Int)) l2 ?_
            refine i_143_68 ?_
            have hrun := hW3 (d) L Z (u2 (u2 (u2 S 108 4 (rx : Int)) 108 6 0) 108 6 1) V w 1 n hR hB hn (by omega)
            rw [show Int32.ofInt ((1 : Nat) : Int) = 1 from rfl, show (u2 (u2 (u2 S 108 4 (rx : Int)) 108 6 0) 108 6 1) 29 = S 29 from rfl] at hrun
            refine i_143_70 (Nat.le_of_ble_eq_true rfl) hrun ?_
            refine i_143_73 (zb_f fun c28 => ?_) (zb_t fun c28 => ?_)
            · refine i_143_83 (x := 108) l0 ?_
              refine i_143_84 (x := 29) l1 ?_
              refine i_143_85 (x := 1) l4 ?_
              refine i_143_87 (x := Int32.ofInt (n : Int)) l2 ?_
              have hobj := hR.k10 kq_108
              have hr4 : (u2 (u2 (u2 S 108 4 (rx : Int)) 108 6 0) 108 6 1) 108 4 = (rx : Int) := by rw [u2_eq, if_neg (fun e => absurd e.2 (by decide)), u2_eq, if_neg (fun e => absurd e.2 (by decide)), u2_eq, if_pos ⟨rfl, rfl⟩]
              obtain ⟨w, hrun, T1, U1, sig, hR, g1, g2, g3, g4, g5, g6, g7⟩ := x_td (d := d) (rx := rx) (n := n) (a0 := 1) hR hr hB hn hr4 (by omega)
              rw [show Int32.ofInt ((1 : Nat) : Int) = 1 from rfl] at hrun
              have hbc := rdS_bc (t := S 29) (rx := rx) (n := n) (n - 1) 1 0 0 0 0 (Or.inl rfl) (Nat.le_refl _)
              obtain ⟨r, er⟩ : ∃ r, r = rdS (S 29) rx n (n - 1) 1 0 0 0 0 := ⟨_, rfl⟩
              rw [show rdS ((u2 (u2 (u2 S 108 4 (rx : Int)) 108 6 0) 108 6 1) 29) rx n (n - 1) 1 0 0 0 0 = r from er.symm] at hrun g1 g2 g3 g4 g5 g6 g7
              rw [← er] at hbc
              obtain ⟨ta, eta⟩ : ∃ ta : Int, ta = (if r.2.1 = 0 then -1 else ((r.1 : Nat) : Int)) := ⟨_, rfl⟩
              rw [← eta] at hrun
              have hta : (ta = -1 ∧ r.2.1 = 0) ∨ (ta = ((r.1 : Nat) : Int) ∧ r.2.1 ≠ 0) := by
                by_cases z : r.2.1 = 0
                · rw [if_pos z] at eta; exact Or.inl ⟨eta, z⟩
                · rw [if_neg z] at eta; exact Or.inr ⟨eta, z⟩
              have et29 : T1 29 = S 29 := by funext j; exact g1.1 29 j (by omega)
              refine i_143_88 hobj (Nat.le_of_ble_eq_true rfl) hrun ?_
              refine i_143_91 rfl ?_
              refine lgen1 (i := 4) (v := Value.int (Int32.ofInt ta)) (fun lv lg ls => ?_)
              replace l0 := lg 0 _ rfl rfl l0
              replace l1 := lg 1 _ rfl rfl l1
              replace l2 := lg 2 _ rfl rfl l2
              replace l3 := lg 3 _ rfl rfl l3
              have l4 := ls
              refine i_143_93 (x := Int32.ofInt ta) l4 ?_
              refine i_143_95 (z_lt (a := ta) ⟨by omega, by omega⟩ fun c29 => ?_) (z_ge (a := ta) ⟨by omega, by omega⟩ fun c29 => ?_)
              · refine i_143_115 ?_
                refine i_143_116 rfl ?_
                have eo : unS (S 29) rx n = none := by unfold unS unS1; rw [if_neg (by rw [‹wrd (S 29) 0 n 110 97 110 = false›]; decide), if_pos (by rw [← ht0d]; simp at *; omega), if_neg (by rw [‹wrd (S 29) 1 n 105 110 102 = false›]; decide), ← er]; unfold unS2; rw [if_pos (by omega)]
                rw [eo]
                refine ⟨rfl, _, _, hR, fun b j hb => by rw [g1.1 b j (fun e => hb e.1), u2_eq, if_neg (fun e => hb e.1), u2_eq, if_neg (fun e => hb e.1), u2_eq, if_neg (fun e => hb e.1)], fun i hi => g1.2.2.2.2 i hi, by rw [g1.1 108 4 (by omega), u2_eq, if_neg (fun e => absurd e.2 (by decide)), u2_eq, if_neg (fun e => absurd e.2 (by decide)), u2_eq, if_pos ⟨rfl, rfl⟩], fun k sg v sh hx => by simp at hx⟩
              · refine i_143_98 (x := Int32.ofInt ta) l4 ?_
                refine i_143_100 (x := Int32.ofInt (n : Int)) l2 ?_
                refine i_143_101 (b_le (a := (n : Int)) (b := ta) ⟨by omega, by omega⟩ ⟨by omega, by omega⟩ fun c30 => ?_) (b_lt (a := ta) (b := (n : Int)) ⟨by omega, by omega⟩ ⟨by omega, by omega⟩ fun c30 => ?_)
                · refine i_143_117 (x := 108) l0 ?_
                  refine i_143_118 (x := 108) l0 ?_
                  refine i_143_119 (v := Value.ref 109) (hR.k10 kq_108) rfl ?_
                  obtain ⟨a32, hsz, hz32⟩ := hR.size (h := 109) (u := U1 109) kq_109 (rfl)
                  refine i_143_122 (v := Value.int (Int32.ofInt (((xbl (U1 109) + 31) / 32 : Nat) : Int))) hsz rfl ?_
                  refine i_143_125 (z_ne (a := (((xbl (U1 109) + 31) / 32 : Nat) : Int)) ⟨by omega, by omega⟩ fun c32 => ?_) (z_eq (a := (((xbl (U1 109) + 31) / 32 : Nat) : Int)) ⟨by omega, by omega⟩ fun c32 => ?_)
                  · refine i_143_132 ?_
                    refine i_143_133 (fs2 := f10 (u1 (T1 108) 5 3)) (hR.k10 kq_108) (Nat.le_of_ble_eq_true rfl) rfl (h7k kq_108 (by decide)) ?_
                    refine xgen (P := cX w0 L Z (u2 T1 108 5 3) U1) (hR.p10 kq_108) (fun w hR => ?_)
                    refine i_143_136 ?_
                    refine i_143_137 rfl ?_
                    have hz0 : ¬ r.2.2.2 = 0 := by
                      have hsz9 := ‹(((xbl (U1 109) + 31) / 32 : Nat) : Int) ≠ 0›
                      rw [g1.2.2.2.1] at hsz9
                      exact fun e => hsz9 (by rw [e, xbl_zero]; rfl)
                    have eo : unS (S 29) rx n = some (3, 1, r.2.2.2, -((r.2.2.1 : Nat) : Int)) := by unfold unS unS1; rw [if_neg (by rw [‹wrd (S 29) 0 n 110 97 110 = false›]; decide), if_pos (by rw [← ht0d]; simp at *; omega), if_neg (by rw [‹wrd (S 29) 1 n 105 110 102 = false›]; decide), ← er]; unfold unS2; rw [if_neg (by omega), if_neg (by omega), if_neg (by exact hz0)]
                    rw [eo]
                    refine ⟨rfl, _, _, hR, fun b j hb => by rw [u2_eq, if_neg (fun e => hb e.1), g1.1 b j (fun e => hb e.1), u2_eq, if_neg (fun e => hb e.1), u2_eq, if_neg (fun e => hb e.1), u2_eq, if_neg (fun e => hb e.1)], fun i hi => g1.2.2.2.2 i hi, by rw [u2_eq, if_neg (fun e => absurd e.2 (by decide)), g1.1 108 4 (by omega), u2_eq, if_neg (fun e => absurd e.2 (by decide)), u2_eq, if_neg (fun e => absurd e.2 (by decide)), u2_eq, if_pos ⟨rfl, rfl⟩], fun k sg v sh hx => ?_⟩
                    injection hx with hx
                    injection hx with h1 hx
                    injection hx with h2 hx
                    injection hx with h3 h4
                    refine ⟨by rw [u2_eq, if_pos ⟨rfl, rfl⟩, ← h1], by rw [u2_eq, if_neg (fun e => absurd e.2 (by decide)), g1.1 108 6 (by omega), u2_eq, if_pos ⟨rfl, rfl⟩, ← h2], fun _ => ⟨by rw [g1.2.2.2.1, ← h3], by rw [← h4]; exact (by rw [u2_eq, if_neg (fun e => absurd e.2 (by decide)), g1.2.2.1]), sig, by rw [u2_eq, if_neg (fun e => absurd e.2 (by decide)), g1.2.1], by rw [← h3]; exact g2, by rw [← h3]; exact g3, by rw [← h3]; omega, by omega, by omega, by omega⟩⟩
                  · refine i_143_128 ?_
                    refine i_143_129 ?_
                    refine i_143_133 (fs2 := f10 (u1 (T1 108) 5 2)) (hR.k10 kq_108) (Nat.le_of_ble_eq_true rfl) rfl (h7k kq_108 (by decide)) ?_
                    refine xgen (P := cX w0 L Z (u2 T1 108 5 2) U1) (hR.p10 kq_108) (fun w hR => ?_)
                    refine i_143_136 ?_
                    refine i_143_137 rfl ?_
                    have hz0 : r.2.2.2 = 0 := by
                      have hsz9 := ‹(((xbl (U1 109) + 31) / 32 : Nat) : Int) = 0›
                      rw [g1.2.2.2.1] at hsz9
                      exact xbl_nz.mp (by omega)
                    have eo : unS (S 29) rx n = some (2, 1, r.2.2.2, -((r.2.2.1 : Nat) : Int)) := by unfold unS unS1; rw [if_neg (by rw [‹wrd (S 29) 0 n 110 97 110 = false›]; decide), if_pos (by rw [← ht0d]; simp at *; omega), if_neg (by rw [‹wrd (S 29) 1 n 105 110 102 = false›]; decide), ← er]; unfold unS2; rw [if_neg (by omega), if_neg (by omega), if_pos (by exact hz0)]
                    rw [eo]
                    refine ⟨rfl, _, _, hR, fun b j hb => by rw [u2_eq, if_neg (fun e => hb e.1), g1.1 b j (fun e => hb e.1), u2_eq, if_neg (fun e => hb e.1), u2_eq, if_neg (fun e => hb e.1), u2_eq, if_neg (fun e => hb e.1)], fun i hi => g1.2.2.2.2 i hi, by rw [u2_eq, if_neg (fun e => absurd e.2 (by decide)), g1.1 108 4 (by omega), u2_eq, if_neg (fun e => absurd e.2 (by decide)), u2_eq, if_neg (fun e => absurd e.2 (by decide)), u2_eq, if_pos ⟨rfl, rfl⟩], fun k sg v sh hx => ?_⟩
                    injection hx with hx
                    injection hx with h1 hx
                    injection hx with h2 hx
                    injection hx with h3 h4
                    refine ⟨by rw [u2_eq, if_pos ⟨rfl, rfl⟩, ← h1], by rw [u2_eq, if_neg (fun e => absurd e.2 (by decide)), g1.1 108 6 (by omega), u2_eq, if_pos ⟨rfl, rfl⟩, ← h2], fun _ => ⟨by rw [g1.2.2.2.1, ← h3], by rw [← h4]; exact (by rw [u2_eq, if_neg (fun e => absurd e.2 (by decide)), g1.2.2.1]), sig, by rw [u2_eq, if_neg (fun e => absurd e.2 (by decide)), g1.2.1], by rw [← h3]; exact g2, by rw [← h3]; exact g3, by rw [← h3]; omega, by omega, by omega, by omega⟩⟩
                · refine i_143_104 (x := 108) l0 ?_
                  refine i_143_105 (x := 29) l1 ?_
                  refine i_143_106 (x := Int32.ofInt ta) l4 ?_
                  refine i_143_108 (x := Int32.ofInt (n : Int)) l2 ?_
                  have hobj := hR.k10 kq_108
                  rw [show ta = ((r.1 : Nat) : Int) by omega]
                  obtain ⟨w, hrun, T2, hR, hx⟩ := x_te (d := d + 2) (n := n) (a0 := r.1) hR (by rw [et29]; exact hB) hn (by omega)
                  rw [et29] at hrun hx
                  refine i_143_109 hobj (Nat.le_of_ble_eq_true rfl) hrun ?_
                  refine i_143_112 (zb_t fun c33 => ?_) (zb_f fun c33 => ?_)
                  · refine i_143_117 (x := 108) l0 ?_
                    refine i_143_118 (x := 108) l0 ?_
                    refine i_143_119 (v := Value.ref 109) (hR.k10 kq_108) rfl ?_
                    obtain ⟨a35, hsz, hz35⟩ := hR.size (h := 109) (u := U1 109) kq_109 (rfl)
                    refine i_143_122 (v := Value.int (Int32.ofInt (((xbl (U1 109) + 31) / 32 : Nat) : Int))) hsz rfl ?_
                    refine i_143_125 (z_ne (a := (((xbl (U1 109) + 31) / 32 : Nat) : Int)) ⟨by omega, by omega⟩ fun c35 => ?_) (z_eq (a := (((xbl (U1 109) + 31) / 32 : Nat) : Int)) ⟨by omega, by omega⟩ fun c35 => ?_)
                    · refine i_143_132 ?_
                      refine i_143_133 (fs2 := f10 (u1 (T2 108) 5 3)) (hR.k10 kq_108) (Nat.le_of_ble_eq_true rfl) rfl (h7k kq_108 (by decide)) ?_
                      refine xgen (P := cX w0 L Z (u2 T2 108 5 3) U1) (hR.p10 kq_108) (fun w hR => ?_)
                      refine i_143_136 ?_
                      refine i_143_137 rfl ?_
                      obtain ⟨ev, hev⟩ := Option.isSome_iff_exists.mp ‹(exS (S 29) n r.1).isSome = true›
                      rw [hev] at hx
                      have hxe : T2 = u2 T1 108 8 (T1 108 8 + ev) := hx
                      have hevb := exS_b hev
                      have hz0 : ¬ r.2.2.2 = 0 := by
                        have hsz9 := ‹(((xbl (U1 109) + 31) / 32 : Nat) : Int) ≠ 0›
                        rw [g1.2.2.2.1] at hsz9
                        exact fun e => hsz9 (by rw [e, xbl_zero]; rfl)
                      have eo : unS (S 29) rx n = some (3, 1, r.2.2.2, -((r.2.2.1 : Nat) : Int) + ev) := by unfold unS unS1; rw [if_neg (by rw [‹wrd (S 29) 0 n 110 97 110 = false›]; decide), if_pos (by rw [← ht0d]; simp at *; omega), if_neg (by rw [‹wrd (S 29) 1 n 105 110 102 = false›]; decide), ← er]; unfold unS2; rw [if_neg (by omega), if_pos (by omega), hev]; dsimp only; rw [if_neg (by exact hz0)]
                      rw [eo]
                      refine ⟨rfl, _, _, hR, fun b j hb => by rw [u2_eq, if_neg (fun e => hb e.1), hxe, u2_eq, if_neg (fun e => hb e.1), g1.1 b j (fun e => hb e.1), u2_eq, if_neg (fun e => hb e.1), u2_eq, if_neg (fun e => hb e.1), u2_eq, if_neg (fun e => hb e.1)], fun i hi => g1.2.2.2.2 i hi, by rw [u2_eq, if_neg (fun e => absurd e.2 (by decide)), hxe, u2_eq, if_neg (by omega), g1.1 108 4 (by omega), u2_eq, if_neg (fun e => absurd e.2 (by decide)), u2_eq, if_neg (fun e => absurd e.2 (by decide)), u2_eq, if_pos ⟨rfl, rfl⟩], fun k sg v sh hx => ?_⟩
                      injection hx with hx
                      injection hx with h1 hx
                      injection hx with h2 hx
                      injection hx with h3 h4
                      refine ⟨by rw [u2_eq, if_pos ⟨rfl, rfl⟩, ← h1], by rw [u2_eq, if_neg (fun e => absurd e.2 (by decide)), hxe, u2_eq, if_neg (by omega), g1.1 108 6 (by omega), u2_eq, if_pos ⟨rfl, rfl⟩, ← h2], fun _ => ⟨by rw [g1.2.2.2.1, ← h3], by rw [← h4]; exact (by rw [u2_eq, if_neg (fun e => absurd e.2 (by decide)), hxe, u2_eq, if_pos ⟨rfl, rfl⟩, g1.2.2.1]), sig, by rw [u2_eq, if_neg (fun e => absurd e.2 (by decide)), hxe, u2_eq, if_neg (by omega), g1.2.1], by rw [← h3]; exact g2, by rw [← h3]; exact g3, by rw [← h3]; omega, by omega, by omega, by omega⟩⟩
                    · refine i_143_128 ?_
                      refine i_143_129 ?_
                      refine i_143_133 (fs2 := f10 (u1 (T2 108) 5 2)) (hR.k10 kq_108) (Nat.le_of_ble_eq_true rfl) rfl (h7k kq_108 (by decide)) ?_
                      refine xgen (P := cX w0 L Z (u2 T2 108 5 2) U1) (hR.p10 kq_108) (fun w hR => ?_)
                      refine i_143_136 ?_
                      refine i_143_137 rfl ?_
                      obtain ⟨ev, hev⟩ := Option.isSome_iff_exists.mp ‹(exS (S 29) n r.1).isSome = true›
                      rw [hev] at hx
                      have hxe : T2 = u2 T1 108 8 (T1 108 8 + ev) := hx
                      have hevb := exS_b hev
                      have hz0 : r.2.2.2 = 0 := by
                        have hsz9 := ‹(((xbl (U1 109) + 31) / 32 : Nat) : Int) = 0›
                        rw [g1.2.2.2.1] at hsz9
                        exact xbl_nz.mp (by omega)
                      have eo : unS (S 29) rx n = some (2, 1, r.2.2.2, -((r.2.2.1 : Nat) : Int) + ev) := by unfold unS unS1; rw [if_neg (by rw [‹wrd (S 29) 0 n 110 97 110 = false›]; decide), if_pos (by rw [← ht0d]; simp at *; omega), if_neg (by rw [‹wrd (S 29) 1 n 105 110 102 = false›]; decide), ← er]; unfold unS2; rw [if_neg (by omega), if_pos (by omega), hev]; dsimp only; rw [if_pos (by exact hz0)]
                      rw [eo]
                      refine ⟨rfl, _, _, hR, fun b j hb => by rw [u2_eq, if_neg (fun e => hb e.1), hxe, u2_eq, if_neg (fun e => hb e.1), g1.1 b j (fun e => hb e.1), u2_eq, if_neg (fun e => hb e.1), u2_eq, if_neg (fun e => hb e.1), u2_eq, if_neg (fun e => hb e.1)], fun i hi => g1.2.2.2.2 i hi, by rw [u2_eq, if_neg (fun e => absurd e.2 (by decide)), hxe, u2_eq, if_neg (by omega), g1.1 108 4 (by omega), u2_eq, if_neg (fun e => absurd e.2 (by decide)), u2_eq, if_neg (fun e => absurd e.2 (by decide)), u2_eq, if_pos ⟨rfl, rfl⟩], fun k sg v sh hx => ?_⟩
                      injection hx with hx
                      injection hx with h1 hx
                      injection hx with h2 hx
                      injection hx with h3 h4
                      refine ⟨by rw [u2_eq, if_pos ⟨rfl, rfl⟩, ← h1], by rw [u2_eq, if_neg (fun e => absurd e.2 (by decide)), hxe, u2_eq, if_neg (by omega), g1.1 108 6 (by omega), u2_eq, if_pos ⟨rfl, rfl⟩, ← h2], fun _ => ⟨by rw [g1.2.2.2.1, ← h3], by rw [← h4]; exact (by rw [u2_eq, if_neg (fun e => absurd e.2 (by decide)), hxe, u2_eq, if_pos ⟨rfl, rfl⟩, g1.2.2.1]), sig, by rw [u2_eq, if_neg (fun e => absurd e.2 (by decide)), hxe, u2_eq, if_neg (by omega), g1.2.1], by rw [← h3]; exact g2, by rw [← h3]; exact g3, by rw [← h3]; omega, by omega, by omega, by omega⟩⟩
                  · refine i_143_115 ?_
                    refine i_143_116 rfl ?_
                    have hnone : exS (S 29) n r.1 = none := by have h9 := ‹(exS (S 29) n r.1).isSome = false›; exact Option.isSome_eq_false_iff.mp h9 |> Option.isNone_iff_eq_none.mp
                    rw [hnone] at hx
                    have eo : unS (S 29) rx n = none := by unfold unS unS1; rw [if_neg (by rw [‹wrd (S 29) 0 n 110 97 110 = false›]; decide), if_pos (by rw [← ht0d]; simp at *; omega), if_neg (by rw [‹wrd (S 29) 1 n 105 110 102 = false›]; decide), ← er]; unfold unS2; rw [if_neg (by omega), if_pos (by omega), hnone]
                    rw [eo]
                    refine ⟨rfl, _, _, hR, fun b j hb => by rw [show T2 = T1 from hx, g1.1 b j (fun e => hb e.1), u2_eq, if_neg (fun e => hb e.1), u2_eq, if_neg (fun e => hb e.1), u2_eq, if_neg (fun e => hb e.1)], fun i hi => g1.2.2.2.2 i hi, by rw [show T2 = T1 from hx, g1.1 108 4 (by omega), u2_eq, if_neg (fun e => absurd e.2 (by decide)), u2_eq, if_neg (fun e => absurd e.2 (by decide)), u2_eq, if_pos ⟨rfl, rfl⟩], fun k sg v sh hx => by simp at hx⟩
            · refine i_143_76 (x := 108) l0 ?_
              refine i_143_77 ?_
              refine i_143_78 (fs2 := f10 (u1 ((u2 (u2 (u2 S 108 4 (rx : Int)) 108 6 0) 108 6 1) 108) 5 1)) (hR.k10 kq_108) (Nat.le_of_ble_eq_true rfl) rfl (h7k kq_108 (by decide)) ?_
              refine xgen (P := cX w0 L Z (u2 (u2 (u2 (u2 S 108 4 (rx : Int)) 108 6 0) 108 6 1) 108 5 1) V) (hR.p10 kq_108) (fun w hR => ?_)
              refine i_143_81 ?_
              refine i_143_82 rfl ?_
              have eo : unS (S 29) rx n = some (1, 1, 0, 0) := by unfold unS unS1; rw [if_neg (by rw [‹wrd (S 29) 0 n 110 97 110 = false›]; decide), if_pos (by rw [← ht0d]; simp at *; omega), if_pos ‹_›]
              rw [eo]
              refine ⟨rfl, _, _, hR, fun b j hb => by rw [u2_eq, if_neg (fun e => hb e.1), u2_eq, if_neg (fun e => hb e.1), u2_eq, if_neg (fun e => hb e.1), u2_eq, if_neg (fun e => hb e.1)], fun _ _ => rfl, by rw [u2_eq, if_neg (fun e => absurd e.2 (by decide)), u2_eq, if_neg (fun e => absurd e.2 (by decide)), u2_eq, if_neg (fun e => absurd e.2 (by decide)), u2_eq, if_pos ⟨rfl, rfl⟩], fun k sg v sh hx => ?_⟩
              injection hx with hx
              injection hx with h1 hx
              injection hx with h2 hx
              exact ⟨by rw [u2_eq, if_pos ⟨rfl, rfl⟩, ← h1], by rw [u2_eq, if_neg (fun e => absurd e.2 (by decide)), u2_eq, if_pos ⟨rfl, rfl⟩, ← h2], fun e => by omega⟩
    · refine i_143_21 (x := 108) l0 ?_
      refine i_143_22 ?_
      refine i_143_23 (fs2 := f10 (u1 ((u2 (u2 S 108 4 (rx : Int)) 108 6 0) 108) 5 0)) (hR.k10 kq_108) (Nat.le_of_ble_eq_true rfl) rfl (h7k kq_108 (by decide)) ?_
      refine xgen (P := cX w0 L Z (u2 (u2 (u2 S 108 4 (rx : Int)) 108 6 0) 108 5 0) V) (hR.p10 kq_108) (fun w hR => ?_)
      refine i_143_26 ?_
      refine i_143_27 rfl ?_
      have eo : unS (S 29) rx n = some (0, 0, 0, 0) := by unfold unS; rw [if_pos ‹_›]
      rw [eo]
      refine ⟨rfl, _, _, hR, fun b j hb => by rw [u2_eq, if_neg (fun e => hb e.1), u2_eq, if_neg (fun e => hb e.1), u2_eq, if_neg (fun e => hb e.1)], fun _ _ => rfl, by rw [u2_eq, if_neg (fun e => absurd e.2 (by decide)), u2_eq, if_neg (fun e => absurd e.2 (by decide)), u2_eq, if_pos ⟨rfl, rfl⟩], fun k sg v sh hx => ?_⟩
      injection hx with hx
      injection hx with h1 hx
      injection hx with h2 hx
      exact ⟨by rw [u2_eq, if_pos ⟨rfl, rfl⟩, ← h1], by rw [u2_eq, if_neg (fun e => absurd e.2 (by decide)), u2_eq, if_pos ⟨rfl, rfl⟩, ← h2], fun e => by omega⟩
  obtain ⟨o, w', h1, rfl, h2⟩ := (key (lv_args 0 [Value.ref 108, Value.ref 29, Value.int (Int32.ofInt (n : Int)), Value.int (Int32.ofInt (rx : Int))]) rfl rfl rfl rfl).run
  exact ⟨w', h1, h2⟩
end
