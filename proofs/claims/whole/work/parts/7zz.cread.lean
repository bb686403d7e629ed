/-! reading: takeDigits, takeExponent -/
section
variable {w0 w : xW} {L Z : Nat} {S : Nat → Nat → Int} {V : Nat → Nat} {d rx n a0 : Nat}
set_option maxHeartbeats 4000000 in
theorem x_td (hR : cX w0 L Z S V w) (hr : 2 ≤ rx ∧ rx ≤ 36) (hB : ∀ j, -128 ≤ S 29 j ∧ S 29 j ≤ 127) (hn : n ≤ 4096) (hrx : S 108 4 = (rx : Int)) (ha0 : a0 ≤ n) : ∃ w', xRun (d + 5) 146 [Value.ref 108, Value.ref 29, Value.int (Int32.ofInt (a0 : Int)), Value.int (Int32.ofInt (n : Int))] w (.inl (some (.int (Int32.ofInt (if (rdS (S 29) rx n (n - a0) a0 0 0 0 0).2.1 = 0 then -1 else (((rdS (S 29) rx n (n - a0) a0 0 0 0 0).1 : Nat) : Int)))))) w' ∧ ∃ S' V' sig, cX w0 L Z S' V' w' ∧ rdT S V S' V' sig (-(((rdS (S 29) rx n (n - a0) a0 0 0 0 0).2.2.1 : Nat) : Int)) (rdS (S 29) rx n (n - a0) a0 0 0 0 0).2.2.2 ∧ (rdS (S 29) rx n (n - a0) a0 0 0 0 0).2.2.2 < rx ^ sig ∧ (sig = 0 ∨ rx ^ (sig - 1) ≤ (rdS (S 29) rx n (n - a0) a0 0 0 0 0).2.2.2) ∧ xbl (rdS (S 29) rx n (n - a0) a0 0 0 0 0).2.2.2 ≤ 6 * (rdS (S 29) rx n (n - a0) a0 0 0 0 0).2.1 ∧ (rdS (S 29) rx n (n - a0) a0 0 0 0 0).2.1 ≤ (rdS (S 29) rx n (n - a0) a0 0 0 0 0).1 ∧ (rdS (S 29) rx n (n - a0) a0 0 0 0 0).1 ≤ n ∧ sig ≤ (rdS (S 29) rx n (n - a0) a0 0 0 0 0).2.1 := by
  have key : ∀ lv, xld lv 0 = some (Value.ref 108) → xld lv 1 = some (Value.ref 29) → xld lv 2 = some (Value.int (Int32.ofInt (a0 : Int))) → xld lv 3 = some (Value.int (Int32.ofInt (n : Int))) → xEv (d + 5) 146 0 lv [] w (fun o w' => o = .inl (some (.int (Int32.ofInt (if (rdS (S 29) rx n (n - a0) a0 0 0 0 0).2.1 = 0 then -1 else (((rdS (S 29) rx n (n - a0) a0 0 0 0 0).1 : Nat) : Int))))) ∧ ∃ S' V' sig, cX w0 L Z S' V' w' ∧ rdT S V S' V' sig (-(((rdS (S 29) rx n (n - a0) a0 0 0 0 0).2.2.1 : Nat) : Int)) (rdS (S 29) rx n (n - a0) a0 0 0 0 0).2.2.2 ∧ (rdS (S 29) rx n (n - a0) a0 0 0 0 0).2.2.2 < rx ^ sig ∧ (sig = 0 ∨ rx ^ (sig - 1) ≤ (rdS (S 29) rx n (n - a0) a0 0 0 0 0).2.2.2) ∧ xbl (rdS (S 29) rx n (n - a0) a0 0 0 0 0).2.2.2 ≤ 6 * (rdS (S 29) rx n (n - a0) a0 0 0 0 0).2.1 ∧ (rdS (S 29) rx n (n - a0) a0 0 0 0 0).2.1 ≤ (rdS (S 29) rx n (n - a0) a0 0 0 0 0).1 ∧ (rdS (S 29) rx n (n - a0) a0 0 0 0 0).1 ≤ n ∧ sig ≤ (rdS (S 29) rx n (n - a0) a0 0 0 0 0).2.1) := by
    intro lv l0 l1 l2 l3
    refine i_146_0 ?_
    refine i_146_1 rfl ?_
    refine lgen1 (i := 4) (v := Value.int 0) (fun lv lg ls => ?_)
    replace l0 := lg 0 _ rfl rfl l0
    replace l1 := lg 1 _ rfl rfl l1
    replace l2 := lg 2 _ rfl rfl l2
    replace l3 := lg 3 _ rfl rfl l3
    have l4 := ls
    refine i_146_3 ?_
    refine i_146_4 rfl ?_
    refine lgen1 (i := 5) (v := Value.int 0) (fun lv lg ls => ?_)
    replace l4 := lg 4 _ rfl rfl l4
    replace l0 := lg 0 _ rfl rfl l0
    replace l1 := lg 1 _ rfl rfl l1
    replace l2 := lg 2 _ rfl rfl l2
    replace l3 := lg 3 _ rfl rfl l3
    have l5 := ls
    refine i_146_6 ?_
    refine i_146_7 rfl ?_
    refine lgen1 (i := 6) (v := Value.int 0) (fun lv lg ls => ?_)
    replace l5 := lg 5 _ rfl rfl l5
    replace l4 := lg 4 _ rfl rfl l4
    replace l0 := lg 0 _ rfl rfl l0
    replace l1 := lg 1 _ rfl rfl l1
    replace l2 := lg 2 _ rfl rfl l2
    replace l3 := lg 3 _ rfl rfl l3
    have l6 := ls
    refine i_146_9 ?_
    refine i_146_10 rfl ?_
    refine lgen1 (i := 7) (v := Value.int 1) (fun lv lg ls => ?_)
    replace l6 := lg 6 _ rfl rfl l6
    replace l5 := lg 5 _ rfl rfl l5
    replace l4 := lg 4 _ rfl rfl l4
    replace l0 := lg 0 _ rfl rfl l0
    replace l1 := lg 1 _ rfl rfl l1
    replace l2 := lg 2 _ rfl rfl l2
    replace l3 := lg 3 _ rfl rfl l3
    have l7 := ls
    refine i_146_12 (x := Int32.ofInt (a0 : Int)) l2 ?_
    refine i_146_13 rfl ?_
    refine lgen1 (i := 8) (v := Value.int (Int32.ofInt (a0 : Int))) (fun lv lg ls => ?_)
    replace l7 := lg 7 _ rfl rfl l7
    replace l6 := lg 6 _ rfl rfl l6
    replace l5 := lg 5 _ rfl rfl l5
    replace l4 := lg 4 _ rfl rfl l4
    replace l0 := lg 0 _ rfl rfl l0
    replace l1 := lg 1 _ rfl rfl l1
    replace l2 := lg 2 _ rfl rfl l2
    replace l3 := lg 3 _ rfl rfl l3
    have l8 := ls
    refine i_146_15 (x := 108) l0 ?_
    refine i_146_16 (v := Value.ref 109) (hR.k10 kq_108) rfl ?_
    refine i_146_19 ?_
    obtain ⟨a_, v_, hsz, hR⟩ := hR.zero (h := 109) kq_109
    refine i_146_20 hsz (Nat.le_of_ble_eq_true rfl) rfl (h7k kq_109 (by decide)) ?_
    refine xgen (P := cX w0 L Z S (uv V 109 0)) hR (fun w hR => ?_)
    refine i_146_23 (x := 108) l0 ?_
    refine i_146_24 ?_
    refine i_146_25 (fs2 := f10 (u1 (S 108) 7 0)) (hR.k10 kq_108) (Nat.le_of_ble_eq_true rfl) rfl (h7k kq_108 (by decide)) ?_
    refine xgen (P := cX w0 L Z (u2 S 108 7 0) (uv V 109 0)) (hR.p10 kq_108) (fun w hR => ?_)
    refine i_146_28 (x := 108) l0 ?_
    refine i_146_29 ?_
    refine i_146_30 (fs2 := f10 (u1 ((u2 S 108 7 0) 108) 8 0)) (hR.k10 kq_108) (Nat.le_of_ble_eq_true rfl) rfl (h7k kq_108 (by decide)) ?_
    refine xgen (P := cX w0 L Z (u2 (u2 S 108 7 0) 108 8 0) (uv V 109 0)) (hR.p10 kq_108) (fun w hR => ?_)
    refine td_loop (S := S) (V := V) (d := d) (rx := rx) (n := n) hr hB hrx hn (n - a0) a0 0 0 0 0 0 1 0 0 (an := 0) (sh := 0) (by omega) ha0 (by omega) (Or.inl rfl) hR ⟨fun b j hb => by rw [u2_eq, if_neg (by omega), u2_eq, if_neg (by omega)], by rw [u2_eq, if_neg (fun e => absurd e.2 (by decide)), u2_eq, if_pos ⟨rfl, rfl⟩]; rfl, by rw [u2_eq, if_pos ⟨rfl, rfl⟩], uv_s, fun i hi => by simp only [uv_e]; rw [if_neg hi]⟩ ⟨by decide, by decide, by decide, by rw [Nat.pow_zero]; decide, Or.inl rfl, by decide, by decide⟩ rfl rfl l0 l1 l3 l4 l5 l6 l7 l8 (fun {lv w S2 V2 a2 c2 b2 v2 sig2 wt2 ch2 D2 an2} hR hT hI hrd hca ha2 han l0 l5 l6 l7 l8 => ?_)
    have hanb : an2 = 0 ∨ an2 = 1 := by rw [han]; split; exact Or.inl rfl; exact Or.inr rfl
    refine i_146_184 (x := 108) l0 ?_
    refine i_146_185 (v := Value.ref 109) (hR.k10 kq_108) rfl ?_
    refine i_146_188 (x := Int32.ofInt (wt2 : Int)) l7 ?_
    refine i_146_190 (x := Int32.ofInt (ch2 : Int)) l6 ?_
    have hDb := hI.b
    have hch := hI.2.1
    have hwt := hI.2.2.1
    obtain ⟨fs, hobj⟩ := hR.nat kq_109
    obtain ⟨w, hrun, hR⟩ := X_mad (d := d + 1) (h := 109) (u := D2) (f := wt2) (g := ch2) hR kq_109 hT.2.2.2.1 (by omega) (by omega) (by omega) (by omega)
    refine i_146_192 hobj (Nat.le_of_ble_eq_true rfl) hrun ?_
    refine i_146_195 (x := Int32.ofInt an2) l5 ?_
    refine i_146_197 (z_eq (a := an2) ⟨by omega, by omega⟩ fun c30 => ?_) (z_ne (a := an2) ⟨by omega, by omega⟩ fun c30 => ?_)
    · refine i_146_205 ?_
      refine i_146_206 ?_
      have hv2 : v2 = D2 * wt2 + ch2 := hI.1
      rw [hrd]
      refine ⟨by rw [if_pos (show c2 = 0 from Classical.byContradiction fun e => by rw [if_neg e] at han; omega)]; rfl, S2, _, sig2, hR, by rw [hv2]; exact hT.dg, hI.2.2.2.1, hI.2.2.2.2.1, hI.2.2.2.2.2.1, hca, ha2, hI.2.2.2.2.2.2⟩
    · refine i_146_200 (x := Int32.ofInt (a2 : Int)) l8 ?_
      refine i_146_202 ?_
      refine i_146_206 ?_
      have hv2 : v2 = D2 * wt2 + ch2 := hI.1
      rw [hrd]
      refine ⟨by rw [if_neg (show ¬ c2 = 0 from fun e => by rw [if_pos e] at han; omega)], S2, _, sig2, hR, by rw [hv2]; exact hT.dg, hI.2.2.2.1, hI.2.2.2.2.1, hI.2.2.2.2.2.1, hca, ha2, hI.2.2.2.2.2.2⟩
  obtain ⟨o, w', h1, rfl, h2⟩ := (key (lv_args 0 [Value.ref 108, Value.ref 29, Value.int (Int32.ofInt (a0 : Int)), Value.int (Int32.ofInt (n : Int))]) rfl rfl rfl rfl).run
  exact ⟨w', h1, h2⟩
end
/-- the digits of an exponent -/
def rdE (t : Nat → Int) (n : Nat) : Nat → Nat → Nat → Option Nat
  | 0, _, e => some e
  | f + 1, a, e => if n ≤ a then some e else if dv (t a) < 0 ∨ 9 < dv (t a) then none else rdE t n f (a + 1) (min 1000000 (10 * e + (dv (t a)).toNat))
def exS (t : Nat → Int) (n a : Nat) : Option Int :=
  if t a ≠ 64 then none
  else if a + 1 < n ∧ (t (a + 1) = 43 ∨ t (a + 1) = 45) then (if n ≤ a + 2 then none else (rdE t n (n - (a + 2)) (a + 2) 0).map (fun (e : Nat) => if t (a + 1) = 45 then -(e : Int) else (e : Int)))
  else if n ≤ a + 1 then none else (rdE t n (n - (a + 1)) (a + 1) 0).map (fun (e : Nat) => (e : Int))
def exQ (S S' : Nat → Nat → Int) (x : Option Int) : Prop := match x with
  | none => S' = S
  | some e => S' = u2 S 108 8 (S 108 8 + e)
section
variable {w0 : xW} {L Z : Nat} {S : Nat → Nat → Int} {V : Nat → Nat} {d n : Nat} {Q : Option Value ⊕ Nat → xW → Prop}
set_option maxHeartbeats 4000000 in
theorem te_loop {dn : Int} (hB : ∀ j, -128 ≤ S 29 j ∧ S 29 j ≤ 127) (hn : n ≤ 4096) (hdn : dn = 0 ∨ dn = 1) : ∀ (f a e : Nat) {lv : xLv} {w : xW}, n = a + f → e ≤ 1000000 → cX w0 L Z S V w → xld lv 0 = some (Value.ref 108) → xld lv 1 = some (Value.ref 29) → xld lv 3 = some (Value.int (Int32.ofInt (n : Int))) → xld lv 4 = some (Value.int (Int32.ofInt (a : Int))) → xld lv 5 = some (Value.int (Int32.ofInt dn)) → xld lv 6 = some (Value.int (Int32.ofInt (e : Int))) → (rdE (S 29) n f a e = none → ∀ w, cX w0 L Z S V w → Q (.inl (some (.int 0))) w) → (∀ x, rdE (S 29) n f a e = some x → ∀ w, cX w0 L Z (u2 S 108 8 (S 108 8 + (if dn = 0 then (x : Int) else -(x : Int)))) V w → Q (.inl (some (.int 1))) w) → xEv (d + 3) 148 64 lv [] w Q := by
  intro f
  induction f with
  | zero =>
    intro a e lv w hf he hR l0 l1 l3 l4 l5 l6 hN hY
    refine i_148_64 (x := Int32.ofInt (a : Int)) l4 ?_
    refine i_148_66 (x := Int32.ofInt (n : Int)) l3 ?_
    refine i_148_67 (b_le (a := (n : Int)) (b := (a : Int)) ⟨by omega, by omega⟩ ⟨by omega, by omega⟩ fun c50 => ?_) (b_lt (a := (a : Int)) (b := (n : Int)) ⟨by omega, by omega⟩ ⟨by omega, by omega⟩ fun c50 => absurd c50 (by omega))
    refine i_148_114 (x := 108) l0 ?_
    refine i_148_115 rfl ?_
    refine i_148_116 (v := Value.int (Int32.ofInt (S 108 8))) (hR.k10 kq_108) rfl ?_
    refine i_148_119 (x := Int32.ofInt dn) l5 ?_
    refine i_148_121 (z_eq (a := dn) ⟨by omega, by omega⟩ fun c51 => ?_) (z_ne (a := dn) ⟨by omega, by omega⟩ fun c51 => ?_)
    · refine i_148_130 (x := Int32.ofInt (e : Int)) l6 ?_
      refine i_148_132 (c := Int32.ofInt ((S 108 8) + (e : Int))) (o_add (S 108 8) (e : Int)) ?_
      refine i_148_133 (fs2 := f10 (u1 (S 108) 8 ((S 108 8) + (e : Int)))) (hR.k10 kq_108) (Nat.le_of_ble_eq_true rfl) rfl (h7k kq_108 (by decide)) ?_
      refine xgen (P := cX w0 L Z (u2 S 108 8 ((S 108 8) + (e : Int))) V) (hR.p10 kq_108) (fun w hR => ?_)
      refine i_148_136 ?_
      refine i_148_137 rfl ?_
      refine hY e rfl w ?_
      rw [if_pos (by omega)]
      exact hR
    · refine i_148_124 (x := Int32.ofInt (e : Int)) l6 ?_
      refine i_148_126 (c := Int32.ofInt (-(e : Int))) (o_neg (e : Int)) ?_
      refine i_148_127 ?_
      refine i_148_132 (c := Int32.ofInt ((S 108 8) + (-(e : Int)))) (o_add (S 108 8) (-(e : Int))) ?_
      refine i_148_133 (fs2 := f10 (u1 (S 108) 8 ((S 108 8) + (-(e : Int))))) (hR.k10 kq_108) (Nat.le_of_ble_eq_true rfl) rfl (h7k kq_108 (by decide)) ?_
      refine xgen (P := cX w0 L Z (u2 S 108 8 ((S 108 8) + (-(e : Int)))) V) (hR.p10 kq_108) (fun w hR => ?_)
      refine i_148_136 ?_
      refine i_148_137 rfl ?_
      refine hY e rfl w ?_
      rw [if_neg (by omega)]
      exact hR
  | succ f ih =>
    intro a e lv w hf he hR l0 l1 l3 l4 l5 l6 hN hY
    obtain ⟨tb, htbd⟩ : ∃ tb, tb = S 29 a := ⟨_, rfl⟩
    have htb : -128 ≤ tb ∧ tb ≤ 127 := by rw [htbd]; exact hB a
    have etb : S 29 ((a : Int)).toNat = tb := htbd.symm
    have hdv := dv_b tb
    refine i_148_64 (x := Int32.ofInt (a : Int)) l4 ?_
    refine i_148_66 (x := Int32.ofInt (n : Int)) l3 ?_
    refine i_148_67 (b_le (a := (n : Int)) (b := (a : Int)) ⟨by omega, by omega⟩ ⟨by omega, by omega⟩ fun c0 => ?_) (b_lt (a := (a : Int)) (b := (n : Int)) ⟨by omega, by omega⟩ ⟨by omega, by omega⟩ fun c0 => ?_)
    · refine i_148_114 (x := 108) l0 ?_
      refine i_148_115 rfl ?_
      refine i_148_116 (v := Value.int (Int32.ofInt (S 108 8))) (hR.k10 kq_108) rfl ?_
      refine i_148_119 (x := Int32.ofInt dn) l5 ?_
      refine i_148_121 (z_eq (a := dn) ⟨by omega, by omega⟩ fun c1 => ?_) (z_ne (a := dn) ⟨by omega, by omega⟩ fun c1 => ?_)
      · refine i_148_130 (x := Int32.ofInt (e : Int)) l6 ?_
        refine i_148_132 (c := Int32.ofInt ((S 108 8) + (e : Int))) (o_add (S 108 8) (e : Int)) ?_
        refine i_148_133 (fs2 := f10 (u1 (S 108) 8 ((S 108 8) + (e : Int)))) (hR.k10 kq_108) (Nat.le_of_ble_eq_true rfl) rfl (h7k kq_108 (by decide)) ?_
        refine xgen (P := cX w0 L Z (u2 S 108 8 ((S 108 8) + (e : Int))) V) (hR.p10 kq_108) (fun w hR => ?_)
        refine i_148_136 ?_
        refine i_148_137 rfl ?_
        refine hY e (by rw [rdE, if_pos (by omega)]) w ?_
        rw [if_pos (by omega)]
        exact hR
      · refine i_148_124 (x := Int32.ofInt (e : Int)) l6 ?_
        refine i_148_126 (c := Int32.ofInt (-(e : Int))) (o_neg (e : Int)) ?_
        refine i_148_127 ?_
        refine i_148_132 (c := Int32.ofInt ((S 108 8) + (-(e : Int)))) (o_add (S 108 8) (-(e : Int))) ?_
        refine i_148_133 (fs2 := f10 (u1 (S 108) 8 ((S 108 8) + (-(e : Int))))) (hR.k10 kq_108) (Nat.le_of_ble_eq_true rfl) rfl (h7k kq_108 (by decide)) ?_
        refine xgen (P := cX w0 L Z (u2 S 108 8 ((S 108 8) + (-(e : Int)))) V) (hR.p10 kq_108) (fun w hR => ?_)
        refine i_148_136 ?_
        refine i_148_137 rfl ?_
        refine hY e (by rw [rdE, if_pos (by omega)]) w ?_
        rw [if_neg (by omega)]
        exact hR
    · refine i_148_70 (x := 29) l1 ?_
      refine i_148_71 (x := Int32.ofInt (a : Int)) l4 ?_
      refine i_148_73 (v := Value.int (Int32.ofInt (S 29 ((a : Int)).toNat))) (hR.bytes (a := 29) (n := 4096) (by omega)) (ix0 (T := (a : Int)) (by omega) (by omega)) (ix1 (T := (a : Int)) (by omega) (by omega) (by omega)) (ra (T := (a : Int)) (by omega) (by omega) rfl) ?_
      rw [etb]
      have hrun := x_val (d := d + 2) (w := w) (c := tb) htb
      refine i_148_74 (Nat.le_of_ble_eq_true rfl) hrun ?_
      refine i_148_77 rfl ?_
      refine lgen1 (i := 7) (v := Value.int (Int32.ofInt (dv tb))) (fun lv lg ls => ?_)
      replace l0 := lg 0 _ rfl rfl l0
      replace l1 := lg 1 _ rfl rfl l1
      replace l3 := lg 3 _ rfl rfl l3
      replace l4 := lg 4 _ rfl rfl l4
      replace l5 := lg 5 _ rfl rfl l5
      replace l6 := lg 6 _ rfl rfl l6
      have l7 := ls
      refine i_148_79 (x := Int32.ofInt (dv tb)) l7 ?_
      refine i_148_81 (z_lt (a := dv tb) ⟨by omega, by omega⟩ fun c2 => ?_) (z_ge (a := dv tb) ⟨by omega, by omega⟩ fun c2 => ?_)
      · refine i_148_91 ?_
        refine i_148_92 rfl ?_
        exact hN (by rw [rdE, if_neg (by omega), if_pos (by rw [← htbd]; omega)]) w hR
      · refine i_148_84 (x := Int32.ofInt (dv tb)) l7 ?_
        refine i_148_86 ?_
        refine i_148_88 (b_le (a := dv tb) (b := 9) ⟨by omega, by omega⟩ ⟨by decide, by decide⟩ fun c3 => ?_) (b_lt (a := 9) (b := dv tb) ⟨by decide, by decide⟩ ⟨by omega, by omega⟩ fun c3 => ?_)
        · refine i_148_93 ?_
          refine i_148_95 ?_
          refine i_148_97 (x := Int32.ofInt (e : Int)) l6 ?_
          refine i_148_99 (c := Int32.ofInt (10 * (e : Int))) (o_mul 10 (e : Int)) ?_
          refine i_148_100 (x := Int32.ofInt (dv tb)) l7 ?_
          refine i_148_102 (c := Int32.ofInt ((10 * (e : Int)) + (dv tb))) (o_add (10 * (e : Int)) (dv tb)) ?_
          have hrun := s_min (d := d + 1) (w := w) (a := 1000000) (b := 10 * (e : Int) + dv tb) ⟨by decide, by decide⟩ ⟨by omega, by omega⟩
          rw [show Int32.ofInt (1000000 : Int) = 1000000 from rfl, show min (1000000 : Int) (10 * (e : Int) + dv tb) = ((min 1000000 (10 * e + (dv tb).toNat) : Nat) : Int) by omega] at hrun
          refine i_148_103 (Nat.le_of_ble_eq_true rfl) hrun ?_
          refine i_148_106 rfl ?_
          refine lgen1 (i := 6) (v := Value.int (Int32.ofInt ((min 1000000 (10 * e + (dv tb).toNat) : Nat) : Int))) (fun lv lg ls => ?_)
          replace l7 := lg 7 _ rfl rfl l7
          replace l0 := lg 0 _ rfl rfl l0
          replace l1 := lg 1 _ rfl rfl l1
          replace l3 := lg 3 _ rfl rfl l3
          replace l4 := lg 4 _ rfl rfl l4
          replace l5 := lg 5 _ rfl rfl l5
          have l6 := ls
          refine i_148_108 (x := (Int32.ofInt (a : Int))) (c := (Int32.ofInt ((a : Int) + 1))) l4 (o_add (a : Int) 1) rfl ?_
          refine lgen1 (i := 4) (v := Value.int (Int32.ofInt ((a : Int) + 1))) (fun lv lg ls => ?_)
          replace l6 := lg 6 _ rfl rfl l6
          replace l7 := lg 7 _ rfl rfl l7
          replace l0 := lg 0 _ rfl rfl l0
          replace l1 := lg 1 _ rfl rfl l1
          replace l3 := lg 3 _ rfl rfl l3
          replace l5 := lg 5 _ rfl rfl l5
          have l4 := ls
          refine i_148_111 ?_
          exact ih (a + 1) _ (by omega) (by omega) hR l0 l1 l3 l4 l5 l6 (fun hx => hN (by rw [rdE, if_neg (by omega), if_neg (by rw [← htbd]; omega), ← htbd]; exact hx)) (fun x hx => hY x (by rw [rdE, if_neg (by omega), if_neg (by rw [← htbd]; omega), ← htbd]; exact hx))
        · refine i_148_91 ?_
          refine i_148_92 rfl ?_
          exact hN (by rw [rdE, if_neg (by omega), if_pos (by rw [← htbd]; omega)]) w hR
end
