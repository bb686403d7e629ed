/-! reading: signs, digits -/
def dv (c : Int) : Int := if 48 ≤ c ∧ c ≤ 57 then c - 48 else if 97 ≤ c ∧ c ≤ 122 then c - 97 + 10 else if 65 ≤ c ∧ c ≤ 90 then c - 65 + 10 else -1
theorem dv_b (c : Int) : -1 ≤ dv c ∧ dv c ≤ 35 := by
  unfold dv
  split
  · omega
  · split
    · omega
    · split <;> omega
/-- the digits of a text: where they end, how many there are, how many behind the point, their number -/
def rdS (t : Nat → Int) (rx : Nat) (n : Nat) : Nat → Nat → Int → Nat → Nat → Nat → Nat × Nat × Nat × Nat
  | 0, a, _, c, b, v => (a, c, b, v)
  | f + 1, a, pt, c, b, v => if n ≤ a then (a, c, b, v) else if t a = 46 ∧ pt = 0 then rdS t rx n f (a + 1) 1 c b v else if dv (t a) < 0 ∨ (rx : Int) ≤ dv (t a) then (a, c, b, v) else rdS t rx n f (a + 1) pt (c + 1) (b + pt.toNat) (v * rx + (dv (t a)).toNat)
def tdI (rx c v sig wt ch D : Nat) : Prop := v = D * wt + ch ∧ ch < wt ∧ wt ≤ 59652323 ∧ v < rx ^ sig ∧ (sig = 0 ∨ rx ^ (sig - 1) ≤ v) ∧ xbl v ≤ 6 * c ∧ sig ≤ c
theorem tdI.b {rx c v sig wt ch D : Nat} (h : tdI rx c v sig wt ch D) : xbl D ≤ 6 * c := by
  obtain ⟨h1, h2, h3, h4, h5, h6, h7⟩ := h
  have : D ≤ v := by
    rw [h1]
    have := Nat.mul_le_mul_left D (show 1 ≤ wt by omega)
    omega
  exact Nat.le_trans (xbl_mono this) h6
theorem tdI.stp {rx c v sig wt ch D dg k : Nat} (h : tdI rx c v sig wt ch D) (hr : 2 ≤ rx ∧ rx ≤ 36) (hd : dg < rx) (hk : k = if 0 < sig ∨ 0 < dg then 1 else 0) : v * rx + dg = D * (wt * rx) + (ch * rx + dg) ∧ ch * rx + dg < wt * rx ∧ v * rx + dg < rx ^ (sig + k) ∧ (sig + k = 0 ∨ rx ^ (sig + k - 1) ≤ v * rx + dg) ∧ xbl (v * rx + dg) ≤ 6 * (c + 1) ∧ sig + k ≤ c + 1 := by
  obtain ⟨h1, h2, h3, h4, h5, h6, h7⟩ := h
  have e1 : v * rx + dg = D * (wt * rx) + (ch * rx + dg) := by rw [h1]; grind
  have e2 : ch * rx + dg < wt * rx := by
    have := Nat.mul_le_mul_right rx (show ch + 1 ≤ wt from h2)
    rw [Nat.add_mul, Nat.one_mul] at this
    omega
  have e3 : xbl (v * rx + dg) ≤ 6 * (c + 1) := by
    refine xbl_le ?_
    have h8 := xbl_lt v
    have h9 : v + 1 ≤ 2 ^ (6 * c) := Nat.le_trans h8 (Nat.pow_le_pow_right (by omega) h6)
    have h10 := Nat.mul_le_mul h9 (show rx ≤ 2 ^ 6 by omega)
    rw [← Nat.pow_add, Nat.add_mul, Nat.one_mul] at h10
    rw [show 6 * (c + 1) = 6 * c + 6 by omega]
    omega
  have hv := Nat.mul_le_mul_right rx (show v + 1 ≤ rx ^ sig from h4)
  rw [Nat.add_mul, Nat.one_mul, ← Nat.pow_succ] at hv
  refine ⟨e1, e2, ?_, ?_, e3, ?_⟩
  · by_cases g : 0 < sig ∨ 0 < dg
    · rw [if_pos g] at hk
      rw [hk]
      exact Nat.lt_of_lt_of_le (show v * rx + dg < v * rx + rx by omega) hv
    · rw [if_neg g] at hk
      rw [hk]
      rw [show sig = 0 by omega, Nat.pow_zero] at h4 ⊢
      rw [show v = 0 by omega]
      omega
  · by_cases g : 0 < sig ∨ 0 < dg
    · rw [if_pos g] at hk
      right
      rw [hk, Nat.add_sub_cancel]
      rcases h5 with z | z
      · rw [z, Nat.pow_zero]
        omega
      · rcases Nat.eq_zero_or_pos sig with y | y
        · rw [y, Nat.pow_zero]; omega
        · have := Nat.mul_le_mul_right rx z
          rw [← Nat.pow_succ, show (sig - 1).succ = sig by omega] at this
          omega
    · rw [if_neg g] at hk
      left
      omega
  · split at hk <;> omega
theorem tdI.go {rx c v sig wt ch D dg k : Nat} (h : tdI rx c v sig wt ch D) (hr : 2 ≤ rx ∧ rx ≤ 36) (hd : dg < rx) (hk : k = if 0 < sig ∨ 0 < dg then 1 else 0) (hw : wt * rx ≤ 59652323) : tdI rx (c + 1) (v * rx + dg) (sig + k) (wt * rx) (ch * rx + dg) D := by
  obtain ⟨a1, a2, a3, a4, a5, a6⟩ := h.stp hr hd hk
  exact ⟨a1, a2, hw, a3, a4, a5, a6⟩
theorem tdI.fl {rx c v sig wt ch D dg k : Nat} (h : tdI rx c v sig wt ch D) (hr : 2 ≤ rx ∧ rx ≤ 36) (hd : dg < rx) (hk : k = if 0 < sig ∨ 0 < dg then 1 else 0) : tdI rx (c + 1) (v * rx + dg) (sig + k) 1 0 (D * (wt * rx) + (ch * rx + dg)) := by
  obtain ⟨a1, a2, a3, a4, a5, a6⟩ := h.stp hr hd hk
  exact ⟨by rw [Nat.mul_one, Nat.add_zero]; exact a1, by decide, by decide, a3, a4, a5, a6⟩
def rdT (S : Nat → Nat → Int) (V : Nat → Nat) (S1 : Nat → Nat → Int) (V1 : Nat → Nat) (sig : Nat) (sh : Int) (D : Nat) : Prop := (∀ b j, ¬ (b = 108 ∧ (j = 7 ∨ j = 8)) → S1 b j = S b j) ∧ S1 108 7 = (sig : Int) ∧ S1 108 8 = sh ∧ V1 109 = D ∧ ∀ i, i ≠ 109 → V1 i = V i
theorem rdT.up {S S1 : Nat → Nat → Int} {V V1 : Nat → Nat} {sig : Nat} {sh : Int} {D : Nat} {sh' : Int} {sig' : Nat} {z : Int} (h : rdT S V S1 V1 sig sh D) (hz : z = (sig' : Int)) : rdT S V (u2 (u2 S1 108 8 sh') 108 7 z) V1 sig' sh' D := by
  obtain ⟨a1, a2, a3, a4, a5⟩ := h
  refine ⟨fun b j hb => ?_, ?_, ?_, a4, a5⟩
  · rw [u2_eq, if_neg (by omega), u2_eq, if_neg (by omega)]; exact a1 b j hb
  · rw [u2_eq, if_pos ⟨rfl, rfl⟩]; exact hz
  · rw [u2_eq, if_neg (by omega), u2_eq, if_pos ⟨rfl, rfl⟩]
theorem rdT.dg {S S1 : Nat → Nat → Int} {V V1 : Nat → Nat} {sig : Nat} {sh : Int} {D D' : Nat} (h : rdT S V S1 V1 sig sh D) : rdT S V S1 (uv V1 109 D') sig sh D' := by
  obtain ⟨a1, a2, a3, a4, a5⟩ := h
  exact ⟨a1, a2, a3, uv_s, fun i hi => (uv_n hi).trans (a5 i hi)⟩
section
variable {w0 w : xW} {L Z : Nat} {S : Nat → Nat → Int} {V : Nat → Nat} {d h t r : Nat}
theorem x_val {c : Int} (hc : -128 ≤ c ∧ c ≤ 127) : xRun (d + 0) 147 [Value.int (Int32.ofInt c)] w (.inl (some (.int (Int32.ofInt (dv c))))) w := by
  have key : ∀ lv, xld lv 0 = some (Value.int (Int32.ofInt c)) → xEv (d + 0) 147 0 lv [] w (fun o w' => o = .inl (some (.int (Int32.ofInt (dv c)))) ∧ w' = w) := by
    intro lv l0
    refine i_147_0 (x := Int32.ofInt c) l0 ?_
    refine i_147_1 ?_
    refine i_147_3 (b_lt (a := c) (b := 48) ⟨by omega, by omega⟩ ⟨by decide, by decide⟩ fun c0 => ?_) (b_le (a := 48) (b := c) ⟨by decide, by decide⟩ ⟨by omega, by omega⟩ fun c0 => ?_)
    · refine i_147_17 (x := Int32.ofInt c) l0 ?_
      refine i_147_18 ?_
      refine i_147_20 (b_lt (a := c) (b := 97) ⟨by omega, by omega⟩ ⟨by decide, by decide⟩ fun c1 => ?_) (b_le (a := 97) (b := c) ⟨by decide, by decide⟩ ⟨by omega, by omega⟩ fun c1 => absurd c1 (by omega))
      refine i_147_37 (x := Int32.ofInt c) l0 ?_
      refine i_147_38 ?_
      refine i_147_40 (b_lt (a := c) (b := 65) ⟨by omega, by omega⟩ ⟨by decide, by decide⟩ fun c2 => ?_) (b_le (a := 65) (b := c) ⟨by decide, by decide⟩ ⟨by omega, by omega⟩ fun c2 => absurd c2 (by omega))
      refine i_147_57 ?_
      refine i_147_58 ?_
      exact ⟨by rw [show dv c = -1 from by unfold dv; grind]; rfl, rfl⟩
    · refine i_147_6 (x := Int32.ofInt c) l0 ?_
      refine i_147_7 ?_
      refine i_147_9 (b_lt (a := 57) (b := c) ⟨by decide, by decide⟩ ⟨by omega, by omega⟩ fun c3 => ?_) (b_le (a := c) (b := 57) ⟨by omega, by omega⟩ ⟨by decide, by decide⟩ fun c3 => ?_)
      · refine i_147_17 (x := Int32.ofInt c) l0 ?_
        refine i_147_18 ?_
        refine i_147_20 (b_lt (a := c) (b := 97) ⟨by omega, by omega⟩ ⟨by decide, by decide⟩ fun c4 => ?_) (b_le (a := 97) (b := c) ⟨by decide, by decide⟩ ⟨by omega, by omega⟩ fun c4 => ?_)
        · refine i_147_37 (x := Int32.ofInt c) l0 ?_
          refine i_147_38 ?_
          refine i_147_40 (b_lt (a := c) (b := 65) ⟨by omega, by omega⟩ ⟨by decide, by decide⟩ fun c5 => ?_) (b_le (a := 65) (b := c) ⟨by decide, by decide⟩ ⟨by omega, by omega⟩ fun c5 => ?_)
          · refine i_147_57 ?_
            refine i_147_58 ?_
            exact ⟨by rw [show dv c = -1 from by unfold dv; grind]; rfl, rfl⟩
          · refine i_147_43 (x := Int32.ofInt c) l0 ?_
            refine i_147_44 ?_
            refine i_147_46 (b_lt (a := 90) (b := c) ⟨by decide, by decide⟩ ⟨by omega, by omega⟩ fun c6 => ?_) (b_le (a := c) (b := 90) ⟨by omega, by omega⟩ ⟨by decide, by decide⟩ fun c6 => ?_)
            · refine i_147_57 ?_
              refine i_147_58 ?_
              exact ⟨by rw [show dv c = -1 from by unfold dv; grind]; rfl, rfl⟩
            · refine i_147_49 (x := Int32.ofInt c) l0 ?_
              refine i_147_50 ?_
              refine i_147_52 (c := Int32.ofInt (c - 65)) (o_sub c 65) ?_
              refine i_147_53 ?_
              refine i_147_55 (c := Int32.ofInt ((c - 65) + 10)) (o_add (c - 65) 10) ?_
              refine i_147_56 ?_
              exact ⟨by rw [show dv c = (c - 65) + 10 from by unfold dv; grind], rfl⟩
        · refine i_147_23 (x := Int32.ofInt c) l0 ?_
          refine i_147_24 ?_
          refine i_147_26 (b_lt (a := 122) (b := c) ⟨by decide, by decide⟩ ⟨by omega, by omega⟩ fun c7 => ?_) (b_le (a := c) (b := 122) ⟨by omega, by omega⟩ ⟨by decide, by decide⟩ fun c7 => ?_)
          · refine i_147_37 (x := Int32.ofInt c) l0 ?_
            refine i_147_38 ?_
            refine i_147_40 (b_lt (a := c) (b := 65) ⟨by omega, by omega⟩ ⟨by decide, by decide⟩ fun c8 => absurd c8 (by omega)) (b_le (a := 65) (b := c) ⟨by decide, by decide⟩ ⟨by omega, by omega⟩ fun c8 => ?_)
            refine i_147_43 (x := Int32.ofInt c) l0 ?_
            refine i_147_44 ?_
            refine i_147_46 (b_lt (a := 90) (b := c) ⟨by decide, by decide⟩ ⟨by omega, by omega⟩ fun c9 => ?_) (b_le (a := c) (b := 90) ⟨by omega, by omega⟩ ⟨by decide, by decide⟩ fun c9 => absurd c9 (by omega))
            refine i_147_57 ?_
            refine i_147_58 ?_
            exact ⟨by rw [show dv c = -1 from by unfold dv; grind]; rfl, rfl⟩
          · refine i_147_29 (x := Int32.ofInt c) l0 ?_
            refine i_147_30 ?_
            refine i_147_32 (c := Int32.ofInt (c - 97)) (o_sub c 97) ?_
            refine i_147_33 ?_
            refine i_147_35 (c := Int32.ofInt ((c - 97) + 10)) (o_add (c - 97) 10) ?_
            refine i_147_36 ?_
            exact ⟨by rw [show dv c = (c - 97) + 10 from by unfold dv; grind], rfl⟩
      · refine i_147_12 (x := Int32.ofInt c) l0 ?_
        refine i_147_13 ?_
        refine i_147_15 (c := Int32.ofInt (c - 48)) (o_sub c 48) ?_
        refine i_147_16 ?_
        exact ⟨by rw [show dv c = c - 48 from by unfold dv; grind], rfl⟩
  obtain ⟨o, w', h1, rfl, rfl⟩ := (key (lv_args 0 [Value.int (Int32.ofInt c)]) rfl).run
  exact h1
theorem x_sig {c : Int} (hc : -128 ≤ c ∧ c ≤ 127) : xRun (d + 0) 145 [Value.int (Int32.ofInt c)] w (.inl (some (.int (Int32.ofInt (bb (decide (c = 43 ∨ c = 45))))))) w := by
  have key : ∀ lv, xld lv 0 = some (Value.int (Int32.ofInt c)) → xEv (d + 0) 145 0 lv [] w (fun o w' => o = .inl (some (.int (Int32.ofInt (bb (decide (c = 43 ∨ c = 45)))))) ∧ w' = w) := by
    intro lv l0
    refine i_145_0 (x := Int32.ofInt c) l0 ?_
    refine i_145_1 ?_
    refine i_145_3 (b_eq (a := c) (b := 43) ⟨by omega, by omega⟩ ⟨by decide, by decide⟩ fun c0 => ?_) (b_ne (a := c) (b := 43) ⟨by omega, by omega⟩ ⟨by decide, by decide⟩ fun c0 => ?_)
    · refine i_145_12 ?_
      refine i_145_13 ?_
      refine i_145_17 rfl ?_
      exact ⟨by rw [show decide (c = 43 ∨ c = 45) = true from by simp; omega]; rfl, rfl⟩
    · refine i_145_6 (x := Int32.ofInt c) l0 ?_
      refine i_145_7 ?_
      refine i_145_9 (b_ne (a := c) (b := 45) ⟨by omega, by omega⟩ ⟨by decide, by decide⟩ fun c1 => ?_) (b_eq (a := c) (b := 45) ⟨by omega, by omega⟩ ⟨by decide, by decide⟩ fun c1 => ?_)
      · refine i_145_16 ?_
        refine i_145_17 rfl ?_
        exact ⟨by rw [show decide (c = 43 ∨ c = 45) = false from by simp; omega]; rfl, rfl⟩
      · refine i_145_12 ?_
        refine i_145_13 ?_
        refine i_145_17 rfl ?_
        exact ⟨by rw [show decide (c = 43 ∨ c = 45) = true from by simp; omega]; rfl, rfl⟩
  obtain ⟨o, w', h1, rfl, rfl⟩ := (key (lv_args 0 [Value.int (Int32.ofInt c)]) rfl).run
  exact h1
end
section
variable {w0 : xW} {L Z : Nat} {S : Nat → Nat → Int} {V : Nat → Nat} {d rx n : Nat} {Q : Option Value ⊕ Nat → xW → Prop}
set_option maxHeartbeats 8000000 in
theorem td_loop (hr : 2 ≤ rx ∧ rx ≤ 36) (hB : ∀ j, -128 ≤ S 29 j ∧ S 29 j ≤ 127) (hrx : S 108 4 = (rx : Int)) (hn : n ≤ 4096) : ∀ (f a : Nat) (pt : Int) (c b v sig wt ch D : Nat) {an sh : Int} {lv : xLv} {w : xW} {S1 : Nat → Nat → Int} {V1 : Nat → Nat}, n ≤ a + f → a ≤ n → c ≤ a → (pt = 0 ∨ pt = 1) → cX w0 L Z S1 V1 w → rdT S V S1 V1 sig sh D → tdI rx c v sig wt ch D → an = (if c = 0 then 0 else 1) → sh = -(b : Int) → xld lv 0 = some (Value.ref 108) → xld lv 1 = some (Value.ref 29) → xld lv 3 = some (Value.int (Int32.ofInt (n : Int))) → xld lv 4 = some (Value.int (Int32.ofInt pt)) → xld lv 5 = some (Value.int (Int32.ofInt an)) → xld lv 6 = some (Value.int (Int32.ofInt (ch : Int))) → xld lv 7 = some (Value.int (Int32.ofInt (wt : Int))) → xld lv 8 = some (Value.int (Int32.ofInt (a : Int))) → (∀ {lv : xLv} {w : xW} {S2 : Nat → Nat → Int} {V2 : Nat → Nat} {a2 c2 b2 v2 sig2 wt2 ch2 D2 : Nat} {an2 : Int}, cX w0 L Z S2 V2 w → rdT S V S2 V2 sig2 (-(b2 : Int)) D2 → tdI rx c2 v2 sig2 wt2 ch2 D2 → rdS (S 29) rx n f a pt c b v = (a2, c2, b2, v2) → c2 ≤ a2 → a2 ≤ n → an2 = (if c2 = 0 then 0 else 1) → xld lv 0 = some (Value.ref 108) → xld lv 5 = some (Value.int (Int32.ofInt an2)) → xld lv 6 = some (Value.int (Int32.ofInt (ch2 : Int))) → xld lv 7 = some (Value.int (Int32.ofInt (wt2 : Int))) → xld lv 8 = some (Value.int (Int32.ofInt (a2 : Int))) → xEv (d + 5) 146 184 lv [] w Q) → xEv (d + 5) 146 33 lv [] w Q := by
  intro f
  induction f with
  | zero =>
    intro a pt c b v sig wt ch D an sh lv w S1 V1 hf han0 hca hpt hR hT hI han hsh l0 l1 l3 l4 l5 l6 l7 l8 hQ
    refine i_146_33 (x := Int32.ofInt (a : Int)) l8 ?_
    refine i_146_35 (x := Int32.ofInt (n : Int)) l3 ?_
    refine i_146_36 (b_le (a := (n : Int)) (b := (a : Int)) ⟨by omega, by omega⟩ ⟨by omega, by omega⟩ fun c0 => ?_) (b_lt (a := (a : Int)) (b := (n : Int)) ⟨by omega, by omega⟩ ⟨by omega, by omega⟩ fun c0 => absurd c0 (by omega))
    exact hQ hR (hsh ▸ hT) hI rfl (by omega) (by omega) han l0 l5 l6 l7 l8
  | succ f ih =>
    intro a pt c b v sig wt ch D an sh lv w S1 V1 hf han0 hca hpt hR hT hI han hsh l0 l1 l3 l4 l5 l6 l7 l8 hQ
    have q4 : S1 108 4 = (rx : Int) := (hT.1 108 4 (by omega)).trans hrx
    obtain ⟨tb, htbd⟩ : ∃ tb, tb = S 29 a := ⟨_, rfl⟩
    have htb : -128 ≤ tb ∧ tb ≤ 127 := by rw [htbd]; exact hB a
    have etb : S1 29 ((a : Int)).toNat = tb := by rw [htbd]; exact hT.1 29 a (by omega)
    have hdv := dv_b tb
    obtain ⟨dg, hdge⟩ : ∃ dg, dg = (dv tb).toNat := ⟨_, rfl⟩
    have e6 : 0 ≤ dv tb → (ch : Int) * (rx : Int) + dv tb = ((ch * rx + dg : Nat) : Int) := fun h => by rw [Int.natCast_add, Int.natCast_mul]; omega
    have hwr := Nat.mul_le_mul hI.2.2.1 hr.2
    have hcl : 0 ≤ dv tb → dv tb < (rx : Int) → ch * rx + dg < wt * rx := fun h1 h2 => (hI.stp (k := if 0 < sig ∨ 0 < dg then 1 else 0) hr (show dg < rx by omega) rfl).2.1
    have hDb := hI.b
    have hsgb := hI.2.2.2.2.2.2
    have hchw := hI.2.1
    have hww := hI.2.2.1
    replace e6 : hid (0 ≤ dv tb → (ch : Int) * (rx : Int) + dv tb = ((ch * rx + dg : Nat) : Int)) := e6
    replace hcl : hid (0 ≤ dv tb → dv tb < (rx : Int) → ch * rx + dg < wt * rx) := hcl
    have hsh0 := hsh
    refine i_146_33 (x := Int32.ofInt (a : Int)) l8 ?_
    refine i_146_35 (x := Int32.ofInt (n : Int)) l3 ?_
    refine i_146_36 (b_le (a := (n : Int)) (b := (a : Int)) ⟨by omega, by omega⟩ ⟨by omega, by omega⟩ fun c0 => ?_) (b_lt (a := (a : Int)) (b := (n : Int)) ⟨by omega, by omega⟩ ⟨by omega, by omega⟩ fun c0 => ?_)
    · refine hQ hR (hsh ▸ hT) hI (by rw [rdS]; first | rw [if_pos (show n ≤ a by omega)] | rw [if_neg (by omega), if_neg (by rw [← htbd]; omega), if_pos (by rw [← htbd]; omega)]) (by omega) (by omega) han l0 l5 l6 l7 l8
    · refine i_146_39 (x := 29) l1 ?_
      refine i_146_40 (x := Int32.ofInt (a : Int)) l8 ?_
      refine i_146_42 (v := Value.int (Int32.ofInt (S1 29 ((a : Int)).toNat))) (hR.bytes (a := 29) (n := 4096) (by omega)) (ix0 (T := (a : Int)) (by omega) (by omega)) (ix1 (T := (a : Int)) (by omega) (by omega) (by omega)) (ra (T := (a : Int)) (by omega) (by omega) rfl) ?_
      rw [etb]
      have hrun := x_val (d := d + 4) (w := w) (c := tb) htb
      refine i_146_43 (Nat.le_of_ble_eq_true rfl) hrun ?_
      refine i_146_46 rfl ?_
      refine lgen1 (i := 9) (v := Value.int (Int32.ofInt (dv tb))) (fun lv lg ls => ?_)
      replace l0 := lg 0 _ rfl rfl l0
      replace l1 := lg 1 _ rfl rfl l1
      replace l3 := lg 3 _ rfl rfl l3
      replace l4 := lg 4 _ rfl rfl l4
      replace l5 := lg 5 _ rfl rfl l5
      replace l6 := lg 6 _ rfl rfl l6
      replace l7 := lg 7 _ rfl rfl l7
      replace l8 := lg 8 _ rfl rfl l8
      have l9 := ls
      refine i_146_48 (x := 29) l1 ?_
      refine i_146_49 (x := Int32.ofInt (a : Int)) l8 ?_
      refine i_146_51 (v := Value.int (Int32.ofInt (S1 29 ((a : Int)).toNat))) (hR.bytes (a := 29) (n := 4096) (by omega)) (ix0 (T := (a : Int)) (by omega) (by omega)) (ix1 (T := (a : Int)) (by omega) (by omega) (by omega)) (ra (T := (a : Int)) (by omega) (by omega) rfl) ?_
      rw [etb]
      refine i_146_52 ?_
      refine i_146_54 (b_ne (a := tb) (b := 46) ⟨by omega, by omega⟩ ⟨by decide, by decide⟩ fun c1 => ?_) (b_eq (a := tb) (b := 46) ⟨by omega, by omega⟩ ⟨by decide, by decide⟩ fun c1 => ?_)
      · refine i_146_68 (x := Int32.ofInt (dv tb)) l9 ?_
        refine i_146_70 (z_lt (a := dv tb) ⟨by omega, by omega⟩ fun c2 => ?_) (z_ge (a := dv tb) ⟨by omega, by omega⟩ fun c2 => ?_)
        · refine hQ hR (hsh ▸ hT) hI (by rw [rdS]; first | rw [if_pos (show n ≤ a by omega)] | rw [if_neg (by omega), if_neg (by rw [← htbd]; omega), if_pos (by rw [← htbd]; omega)]) (by omega) (by omega) han l0 l5 l6 l7 l8
        · refine i_146_73 (x := Int32.ofInt (dv tb)) l9 ?_
          refine i_146_75 (x := 108) l0 ?_
          refine i_146_76 (v := Value.int (Int32.ofInt (S1 108 4))) (hR.k10 kq_108) rfl ?_
          rw [q4]
          refine i_146_79 (b_lt (a := dv tb) (b := (rx : Int)) ⟨by omega, by omega⟩ ⟨by omega, by omega⟩ fun c3 => ?_) (b_le (a := (rx : Int)) (b := dv tb) ⟨by omega, by omega⟩ ⟨by omega, by omega⟩ fun c3 => ?_)
          · refine i_146_85 ?_
            refine i_146_86 rfl ?_
            refine lgen1 (i := 5) (v := Value.int 1) (fun lv lg ls => ?_)
            replace l9 := lg 9 _ rfl rfl l9
            replace l0 := lg 0 _ rfl rfl l0
            replace l1 := lg 1 _ rfl rfl l1
            replace l3 := lg 3 _ rfl rfl l3
            replace l4 := lg 4 _ rfl rfl l4
            replace l6 := lg 6 _ rfl rfl l6
            replace l7 := lg 7 _ rfl rfl l7
            replace l8 := lg 8 _ rfl rfl l8
            have l5 := ls
            refine i_146_88 (x := 108) l0 ?_
            refine i_146_89 rfl ?_
            refine i_146_90 (v := Value.int (Int32.ofInt (S1 108 8))) (hR.k10 kq_108) rfl ?_
            rw [hT.2.2.1]
            refine i_146_93 (x := Int32.ofInt pt) l4 ?_
            refine i_146_95 (z_eq (a := pt) ⟨by omega, by omega⟩ fun c4 => ?_) (z_ne (a := pt) ⟨by omega, by omega⟩ fun c4 => ?_)
            · refine i_146_102 ?_
              refine i_146_103 (c := Int32.ofInt (sh - 0)) (o_sub sh 0) ?_
              refine i_146_104 (fs2 := f10 (u1 (S1 108) 8 (sh - 0))) (hR.k10 kq_108) (Nat.le_of_ble_eq_true rfl) rfl (h7k kq_108 (by decide)) ?_
              refine xgen (P := cX w0 L Z (u2 S1 108 8 (sh - 0)) V1) (hR.p10 kq_108) (fun w hR => ?_)
              refine i_146_107 (x := 108) l0 ?_
              refine i_146_108 rfl ?_
              refine i_146_109 (v := Value.int (Int32.ofInt ((u2 S1 108 8 (sh - 0)) 108 7))) (hR.k10 kq_108) rfl ?_
              rw [show Int32.ofInt ((u2 S1 108 8 (sh - 0)) 108 7) = Int32.ofInt (S1 108 7) by rw [u2_eq, if_neg (fun e => absurd e.2 (by decide))]]
              rw [hT.2.1]
              refine i_146_112 (x := 108) l0 ?_
              refine i_146_113 (v := Value.int (Int32.ofInt ((u2 S1 108 8 (sh - 0)) 108 7))) (hR.k10 kq_108) rfl ?_
              rw [show Int32.ofInt ((u2 S1 108 8 (sh - 0)) 108 7) = Int32.ofInt (S1 108 7) by rw [u2_eq, if_neg (fun e => absurd e.2 (by decide))]]
              rw [hT.2.1]
              refine i_146_116 (z_gt (a := (sig : Int)) ⟨by omega, by omega⟩ fun c5 => ?_) (z_le (a := (sig : Int)) ⟨by omega, by omega⟩ fun c5 => ?_)
              · refine i_146_124 ?_
                refine i_146_125 ?_
                refine i_146_129 (c := Int32.ofInt ((sig : Int) + 1)) (o_add (sig : Int) 1) ?_
                refine i_146_130 (fs2 := f10 (u1 ((u2 S1 108 8 (sh - 0)) 108) 7 ((sig : Int) + 1))) (hR.k10 kq_108) (Nat.le_of_ble_eq_true rfl) rfl (h7k kq_108 (by decide)) ?_
                refine xgen (P := cX w0 L Z (u2 (u2 S1 108 8 (sh - 0)) 108 7 ((sig : Int) + 1)) V1) (hR.p10 kq_108) (fun w hR => ?_)
                refine i_146_133 (x := Int32.ofInt (ch : Int)) l6 ?_
                refine i_146_135 (x := 108) l0 ?_
                refine i_146_136 (v := Value.int (Int32.ofInt ((u2 (u2 S1 108 8 (sh - 0)) 108 7 ((sig : Int) + 1)) 108 4))) (hR.k10 kq_108) rfl ?_
                rw [show Int32.ofInt ((u2 (u2 S1 108 8 (sh - 0)) 108 7 ((sig : Int) + 1)) 108 4) = Int32.ofInt (S1 108 4) by rw [u2_eq, if_neg (fun e => absurd e.2 (by decide)), u2_eq, if_neg (fun e => absurd e.2 (by decide))]]
                rw [q4]
                refine i_146_139 (c := Int32.ofInt ((ch : Int) * (rx : Int))) (o_mul (ch : Int) (rx : Int)) ?_
                refine i_146_140 (x := Int32.ofInt (dv tb)) l9 ?_
                refine i_146_142 (c := Int32.ofInt ((ch * rx + dg : Nat) : Int)) ((o_add ((ch : Int) * (rx : Int)) (dv tb)).trans (by rw [e6 (by omega)])) ?_
                refine i_146_143 rfl ?_
                refine lgen1 (i := 6) (v := Value.int (Int32.ofInt ((ch * rx + dg : Nat) : Int))) (fun lv lg ls => ?_)
                replace l5 := lg 5 _ rfl rfl l5
                replace l9 := lg 9 _ rfl rfl l9
                replace l0 := lg 0 _ rfl rfl l0
                replace l1 := lg 1 _ rfl rfl l1
                replace l3 := lg 3 _ rfl rfl l3
                replace l4 := lg 4 _ rfl rfl l4
                replace l7 := lg 7 _ rfl rfl l7
                replace l8 := lg 8 _ rfl rfl l8
                have l6 := ls
                refine i_146_145 (x := Int32.ofInt (wt : Int)) l7 ?_
                refine i_146_147 (x := 108) l0 ?_
                refine i_146_148 (v := Value.int (Int32.ofInt ((u2 (u2 S1 108 8 (sh - 0)) 108 7 ((sig : Int) + 1)) 108 4))) (hR.k10 kq_108) rfl ?_
                rw [show Int32.ofInt ((u2 (u2 S1 108 8 (sh - 0)) 108 7 ((sig : Int) + 1)) 108 4) = Int32.ofInt (S1 108 4) by rw [u2_eq, if_neg (fun e => absurd e.2 (by decide)), u2_eq, if_neg (fun e => absurd e.2 (by decide))]]
                rw [q4]
                refine i_146_151 (c := Int32.ofInt ((wt * rx : Nat) : Int)) ((o_mul (wt : Int) (rx : Int)).trans (by rw [Int.natCast_mul])) ?_
                refine i_146_152 rfl ?_
                refine lgen1 (i := 7) (v := Value.int (Int32.ofInt ((wt * rx : Nat) : Int))) (fun lv lg ls => ?_)
                replace l6 := lg 6 _ rfl rfl l6
                replace l5 := lg 5 _ rfl rfl l5
                replace l9 := lg 9 _ rfl rfl l9
                replace l0 := lg 0 _ rfl rfl l0
                replace l1 := lg 1 _ rfl rfl l1
                replace l3 := lg 3 _ rfl rfl l3
                replace l4 := lg 4 _ rfl rfl l4
                replace l8 := lg 8 _ rfl rfl l8
                have l7 := ls
                refine i_146_154 (x := Int32.ofInt ((wt * rx : Nat) : Int)) l7 ?_
                refine i_146_156 ?_
                refine i_146_158 (b_le (a := ((wt * rx : Nat) : Int)) (b := 59652323) ⟨by omega, by omega⟩ ⟨by decide, by decide⟩ fun c6 => ?_) (b_lt (a := 59652323) (b := ((wt * rx : Nat) : Int)) ⟨by decide, by decide⟩ ⟨by omega, by omega⟩ fun c6 => ?_)
                · refine i_146_178 (x := (Int32.ofInt (a : Int))) (c := (Int32.ofInt ((a : Int) + 1))) l8 (o_add (a : Int) 1) rfl ?_
                  refine lgen1 (i := 8) (v := Value.int (Int32.ofInt ((a : Int) + 1))) (fun lv lg ls => ?_)
                  replace l7 := lg 7 _ rfl rfl l7
                  replace l6 := lg 6 _ rfl rfl l6
                  replace l5 := lg 5 _ rfl rfl l5
                  replace l9 := lg 9 _ rfl rfl l9
                  replace l0 := lg 0 _ rfl rfl l0
                  replace l1 := lg 1 _ rfl rfl l1
                  replace l3 := lg 3 _ rfl rfl l3
                  replace l4 := lg 4 _ rfl rfl l4
                  have l8 := ls
                  refine i_146_181 ?_
                  exact ih (a + 1) pt (c + 1) (b + pt.toNat) (v * rx + dg) (sig + 1) (wt * rx) (ch * rx + dg) D (by omega) (by omega) (by omega) hpt hR (hT.up (sig' := sig + 1) (by omega)) (hI.go hr (by omega) (by rw [if_pos (by omega)]) (by omega)) (an := 1) (by rw [if_neg (by omega)]) (by omega) l0 l1 l3 l4 l5 l6 l7 l8 (fun {lv w S2 V2 a2 c2 b2 v2 sig2 wt2 ch2 D2 an2} h1 h2 h3 h4 h5 h6 => hQ h1 h2 h3 (by rw [rdS, if_neg (by omega), if_neg (by rw [← htbd]; omega), if_neg (by rw [← htbd]; omega), ← htbd, ← hdge]; exact h4) h5 h6)
                · refine i_146_161 (x := 108) l0 ?_
                  refine i_146_162 (v := Value.ref 109) (hR.k10 kq_108) rfl ?_
                  refine i_146_165 (x := Int32.ofInt ((wt * rx : Nat) : Int)) l7 ?_
                  refine i_146_167 (x := Int32.ofInt ((ch * rx + dg : Nat) : Int)) l6 ?_
                  obtain ⟨fs, hobj⟩ := hR.nat kq_109
                  obtain ⟨w, hrun, hR⟩ := X_mad (d := d + 1) (h := 109) (u := D) (f := wt * rx) (g := ch * rx + dg) hR kq_109 hT.2.2.2.1 (by have := hI.2.1; omega) (by omega) (by have := hcl (by omega) (by omega); omega) (by omega)
                  refine i_146_169 hobj (Nat.le_of_ble_eq_true rfl) hrun ?_
                  refine i_146_172 ?_
                  refine i_146_173 rfl ?_
                  refine lgen1 (i := 6) (v := Value.int 0) (fun lv lg ls => ?_)
                  replace l7 := lg 7 _ rfl rfl l7
                  replace l5 := lg 5 _ rfl rfl l5
                  replace l9 := lg 9 _ rfl rfl l9
                  replace l0 := lg 0 _ rfl rfl l0
                  replace l1 := lg 1 _ rfl rfl l1
                  replace l3 := lg 3 _ rfl rfl l3
                  replace l4 := lg 4 _ rfl rfl l4
                  replace l8 := lg 8 _ rfl rfl l8
                  have l6 := ls
                  refine i_146_175 ?_
                  refine i_146_176 rfl ?_
                  refine lgen1 (i := 7) (v := Value.int 1) (fun lv lg ls => ?_)
                  replace l6 := lg 6 _ rfl rfl l6
                  replace l5 := lg 5 _ rfl rfl l5
                  replace l9 := lg 9 _ rfl rfl l9
                  replace l0 := lg 0 _ rfl rfl l0
                  replace l1 := lg 1 _ rfl rfl l1
                  replace l3 := lg 3 _ rfl rfl l3
                  replace l4 := lg 4 _ rfl rfl l4
                  replace l8 := lg 8 _ rfl rfl l8
                  have l7 := ls
                  refine i_146_178 (x := (Int32.ofInt (a : Int))) (c := (Int32.ofInt ((a : Int) + 1))) l8 (o_add (a : Int) 1) rfl ?_
                  refine lgen1 (i := 8) (v := Value.int (Int32.ofInt ((a : Int) + 1))) (fun lv lg ls => ?_)
                  replace l7 := lg 7 _ rfl rfl l7
                  replace l6 := lg 6 _ rfl rfl l6
                  replace l5 := lg 5 _ rfl rfl l5
                  replace l9 := lg 9 _ rfl rfl l9
                  replace l0 := lg 0 _ rfl rfl l0
                  replace l1 := lg 1 _ rfl rfl l1
                  replace l3 := lg 3 _ rfl rfl l3
                  replace l4 := lg 4 _ rfl rfl l4
                  have l8 := ls
                  refine i_146_181 ?_
                  exact ih (a + 1) pt (c + 1) (b + pt.toNat) (v * rx + dg) (sig + 1) 1 0 (D * (wt * rx) + (ch * rx + dg)) (by omega) (by omega) (by omega) hpt hR (hT.up (sig' := sig + 1) (by omega)).dg (hI.fl hr (by omega) (by rw [if_pos (by omega)])) (an := 1) (by rw [if_neg (by omega)]) (by omega) l0 l1 l3 l4 l5 l6 l7 l8 (fun {lv w S2 V2 a2 c2 b2 v2 sig2 wt2 ch2 D2 an2} h1 h2 h3 h4 h5 h6 => hQ h1 h2 h3 (by rw [rdS, if_neg (by omega), if_neg (by rw [← htbd]; omega), if_neg (by rw [← htbd]; omega), ← htbd, ← hdge]; exact h4) h5 h6)
              · refine i_146_119 (x := Int32.ofInt (dv tb)) l9 ?_
                refine i_146_121 (z_le (a := dv tb) ⟨by omega, by omega⟩ fun c7 => ?_) (z_gt (a := dv tb) ⟨by omega, by omega⟩ fun c7 => ?_)
                · refine i_146_128 ?_
                  refine i_146_129 (c := Int32.ofInt ((sig : Int) + 0)) (o_add (sig : Int) 0) ?_
                  refine i_146_130 (fs2 := f10 (u1 ((u2 S1 108 8 (sh - 0)) 108) 7 ((sig : Int) + 0))) (hR.k10 kq_108) (Nat.le_of_ble_eq_true rfl) rfl (h7k kq_108 (by decide)) ?_
                  refine xgen (P := cX w0 L Z (u2 (u2 S1 108 8 (sh - 0)) 108 7 ((sig : Int) + 0)) V1) (hR.p10 kq_108) (fun w hR => ?_)
                  refine i_146_133 (x := Int32.ofInt (ch : Int)) l6 ?_
                  refine i_146_135 (x := 108) l0 ?_
                  refine i_146_136 (v := Value.int (Int32.ofInt ((u2 (u2 S1 108 8 (sh - 0)) 108 7 ((sig : Int) + 0)) 108 4))) (hR.k10 kq_108) rfl ?_
                  rw [show Int32.ofInt ((u2 (u2 S1 108 8 (sh - 0)) 108 7 ((sig : Int) + 0)) 108 4) = Int32.ofInt (S1 108 4) by rw [u2_eq, if_neg (fun e => absurd e.2 (by decide)), u2_eq, if_neg (fun e => absurd e.2 (by decide))]]
                  rw [q4]
                  refine i_146_139 (c := Int32.ofInt ((ch : Int) * (rx : Int))) (o_mul (ch : Int) (rx : Int)) ?_
                  refine i_146_140 (x := Int32.ofInt (dv tb)) l9 ?_
                  refine i_146_142 (c := Int32.ofInt ((ch * rx + dg : Nat) : Int)) ((o_add ((ch : Int) * (rx : Int)) (dv tb)).trans (by rw [e6 (by omega)])) ?_
                  refine i_146_143 rfl ?_
                  refine lgen1 (i := 6) (v := Value.int (Int32.ofInt ((ch * rx + dg : Nat) : Int))) (fun lv lg ls => ?_)
                  replace l5 := lg 5 _ rfl rfl l5
                  replace l9 := lg 9 _ rfl rfl l9
                  replace l0 := lg 0 _ rfl rfl l0
                  replace l1 := lg 1 _ rfl rfl l1
                  replace l3 := lg 3 _ rfl rfl l3
                  replace l4 := lg 4 _ rfl rfl l4
                  replace l7 := lg 7 _ rfl rfl l7
                  replace l8 := lg 8 _ rfl rfl l8
                  have l6 := ls
                  refine i_146_145 (x := Int32.ofInt (wt : Int)) l7 ?_
                  refine i_146_147 (x := 108) l0 ?_
                  refine i_146_148 (v := Value.int (Int32.ofInt ((u2 (u2 S1 108 8 (sh - 0)) 108 7 ((sig : Int) + 0)) 108 4))) (hR.k10 kq_108) rfl ?_
                  rw [show Int32.ofInt ((u2 (u2 S1 108 8 (sh - 0)) 108 7 ((sig : Int) + 0)) 108 4) = Int32.ofInt (S1 108 4) by rw [u2_eq, if_neg (fun e => absurd e.2 (by decide)), u2_eq, if_neg (fun e => absurd e.2 (by decide))]]
                  rw [q4]
                  refine i_146_151 (c := Int32.ofInt ((wt * rx : Nat) : Int)) ((o_mul (wt : Int) (rx : Int)).trans (by rw [Int.natCast_mul])) ?_
                  refine i_146_152 rfl ?_
                  refine lgen1 (i := 7) (v := Value.int (Int32.ofInt ((wt * rx : Nat) : Int))) (fun lv lg ls => ?_)
                  replace l6 := lg 6 _ rfl rfl l6
                  replace l5 := lg 5 _ rfl rfl l5
                  replace l9 := lg 9 _ rfl rfl l9
                  replace l0 := lg 0 _ rfl rfl l0
                  replace l1 := lg 1 _ rfl rfl l1
                  replace l3 := lg 3 _ rfl rfl l3
                  replace l4 := lg 4 _ rfl rfl l4
                  replace l8 := lg 8 _ rfl rfl l8
                  have l7 := ls
                  refine i_146_154 (x := Int32.ofInt ((wt * rx : Nat) : Int)) l7 ?_
                  refine i_146_156 ?_
                  refine i_146_158 (b_le (a := ((wt * rx : Nat) : Int)) (b := 59652323) ⟨by omega, by omega⟩ ⟨by decide, by decide⟩ fun c8 => ?_) (b_lt (a := 59652323) (b := ((wt * rx : Nat) : Int)) ⟨by decide, by decide⟩ ⟨by omega, by omega⟩ fun c8 => ?_)
                  · refine i_146_178 (x := (Int32.ofInt (a : Int))) (c := (Int32.ofInt ((a : Int) + 1))) l8 (o_add (a : Int) 1) rfl ?_
                    refine lgen1 (i := 8) (v := Value.int (Int32.ofInt ((a : Int) + 1))) (fun lv lg ls => ?_)
                    replace l7 := lg 7 _ rfl rfl l7
                    replace l6 := lg 6 _ rfl rfl l6
                    replace l5 := lg 5 _ rfl rfl l5
                    replace l9 := lg 9 _ rfl rfl l9
                    replace l0 := lg 0 _ rfl rfl l0
                    replace l1 := lg 1 _ rfl rfl l1
                    replace l3 := lg 3 _ rfl rfl l3
                    replace l4 := lg 4 _ rfl rfl l4
                    have l8 := ls
                    refine i_146_181 ?_
                    exact ih (a + 1) pt (c + 1) (b + pt.toNat) (v * rx + dg) (sig + 0) (wt * rx) (ch * rx + dg) D (by omega) (by omega) (by omega) hpt hR (hT.up (sig' := sig + 0) (by omega)) (hI.go hr (by omega) (by rw [if_neg (by omega)]) (by omega)) (an := 1) (by rw [if_neg (by omega)]) (by omega) l0 l1 l3 l4 l5 l6 l7 l8 (fun {lv w S2 V2 a2 c2 b2 v2 sig2 wt2 ch2 D2 an2} h1 h2 h3 h4 h5 h6 => hQ h1 h2 h3 (by rw [rdS, if_neg (by omega), if_neg (by rw [← htbd]; omega), if_neg (by rw [← htbd]; omega), ← htbd, ← hdge]; exact h4) h5 h6)
                  · refine i_146_161 (x := 108) l0 ?_
                    refine i_146_162 (v := Value.ref 109) (hR.k10 kq_108) rfl ?_
                    refine i_146_165 (x := Int32.ofInt ((wt * rx : Nat) : Int)) l7 ?_
                    refine i_146_167 (x := Int32.ofInt ((ch * rx + dg : Nat) : Int)) l6 ?_
                    obtain ⟨fs, hobj⟩ := hR.nat kq_109
                    obtain ⟨w, hrun, hR⟩ := X_mad (d := d + 1) (h := 109) (u := D) (f := wt * rx) (g := ch * rx + dg) hR kq_109 hT.2.2.2.1 (by have := hI.2.1; omega) (by omega) (by have := hcl (by omega) (by omega); omega) (by omega)
                    refine i_146_169 hobj (Nat.le_of_ble_eq_true rfl) hrun ?_
                    refine i_146_172 ?_
                    refine i_146_173 rfl ?_
                    refine lgen1 (i := 6) (v := Value.int 0) (fun lv lg ls => ?_)
                    replace l7 := lg 7 _ rfl rfl l7
                    replace l5 := lg 5 _ rfl rfl l5
                    replace l9 := lg 9 _ rfl rfl l9
                    replace l0 := lg 0 _ rfl rfl l0
                    replace l1 := lg 1 _ rfl rfl l1
                    replace l3 := lg 3 _ rfl rfl l3
                    replace l4 := lg 4 _ rfl rfl l4
                    replace l8 := lg 8 _ rfl rfl l8
                    have l6 := ls
                    refine i_146_175 ?_
                    refine i_146_176 rfl ?_
                    refine lgen1 (i := 7) (v := Value.int 1) (fun lv lg ls => ?_)
                    replace l6 := lg 6 _ rfl rfl l6
                    replace l5 := lg 5 _ rfl rfl l5
                    replace l9 := lg 9 _ rfl rfl l9
                    replace l0 := lg 0 _ rfl rfl l0
                    replace l1 := lg 1 _ rfl rfl l1
                    replace l3 := lg 3 _ rfl rfl l3
                    replace l4 := lg 4 _ rfl rfl l4
                    replace l8 := lg 8 _ rfl rfl l8
                    have l7 := ls
                    refine i_146_178 (x := (Int32.ofInt (a : Int))) (c := (Int32.ofInt ((a : Int) + 1))) l8 (o_add (a : Int) 1) rfl ?_
                    refine lgen1 (i := 8) (v := Value.int (Int32.ofInt ((a : Int) + 1))) (fun lv lg ls => ?_)
                    replace l7 := lg 7 _ rfl rfl l7
                    replace l6 := lg 6 _ rfl rfl l6
                    replace l5 := lg 5 _ rfl rfl l5
                    replace l9 := lg 9 _ rfl rfl l9
                    replace l0 := lg 0 _ rfl rfl l0
                    replace l1 := lg 1 _ rfl rfl l1
                    replace l3 := lg 3 _ rfl rfl l3
                    replace l4 := lg 4 _ rfl rfl l4
                    have l8 := ls
                    refine i_146_181 ?_
                    exact ih (a + 1) pt (c + 1) (b + pt.toNat) (v * rx + dg) (sig + 0) 1 0 (D * (wt * rx) + (ch * rx + dg)) (by omega) (by omega) (by omega) hpt hR (hT.up (sig' := sig + 0) (by omega)).dg (hI.fl hr (by omega) (by rw [if_neg (by omega)])) (an := 1) (by rw [if_neg (by omega)]) (by omega) l0 l1 l3 l4 l5 l6 l7 l8 (fun {lv w S2 V2 a2 c2 b2 v2 sig2 wt2 ch2 D2 an2} h1 h2 h3 h4 h5 h6 => hQ h1 h2 h3 (by rw [rdS, if_neg (by omega), if_neg (by rw [← htbd]; omega), if_neg (by rw [← htbd]; omega), ← htbd, ← hdge]; exact h4) h5 h6)
                · refine i_146_124 ?_
                  refine i_146_125 ?_
                  refine i_146_129 (c := Int32.ofInt ((sig : Int) + 1)) (o_add (sig : Int) 1) ?_
                  refine i_146_130 (fs2 := f10 (u1 ((u2 S1 108 8 (sh - 0)) 108) 7 ((sig : Int) + 1))) (hR.k10 kq_108) (Nat.le_of_ble_eq_true rfl) rfl (h7k kq_108 (by decide)) ?_
                  refine xgen (P := cX w0 L Z (u2 (u2 S1 108 8 (sh - 0)) 108 7 ((sig : Int) + 1)) V1) (hR.p10 kq_108) (fun w hR => ?_)
                  refine i_146_133 (x := Int32.ofInt (ch : Int)) l6 ?_
                  refine i_146_135 (x := 108) l0 ?_
                  refine i_146_136 (v := Value.int (Int32.ofInt ((u2 (u2 S1 108 8 (sh - 0)) 108 7 ((sig : Int) + 1)) 108 4))) (hR.k10 kq_108) rfl ?_
                  rw [show Int32.ofInt ((u2 (u2 S1 108 8 (sh - 0)) 108 7 ((sig : Int) + 1)) 108 4) = Int32.ofInt (S1 108 4) by rw [u2_eq, if_neg (fun e => absurd e.2 (by decide)), u2_eq, if_neg (fun e => absurd e.2 (by decide))]]
                  rw [q4]
                  refine i_146_139 (c := Int32.ofInt ((ch : Int) * (rx : Int))) (o_mul (ch : Int) (rx : Int)) ?_
                  refine i_146_140 (x := Int32.ofInt (dv tb)) l9 ?_
                  refine i_146_142 (c := Int32.ofInt ((ch * rx + dg : Nat) : Int)) ((o_add ((ch : Int) * (rx : Int)) (dv tb)).trans (by rw [e6 (by omega)])) ?_
                  refine i_146_143 rfl ?_
                  refine lgen1 (i := 6) (v := Value.int (Int32.ofInt ((ch * rx + dg : Nat) : Int))) (fun lv lg ls => ?_)
                  replace l5 := lg 5 _ rfl rfl l5
                  replace l9 := lg 9 _ rfl rfl l9
                  replace l0 := lg 0 _ rfl rfl l0
                  replace l1 := lg 1 _ rfl rfl l1
                  replace l3 := lg 3 _ rfl rfl l3
                  replace l4 := lg 4 _ rfl rfl l4
                  replace l7 := lg 7 _ rfl rfl l7
                  replace l8 := lg 8 _ rfl rfl l8
                  have l6 := ls
                  refine i_146_145 (x := Int32.ofInt (wt : Int)) l7 ?_
                  refine i_146_147 (x := 108) l0 ?_
                  refine i_146_148 (v := Value.int (Int32.ofInt ((u2 (u2 S1 108 8 (sh - 0)) 108 7 ((sig : Int) + 1)) 108 4))) (hR.k10 kq_108) rfl ?_
                  rw [show Int32.ofInt ((u2 (u2 S1 108 8 (sh - 0)) 108 7 ((sig : Int) + 1)) 108 4) = Int32.ofInt (S1 108 4) by rw [u2_eq, if_neg (fun e => absurd e.2 (by decide)), u2_eq, if_neg (fun e => absurd e.2 (by decide))]]
                  rw [q4]
                  refine i_146_151 (c := Int32.ofInt ((wt * rx : Nat) : Int)) ((o_mul (wt : Int) (rx : Int)).trans (by rw [Int.natCast_mul])) ?_
                  refine i_146_152 rfl ?_
                  refine lgen1 (i := 7) (v := Value.int (Int32.ofInt ((wt * rx : Nat) : Int))) (fun lv lg ls => ?_)
                  replace l6 := lg 6 _ rfl rfl l6
                  replace l5 := lg 5 _ rfl rfl l5
                  replace l9 := lg 9 _ rfl rfl l9
                  replace l0 := lg 0 _ rfl rfl l0
                  replace l1 := lg 1 _ rfl rfl l1
                  replace l3 := lg 3 _ rfl rfl l3
                  replace l4 := lg 4 _ rfl rfl l4
                  replace l8 := lg 8 _ rfl rfl l8
                  have l7 := ls
                  refine i_146_154 (x := Int32.ofInt ((wt * rx : Nat) : Int)) l7 ?_
                  refine i_146_156 ?_
                  refine i_146_158 (b_le (a := ((wt * rx : Nat) : Int)) (b := 59652323) ⟨by omega, by omega⟩ ⟨by decide, by decide⟩ fun c9 => ?_) (b_lt (a := 59652323) (b := ((wt * rx : Nat) : Int)) ⟨by decide, by decide⟩ ⟨by omega, by omega⟩ fun c9 => ?_)
                  · refine i_146_178 (x := (Int32.ofInt (a : Int))) (c := (Int32.ofInt ((a : Int) + 1))) l8 (o_add (a : Int) 1) rfl ?_
                    refine lgen1 (i := 8) (v := Value.int (Int32.ofInt ((a : Int) + 1))) (fun lv lg ls => ?_)
                    replace l7 := lg 7 _ rfl rfl l7
                    replace l6 := lg 6 _ rfl rfl l6
                    replace l5 := lg 5 _ rfl rfl l5
                    replace l9 := lg 9 _ rfl rfl l9
                    replace l0 := lg 0 _ rfl rfl l0
                    replace l1 := lg 1 _ rfl rfl l1
                    replace l3 := lg 3 _ rfl rfl l3
                    replace l4 := lg 4 _ rfl rfl l4
                    have l8 := ls
                    refine i_146_181 ?_
                    exact ih (a + 1) pt (c + 1) (b + pt.toNat) (v * rx + dg) (sig + 1) (wt * rx) (ch * rx + dg) D (by omega) (by omega) (by omega) hpt hR (hT.up (sig' := sig + 1) (by omega)) (hI.go hr (by omega) (by rw [if_pos (by omega)]) (by omega)) (an := 1) (by rw [if_neg (by omega)]) (by omega) l0 l1 l3 l4 l5 l6 l7 l8 (fun {lv w S2 V2 a2 c2 b2 v2 sig2 wt2 ch2 D2 an2} h1 h2 h3 h4 h5 h6 => hQ h1 h2 h3 (by rw [rdS, if_neg (by omega), if_neg (by rw [← htbd]; omega), if_neg (by rw [← htbd]; omega), ← htbd, ← hdge]; exact h4) h5 h6)
                  · refine i_146_161 (x := 108) l0 ?_
                    refine i_146_162 (v := Value.ref 109) (hR.k10 kq_108) rfl ?_
                    refine i_146_165 (x := Int32.ofInt ((wt * rx : Nat) : Int)) l7 ?_
                    refine i_146_167 (x := Int32.ofInt ((ch * rx + dg : Nat) : Int)) l6 ?_
                    obtain ⟨fs, hobj⟩ := hR.nat kq_109
                    obtain ⟨w, hrun, hR⟩ := X_mad (d := d + 1) (h := 109) (u := D) (f := wt * rx) (g := ch * rx + dg) hR kq_109 hT.2.2.2.1 (by have := hI.2.1; omega) (by omega) (by have := hcl (by omega) (by omega); omega) (by omega)
                    refine i_146_169 hobj (Nat.le_of_ble_eq_true rfl) hrun ?_
                    refine i_146_172 ?_
                    refine i_146_173 rfl ?_
                    refine lgen1 (i := 6) (v := Value.int 0) (fun lv lg ls => ?_)
                    replace l7 := lg 7 _ rfl rfl l7
                    replace l5 := lg 5 _ rfl rfl l5
                    replace l9 := lg 9 _ rfl rfl l9
                    replace l0 := lg 0 _ rfl rfl l0
                    replace l1 := lg 1 _ rfl rfl l1
                    replace l3 := lg 3 _ rfl rfl l3
                    replace l4 := lg 4 _ rfl rfl l4
                    replace l8 := lg 8 _ rfl rfl l8
                    have l6 := ls
                    refine i_146_175 ?_
                    refine i_146_176 rfl ?_
                    refine lgen1 (i := 7) (v := Value.int 1) (fun lv lg ls => ?_)
                    replace l6 := lg 6 _ rfl rfl l6
                    replace l5 := lg 5 _ rfl rfl l5
                    replace l9 := lg 9 _ rfl rfl l9
                    replace l0 := lg 0 _ rfl rfl l0
                    replace l1 := lg 1 _ rfl rfl l1
                    replace l3 := lg 3 _ rfl rfl l3
                    replace l4 := lg 4 _ rfl rfl l4
                    replace l8 := lg 8 _ rfl rfl l8
                    have l7 := ls
                    refine i_146_178 (x := (Int32.ofInt (a : Int))) (c := (Int32.ofInt ((a : Int) + 1))) l8 (o_add (a : Int) 1) rfl ?_
                    refine lgen1 (i := 8) (v := Value.int (Int32.ofInt ((a : Int) + 1))) (fun lv lg ls => ?_)
                    replace l7 := lg 7 _ rfl rfl l7
                    replace l6 := lg 6 _ rfl rfl l6
                    replace l5 := lg 5 _ rfl rfl l5
                    replace l9 := lg 9 _ rfl rfl l9
                    replace l0 := lg 0 _ rfl rfl l0
                    replace l1 := lg 1 _ rfl rfl l1
                    replace l3 := lg 3 _ rfl rfl l3
                    replace l4 := lg 4 _ rfl rfl l4
                    have l8 := ls
                    refine i_146_181 ?_
                    exact ih (a + 1) pt (c + 1) (b + pt.toNat) (v * rx + dg) (sig + 1) 1 0 (D * (wt * rx) + (ch * rx + dg)) (by omega) (by omega) (by omega) hpt hR (hT.up (sig' := sig + 1) (by omega)).dg (hI.fl hr (by omega) (by rw [if_pos (by omega)])) (an := 1) (by rw [if_neg (by omega)]) (by omega) l0 l1 l3 l4 l5 l6 l7 l8 (fun {lv w S2 V2 a2 c2 b2 v2 sig2 wt2 ch2 D2 an2} h1 h2 h3 h4 h5 h6 => hQ h1 h2 h3 (by rw [rdS, if_neg (by omega), if_neg (by rw [← htbd]; omega), if_neg (by rw [← htbd]; omega), ← htbd, ← hdge]; exact h4) h5 h6)
            · refine i_146_98 ?_
              refine i_146_99 ?_
              refine i_146_103 (c := Int32.ofInt (sh - 1)) (o_sub sh 1) ?_
              refine i_146_104 (fs2 := f10 (u1 (S1 108) 8 (sh - 1))) (hR.k10 kq_108) (Nat.le_of_ble_eq_true rfl) rfl (h7k kq_108 (by decide)) ?_
              refine xgen (P := cX w0 L Z (u2 S1 108 8 (sh - 1)) V1) (hR.p10 kq_108) (fun w hR => ?_)
              refine i_146_107 (x := 108) l0 ?_
              refine i_146_108 rfl ?_
              refine i_146_109 (v := Value.int (Int32.ofInt ((u2 S1 108 8 (sh - 1)) 108 7))) (hR.k10 kq_108) rfl ?_
              rw [show Int32.ofInt ((u2 S1 108 8 (sh - 1)) 108 7) = Int32.ofInt (S1 108 7) by rw [u2_eq, if_neg (fun e => absurd e.2 (by decide))]]
              rw [hT.2.1]
              refine i_146_112 (x := 108) l0 ?_
              refine i_146_113 (v := Value.int (Int32.ofInt ((u2 S1 108 8 (sh - 1)) 108 7))) (hR.k10 kq_108) rfl ?_
              rw [show Int32.ofInt ((u2 S1 108 8 (sh - 1)) 108 7) = Int32.ofInt (S1 108 7) by rw [u2_eq, if_neg (fun e => absurd e.2 (by decide))]]
              rw [hT.2.1]
              refine i_146_116 (z_gt (a := (sig : Int)) ⟨by omega, by omega⟩ fun c10 => ?_) (z_le (a := (sig : Int)) ⟨by omega, by omega⟩ fun c10 => ?_)
              · refine i_146_124 ?_
                refine i_146_125 ?_
                refine i_146_129 (c := Int32.ofInt ((sig : Int) + 1)) (o_add (sig : Int) 1) ?_
                refine i_146_130 (fs2 := f10 (u1 ((u2 S1 108 8 (sh - 1)) 108) 7 ((sig : Int) + 1))) (hR.k10 kq_108) (Nat.le_of_ble_eq_true rfl) rfl (h7k kq_108 (by decide)) ?_
                refine xgen (P := cX w0 L Z (u2 (u2 S1 108 8 (sh - 1)) 108 7 ((sig : Int) + 1)) V1) (hR.p10 kq_108) (fun w hR => ?_)
                refine i_146_133 (x := Int32.ofInt (ch : Int)) l6 ?_
                refine i_146_135 (x := 108) l0 ?_
                refine i_146_136 (v := Value.int (Int32.ofInt ((u2 (u2 S1 108 8 (sh - 1)) 108 7 ((sig : Int) + 1)) 108 4))) (hR.k10 kq_108) rfl ?_
                rw [show Int32.ofInt ((u2 (u2 S1 108 8 (sh - 1)) 108 7 ((sig : Int) + 1)) 108 4) = Int32.ofInt (S1 108 4) by rw [u2_eq, if_neg (fun e => absurd e.2 (by decide)), u2_eq, if_neg (fun e => absurd e.2 (by decide))]]
                rw [q4]
                refine i_146_139 (c := Int32.ofInt ((ch : Int) * (rx : Int))) (o_mul (ch : Int) (rx : Int)) ?_
                refine i_146_140 (x := Int32.ofInt (dv tb)) l9 ?_
                refine i_146_142 (c := Int32.ofInt ((ch * rx + dg : Nat) : Int)) ((o_add ((ch : Int) * (rx : Int)) (dv tb)).trans (by rw [e6 (by omega)])) ?_
                refine i_146_143 rfl ?_
                refine lgen1 (i := 6) (v := Value.int (Int32.ofInt ((ch * rx + dg : Nat) : Int))) (fun lv lg ls => ?_)
                replace l5 := lg 5 _ rfl rfl l5
                replace l9 := lg 9 _ rfl rfl l9
                replace l0 := lg 0 _ rfl rfl l0
                replace l1 := lg 1 _ rfl rfl l1
                replace l3 := lg 3 _ rfl rfl l3
                replace l4 := lg 4 _ rfl rfl l4
                replace l7 := lg 7 _ rfl rfl l7
                replace l8 := lg 8 _ rfl rfl l8
                have l6 := ls
                refine i_146_145 (x := Int32.ofInt (wt : Int)) l7 ?_
                refine i_146_147 (x := 108) l0 ?_
                refine i_146_148 (v := Value.int (Int32.ofInt ((u2 (u2 S1 108 8 (sh - 1)) 108 7 ((sig : Int) + 1)) 108 4))) (hR.k10 kq_108) rfl ?_
                rw [show Int32.ofInt ((u2 (u2 S1 108 8 (sh - 1)) 108 7 ((sig : Int) + 1)) 108 4) = Int32.ofInt (S1 108 4) by rw [u2_eq, if_neg (fun e => absurd e.2 (by decide)), u2_eq, if_neg (fun e => absurd e.2 (by decide))]]
                rw [q4]
                refine i_146_151 (c := Int32.ofInt ((wt * rx : Nat) : Int)) ((o_mul (wt : Int) (rx : Int)).trans (by rw [Int.natCast_mul])) ?_
                refine i_146_152 rfl ?_
                refine lgen1 (i := 7) (v := Value.int (Int32.ofInt ((wt * rx : Nat) : Int))) (fun lv lg ls => ?_)
                replace l6 := lg 6 _ rfl rfl l6
                replace l5 := lg 5 _ rfl rfl l5
                replace l9 := lg 9 _ rfl rfl l9
                replace l0 := lg 0 _ rfl rfl l0
                replace l1 := lg 1 _ rfl rfl l1
                replace l3 := lg 3 _ rfl rfl l3
                replace l4 := lg 4 _ rfl rfl l4
                replace l8 := lg 8 _ rfl rfl l8
                have l7 := ls
                refine i_146_154 (x := Int32.ofInt ((wt * rx : Nat) : Int)) l7 ?_
                refine i_146_156 ?_
                refine i_146_158 (b_le (a := ((wt * rx : Nat) : Int)) (b := 59652323) ⟨by omega, by omega⟩ ⟨by decide, by decide⟩ fun c11 => ?_) (b_lt (a := 59652323) (b := ((wt * rx : Nat) : Int)) ⟨by decide, by decide⟩ ⟨by omega, by omega⟩ fun c11 => ?_)
                · refine i_146_178 (x := (Int32.ofInt (a : Int))) (c := (Int32.ofInt ((a : Int) + 1))) l8 (o_add (a : Int) 1) rfl ?_
                  refine lgen1 (i := 8) (v := Value.int (Int32.ofInt ((a : Int) + 1))) (fun lv lg ls => ?_)
                  replace l7 := lg 7 _ rfl rfl l7
                  replace l6 := lg 6 _ rfl rfl l6
                  replace l5 := lg 5 _ rfl rfl l5
                  replace l9 := lg 9 _ rfl rfl l9
                  replace l0 := lg 0 _ rfl rfl l0
                  replace l1 := lg 1 _ rfl rfl l1
                  replace l3 := lg 3 _ rfl rfl l3
                  replace l4 := lg 4 _ rfl rfl l4
                  have l8 := ls
                  refine i_146_181 ?_
                  exact ih (a + 1) pt (c + 1) (b + pt.toNat) (v * rx + dg) (sig + 1) (wt * rx) (ch * rx + dg) D (by omega) (by omega) (by omega) hpt hR (hT.up (sig' := sig + 1) (by omega)) (hI.go hr (by omega) (by rw [if_pos (by omega)]) (by omega)) (an := 1) (by rw [if_neg (by omega)]) (by omega) l0 l1 l3 l4 l5 l6 l7 l8 (fun {lv w S2 V2 a2 c2 b2 v2 sig2 wt2 ch2 D2 an2} h1 h2 h3 h4 h5 h6 => hQ h1 h2 h3 (by rw [rdS, if_neg (by omega), if_neg (by rw [← htbd]; omega), if_neg (by rw [← htbd]; omega), ← htbd, ← hdge]; exact h4) h5 h6)
                · refine i_146_161 (x := 108) l0 ?_
                  refine i_146_162 (v := Value.ref 109) (hR.k10 kq_108) rfl ?_
                  refine i_146_165 (x := Int32.ofInt ((wt * rx : Nat) : Int)) l7 ?_
                  refine i_146_167 (x := Int32.ofInt ((ch * rx + dg : Nat) : Int)) l6 ?_
                  obtain ⟨fs, hobj⟩ := hR.nat kq_109
                  obtain ⟨w, hrun, hR⟩ := X_mad (d := d + 1) (h := 109) (u := D) (f := wt * rx) (g := ch * rx + dg) hR kq_109 hT.2.2.2.1 (by have := hI.2.1; omega) (by omega) (by have := hcl (by omega) (by omega); omega) (by omega)
                  refine i_146_169 hobj (Nat.le_of_ble_eq_true rfl) hrun ?_
                  refine i_146_172 ?_
                  refine i_146_173 rfl ?_
                  refine lgen1 (i := 6) (v := Value.int 0) (fun lv lg ls => ?_)
                  replace l7 := lg 7 _ rfl rfl l7
                  replace l5 := lg 5 _ rfl rfl l5
                  replace l9 := lg 9 _ rfl rfl l9
                  replace l0 := lg 0 _ rfl rfl l0
                  replace l1 := lg 1 _ rfl rfl l1
                  replace l3 := lg 3 _ rfl rfl l3
                  replace l4 := lg 4 _ rfl rfl l4
                  replace l8 := lg 8 _ rfl rfl l8
                  have l6 := ls
                  refine i_146_175 ?_
                  refine i_146_176 rfl ?_
                  refine lgen1 (i := 7) (v := Value.int 1) (fun lv lg ls => ?_)
                  replace l6 := lg 6 _ rfl rfl l6
                  replace l5 := lg 5 _ rfl rfl l5
                  replace l9 := lg 9 _ rfl rfl l9
                  replace l0 := lg 0 _ rfl rfl l0
                  replace l1 := lg 1 _ rfl rfl l1
                  replace l3 := lg 3 _ rfl rfl l3
                  replace l4 := lg 4 _ rfl rfl l4
                  replace l8 := lg 8 _ rfl rfl l8
                  have l7 := ls
                  refine i_146_178 (x := (Int32.ofInt (a : Int))) (c := (Int32.ofInt ((a : Int) + 1))) l8 (o_add (a : Int) 1) rfl ?_
                  refine lgen1 (i := 8) (v := Value.int (Int32.ofInt ((a : Int) + 1))) (fun lv lg ls => ?_)
                  replace l7 := lg 7 _ rfl rfl l7
                  replace l6 := lg 6 _ rfl rfl l6
                  replace l5 := lg 5 _ rfl rfl l5
                  replace l9 := lg 9 _ rfl rfl l9
                  replace l0 := lg 0 _ rfl rfl l0
                  replace l1 := lg 1 _ rfl rfl l1
                  replace l3 := lg 3 _ rfl rfl l3
                  replace l4 := lg 4 _ rfl rfl l4
                  have l8 := ls
                  refine i_146_181 ?_
                  exact ih (a + 1) pt (c + 1) (b + pt.toNat) (v * rx + dg) (sig + 1) 1 0 (D * (wt * rx) + (ch * rx + dg)) (by omega) (by omega) (by omega) hpt hR (hT.up (sig' := sig + 1) (by omega)).dg (hI.fl hr (by omega) (by rw [if_pos (by omega)])) (an := 1) (by rw [if_neg (by omega)]) (by omega) l0 l1 l3 l4 l5 l6 l7 l8 (fun {lv w S2 V2 a2 c2 b2 v2 sig2 wt2 ch2 D2 an2} h1 h2 h3 h4 h5 h6 => hQ h1 h2 h3 (by rw [rdS, if_neg (by omega), if_neg (by rw [← htbd]; omega), if_neg (by rw [← htbd]; omega), ← htbd, ← hdge]; exact h4) h5 h6)
              · refine i_146_119 (x := Int32.ofInt (dv tb)) l9 ?_
                refine i_146_121 (z_le (a := dv tb) ⟨by omega, by omega⟩ fun c12 => ?_) (z_gt (a := dv tb) ⟨by omega, by omega⟩ fun c12 => ?_)
                · refine i_146_128 ?_
                  refine i_146_129 (c := Int32.ofInt ((sig : Int) + 0)) (o_add (sig : Int) 0) ?_
                  refine i_146_130 (fs2 := f10 (u1 ((u2 S1 108 8 (sh - 1)) 108) 7 ((sig : Int) + 0))) (hR.k10 kq_108) (Nat.le_of_ble_eq_true rfl) rfl (h7k kq_108 (by decide)) ?_
                  refine xgen (P := cX w0 L Z (u2 (u2 S1 108 8 (sh - 1)) 108 7 ((sig : Int) + 0)) V1) (hR.p10 kq_108) (fun w hR => ?_)
                  refine i_146_133 (x := Int32.ofInt (ch : Int)) l6 ?_
                  refine i_146_135 (x := 108) l0 ?_
                  refine i_146_136 (v := Value.int (Int32.ofInt ((u2 (u2 S1 108 8 (sh - 1)) 108 7 ((sig : Int) + 0)) 108 4))) (hR.k10 kq_108) rfl ?_
                  rw [show Int32.ofInt ((u2 (u2 S1 108 8 (sh - 1)) 108 7 ((sig : Int) + 0)) 108 4) = Int32.ofInt (S1 108 4) by rw [u2_eq, if_neg (fun e => absurd e.2 (by decide)), u2_eq, if_neg (fun e => absurd e.2 (by decide))]]
                  rw [q4]
                  refine i_146_139 (c := Int32.ofInt ((ch : Int) * (rx : Int))) (o_mul (ch : Int) (rx : Int)) ?_
                  refine i_146_140 (x := Int32.ofInt (dv tb)) l9 ?_
                  refine i_146_142 (c := Int32.ofInt ((ch * rx + dg : Nat) : Int)) ((o_add ((ch : Int) * (rx : Int)) (dv tb)).trans (by rw [e6 (by omega)])) ?_
                  refine i_146_143 rfl ?_
                  refine lgen1 (i := 6) (v := Value.int (Int32.ofInt ((ch * rx + dg : Nat) : Int))) (fun lv lg ls => ?_)
                  replace l5 := lg 5 _ rfl rfl l5
                  replace l9 := lg 9 _ rfl rfl l9
                  replace l0 := lg 0 _ rfl rfl l0
                  replace l1 := lg 1 _ rfl rfl l1
                  replace l3 := lg 3 _ rfl rfl l3
                  replace l4 := lg 4 _ rfl rfl l4
                  replace l7 := lg 7 _ rfl rfl l7
                  replace l8 := lg 8 _ rfl rfl l8
                  have l6 := ls
                  refine i_146_145 (x := Int32.ofInt (wt : Int)) l7 ?_
                  refine i_146_147 (x := 108) l0 ?_
                  refine i_146_148 (v := Value.int (Int32.ofInt ((u2 (u2 S1 108 8 (sh - 1)) 108 7 ((sig : Int) + 0)) 108 4))) (hR.k10 kq_108) rfl ?_
                  rw [show Int32.ofInt ((u2 (u2 S1 108 8 (sh - 1)) 108 7 ((sig : Int) + 0)) 108 4) = Int32.ofInt (S1 108 4) by rw [u2_eq, if_neg (fun e => absurd e.2 (by decide)), u2_eq, if_neg (fun e => absurd e.2 (by decide))]]
                  rw [q4]
                  refine i_146_151 (c := Int32.ofInt ((wt * rx : Nat) : Int)) ((o_mul (wt : Int) (rx : Int)).trans (by rw [Int.natCast_mul])) ?_
                  refine i_146_152 rfl ?_
                  refine lgen1 (i := 7) (v := Value.int (Int32.ofInt ((wt * rx : Nat) : Int))) (fun lv lg ls => ?_)
                  replace l6 := lg 6 _ rfl rfl l6
                  replace l5 := lg 5 _ rfl rfl l5
                  replace l9 := lg 9 _ rfl rfl l9
                  replace l0 := lg 0 _ rfl rfl l0
                  replace l1 := lg 1 _ rfl rfl l1
                  replace l3 := lg 3 _ rfl rfl l3
                  replace l4 := lg 4 _ rfl rfl l4
                  replace l8 := lg 8 _ rfl rfl l8
                  have l7 := ls
                  refine i_146_154 (x := Int32.ofInt ((wt * rx : Nat) : Int)) l7 ?_
                  refine i_146_156 ?_
                  refine i_146_158 (b_le (a := ((wt * rx : Nat) : Int)) (b := 59652323) ⟨by omega, by omega⟩ ⟨by decide, by decide⟩ fun c13 => ?_) (b_lt (a := 59652323) (b := ((wt * rx : Nat) : Int)) ⟨by decide, by decide⟩ ⟨by omega, by omega⟩ fun c13 => ?_)
                  · refine i_146_178 (x := (Int32.ofInt (a : Int))) (c := (Int32.ofInt ((a : Int) + 1))) l8 (o_add (a : Int) 1) rfl ?_
                    refine lgen1 (i := 8) (v := Value.int (Int32.ofInt ((a : Int) + 1))) (fun lv lg ls => ?_)
                    replace l7 := lg 7 _ rfl rfl l7
                    replace l6 := lg 6 _ rfl rfl l6
                    replace l5 := lg 5 _ rfl rfl l5
                    replace l9 := lg 9 _ rfl rfl l9
                    replace l0 := lg 0 _ rfl rfl l0
                    replace l1 := lg 1 _ rfl rfl l1
                    replace l3 := lg 3 _ rfl rfl l3
                    replace l4 := lg 4 _ rfl rfl l4
                    have l8 := ls
                    refine i_146_181 ?_
                    exact ih (a + 1) pt (c + 1) (b + pt.toNat) (v * rx + dg) (sig + 0) (wt * rx) (ch * rx + dg) D (by omega) (by omega) (by omega) hpt hR (hT.up (sig' := sig + 0) (by omega)) (hI.go hr (by omega) (by rw [if_neg (by omega)]) (by omega)) (an := 1) (by rw [if_neg (by omega)]) (by omega) l0 l1 l3 l4 l5 l6 l7 l8 (fun {lv w S2 V2 a2 c2 b2 v2 sig2 wt2 ch2 D2 an2} h1 h2 h3 h4 h5 h6 => hQ h1 h2 h3 (by rw [rdS, if_neg (by omega), if_neg (by rw [← htbd]; omega), if_neg (by rw [← htbd]; omega), ← htbd, ← hdge]; exact h4) h5 h6)
                  · refine i_146_161 (x := 108) l0 ?_
                    refine i_146_162 (v := Value.ref 109) (hR.k10 kq_108) rfl ?_
                    refine i_146_165 (x := Int32.ofInt ((wt * rx : Nat) : Int)) l7 ?_
                    refine i_146_167 (x := Int32.ofInt ((ch * rx + dg : Nat) : Int)) l6 ?_
                    obtain ⟨fs, hobj⟩ := hR.nat kq_109
                    obtain ⟨w, hrun, hR⟩ := X_mad (d := d + 1) (h := 109) (u := D) (f := wt * rx) (g := ch * rx + dg) hR kq_109 hT.2.2.2.1 (by have := hI.2.1; omega) (by omega) (by have := hcl (by omega) (by omega); omega) (by omega)
                    refine i_146_169 hobj (Nat.le_of_ble_eq_true rfl) hrun ?_
                    refine i_146_172 ?_
                    refine i_146_173 rfl ?_
                    refine lgen1 (i := 6) (v := Value.int 0) (fun lv lg ls => ?_)
                    replace l7 := lg 7 _ rfl rfl l7
                    replace l5 := lg 5 _ rfl rfl l5
                    replace l9 := lg 9 _ rfl rfl l9
                    replace l0 := lg 0 _ rfl rfl l0
                    replace l1 := lg 1 _ rfl rfl l1
                    replace l3 := lg 3 _ rfl rfl l3
                    replace l4 := lg 4 _ rfl rfl l4
                    replace l8 := lg 8 _ rfl rfl l8
                    have l6 := ls
                    refine i_146_175 ?_
                    refine i_146_176 rfl ?_
                    refine lgen1 (i := 7) (v := Value.int 1) (fun lv lg ls => ?_)
                    replace l6 := lg 6 _ rfl rfl l6
                    replace l5 := lg 5 _ rfl rfl l5
                    replace l9 := lg 9 _ rfl rfl l9
                    replace l0 := lg 0 _ rfl rfl l0
                    replace l1 := lg 1 _ rfl rfl l1
                    replace l3 := lg 3 _ rfl rfl l3
                    replace l4 := lg 4 _ rfl rfl l4
                    replace l8 := lg 8 _ rfl rfl l8
                    have l7 := ls
                    refine i_146_178 (x := (Int32.ofInt (a : Int))) (c := (Int32.ofInt ((a : Int) + 1))) l8 (o_add (a : Int) 1) rfl ?_
                    refine lgen1 (i := 8) (v := Value.int (Int32.ofInt ((a : Int) + 1))) (fun lv lg ls => ?_)
                    replace l7 := lg 7 _ rfl rfl l7
                    replace l6 := lg 6 _ rfl rfl l6
                    replace l5 := lg 5 _ rfl rfl l5
                    replace l9 := lg 9 _ rfl rfl l9
                    replace l0 := lg 0 _ rfl rfl l0
                    replace l1 := lg 1 _ rfl rfl l1
                    replace l3 := lg 3 _ rfl rfl l3
                    replace l4 := lg 4 _ rfl rfl l4
                    have l8 := ls
                    refine i_146_181 ?_
                    exact ih (a + 1) pt (c + 1) (b + pt.toNat) (v * rx + dg) (sig + 0) 1 0 (D * (wt * rx) + (ch * rx + dg)) (by omega) (by omega) (by omega) hpt hR (hT.up (sig' := sig + 0) (by omega)).dg (hI.fl hr (by omega) (by rw [if_neg (by omega)])) (an := 1) (by rw [if_neg (by omega)]) (by omega) l0 l1 l3 l4 l5 l6 l7 l8 (fun {lv w S2 V2 a2 c2 b2 v2 sig2 wt2 ch2 D2 an2} h1 h2 h3 h4 h5 h6 => hQ h1 h2 h3 (by rw [rdS, if_neg (by omega), if_neg (by rw [← htbd]; omega), if_neg (by rw [← htbd]; omega), ← htbd, ← hdge]; exact h4) h5 h6)
                · refine i_146_124 ?_
                  refine i_146_125 ?_
                  refine i_146_129 (c := Int32.ofInt ((sig : Int) + 1)) (o_add (sig : Int) 1) ?_
                  refine i_146_130 (fs2 := f10 (u1 ((u2 S1 108 8 (sh - 1)) 108) 7 ((sig : Int) + 1))) (hR.k10 kq_108) (Nat.le_of_ble_eq_true rfl) rfl (h7k kq_108 (by decide)) ?_
                  refine xgen (P := cX w0 L Z (u2 (u2 S1 108 8 (sh - 1)) 108 7 ((sig : Int) + 1)) V1) (hR.p10 kq_108) (fun w hR => ?_)
                  refine i_146_133 (x := Int32.ofInt (ch : Int)) l6 ?_
                  refine i_146_135 (x := 108) l0 ?_
                  refine i_146_136 (v := Value.int (Int32.ofInt ((u2 (u2 S1 108 8 (sh - 1)) 108 7 ((sig : Int) + 1)) 108 4))) (hR.k10 kq_108) rfl ?_
                  rw [show Int32.ofInt ((u2 (u2 S1 108 8 (sh - 1)) 108 7 ((sig : Int) + 1)) 108 4) = Int32.ofInt (S1 108 4) by rw [u2_eq, if_neg (fun e => absurd e.2 (by decide)), u2_eq, if_neg (fun e => absurd e.2 (by decide))]]
                  rw [q4]
                  refine i_146_139 (c := Int32.ofInt ((ch : Int) * (rx : Int))) (o_mul (ch : Int) (rx : Int)) ?_
                  refine i_146_140 (x := Int32.ofInt (dv tb)) l9 ?_
                  refine i_146_142 (c := Int32.ofInt ((ch * rx + dg : Nat) : Int)) ((o_add ((ch : Int) * (rx : Int)) (dv tb)).trans (by rw [e6 (by omega)])) ?_
                  refine i_146_143 rfl ?_
                  refine lgen1 (i := 6) (v := Value.int (Int32.ofInt ((ch * rx + dg : Nat) : Int))) (fun lv lg ls => ?_)
                  replace l5 := lg 5 _ rfl rfl l5
                  replace l9 := lg 9 _ rfl rfl l9
                  replace l0 := lg 0 _ rfl rfl l0
                  replace l1 := lg 1 _ rfl rfl l1
                  replace l3 := lg 3 _ rfl rfl l3
                  replace l4 := lg 4 _ rfl rfl l4
                  replace l7 := lg 7 _ rfl rfl l7
                  replace l8 := lg 8 _ rfl rfl l8
                  have l6 := ls
                  refine i_146_145 (x := Int32.ofInt (wt : Int)) l7 ?_
                  refine i_146_147 (x := 108) l0 ?_
                  refine i_146_148 (v := Value.int (Int32.ofInt ((u2 (u2 S1 108 8 (sh - 1)) 108 7 ((sig : Int) + 1)) 108 4))) (hR.k10 kq_108) rfl ?_
                  rw [show Int32.ofInt ((u2 (u2 S1 108 8 (sh - 1)) 108 7 ((sig : Int) + 1)) 108 4) = Int32.ofInt (S1 108 4) by rw [u2_eq, if_neg (fun e => absurd e.2 (by decide)), u2_eq, if_neg (fun e => absurd e.2 (by decide))]]
                  rw [q4]
                  refine i_146_151 (c := Int32.ofInt ((wt * rx : Nat) : Int)) ((o_mul (wt : Int) (rx : Int)).trans (by rw [Int.natCast_mul])) ?_
                  refine i_146_152 rfl ?_
                  refine lgen1 (i := 7) (v := Value.int (Int32.ofInt ((wt * rx : Nat) : Int))) (fun lv lg ls => ?_)
                  replace l6 := lg 6 _ rfl rfl l6
                  replace l5 := lg 5 _ rfl rfl l5
                  replace l9 := lg 9 _ rfl rfl l9
                  replace l0 := lg 0 _ rfl rfl l0
                  replace l1 := lg 1 _ rfl rfl l1
                  replace l3 := lg 3 _ rfl rfl l3
                  replace l4 := lg 4 _ rfl rfl l4
                  replace l8 := lg 8 _ rfl rfl l8
                  have l7 := ls
                  refine i_146_154 (x := Int32.ofInt ((wt * rx : Nat) : Int)) l7 ?_
                  refine i_146_156 ?_
                  refine i_146_158 (b_le (a := ((wt * rx : Nat) : Int)) (b := 59652323) ⟨by omega, by omega⟩ ⟨by decide, by decide⟩ fun c14 => ?_) (b_lt (a := 59652323) (b := ((wt * rx : Nat) : Int)) ⟨by decide, by decide⟩ ⟨by omega, by omega⟩ fun c14 => ?_)
                  · refine i_146_178 (x := (Int32.ofInt (a : Int))) (c := (Int32.ofInt ((a : Int) + 1))) l8 (o_add (a : Int) 1) rfl ?_
                    refine lgen1 (i := 8) (v := Value.int (Int32.ofInt ((a : Int) + 1))) (fun lv lg ls => ?_)
                    replace l7 := lg 7 _ rfl rfl l7
                    replace l6 := lg 6 _ rfl rfl l6
                    replace l5 := lg 5 _ rfl rfl l5
                    replace l9 := lg 9 _ rfl rfl l9
                    replace l0 := lg 0 _ rfl rfl l0
                    replace l1 := lg 1 _ rfl rfl l1
                    replace l3 := lg 3 _ rfl rfl l3
                    replace l4 := lg 4 _ rfl rfl l4
                    have l8 := ls
                    refine i_146_181 ?_
                    exact ih (a + 1) pt (c + 1) (b + pt.toNat) (v * rx + dg) (sig + 1) (wt * rx) (ch * rx + dg) D (by omega) (by omega) (by omega) hpt hR (hT.up (sig' := sig + 1) (by omega)) (hI.go hr (by omega) (by rw [if_pos (by omega)]) (by omega)) (an := 1) (by rw [if_neg (by omega)]) (by omega) l0 l1 l3 l4 l5 l6 l7 l8 (fun {lv w S2 V2 a2 c2 b2 v2 sig2 wt2 ch2 D2 an2} h1 h2 h3 h4 h5 h6 => hQ h1 h2 h3 (by rw [rdS, if_neg (by omega), if_neg (by rw [← htbd]; omega), if_neg (by rw [← htbd]; omega), ← htbd, ← hdge]; exact h4) h5 h6)
                  · refine i_146_161 (x := 108) l0 ?_
                    refine i_146_162 (v := Value.ref 109) (hR.k10 kq_108) rfl ?_
                    refine i_146_165 (x := Int32.ofInt ((wt * rx : Nat) : Int)) l7 ?_
                    refine i_146_167 (x := Int32.ofInt ((ch * rx + dg : Nat) : Int)) l6 ?_
                    obtain ⟨fs, hobj⟩ := hR.nat kq_109
                    obtain ⟨w, hrun, hR⟩ := X_mad (d := d + 1) (h := 109) (u := D) (f := wt * rx) (g := ch * rx + dg) hR kq_109 hT.2.2.2.1 (by have := hI.2.1; omega) (by omega) (by have := hcl (by omega) (by omega); omega) (by omega)
                    refine i_146_169 hobj (Nat.le_of_ble_eq_true rfl) hrun ?_
                    refine i_146_172 ?_
                    refine i_146_173 rfl ?_
                    refine lgen1 (i := 6) (v := Value.int 0) (fun lv lg ls => ?_)
                    replace l7 := lg 7 _ rfl rfl l7
                    replace l5 := lg 5 _ rfl rfl l5
                    replace l9 := lg 9 _ rfl rfl l9
                    replace l0 := lg 0 _ rfl rfl l0
                    replace l1 := lg 1 _ rfl rfl l1
                    replace l3 := lg 3 _ rfl rfl l3
                    replace l4 := lg 4 _ rfl rfl l4
                    replace l8 := lg 8 _ rfl rfl l8
                    have l6 := ls
                    refine i_146_175 ?_
                    refine i_146_176 rfl ?_
                    refine lgen1 (i := 7) (v := Value.int 1) (fun lv lg ls => ?_)
                    replace l6 := lg 6 _ rfl rfl l6
                    replace l5 := lg 5 _ rfl rfl l5
                    replace l9 := lg 9 _ rfl rfl l9
                    replace l0 := lg 0 _ rfl rfl l0
                    replace l1 := lg 1 _ rfl rfl l1
                    replace l3 := lg 3 _ rfl rfl l3
                    replace l4 := lg 4 _ rfl rfl l4
                    replace l8 := lg 8 _ rfl rfl l8
                    have l7 := ls
                    refine i_146_178 (x := (Int32.ofInt (a : Int))) (c := (Int32.ofInt ((a : Int) + 1))) l8 (o_add (a : Int) 1) rfl ?_
                    refine lgen1 (i := 8) (v := Value.int (Int32.ofInt ((a : Int) + 1))) (fun lv lg ls => ?_)
                    replace l7 := lg 7 _ rfl rfl l7
                    replace l6 := lg 6 _ rfl rfl l6
                    replace l5 := lg 5 _ rfl rfl l5
                    replace l9 := lg 9 _ rfl rfl l9
                    replace l0 := lg 0 _ rfl rfl l0
                    replace l1 := lg 1 _ rfl rfl l1
                    replace l3 := lg 3 _ rfl rfl l3
                    replace l4 := lg 4 _ rfl rfl l4
                    have l8 := ls
                    refine i_146_181 ?_
                    exact ih (a + 1) pt (c + 1) (b + pt.toNat) (v * rx + dg) (sig + 1) 1 0 (D * (wt * rx) + (ch * rx + dg)) (by omega) (by omega) (by omega) hpt hR (hT.up (sig' := sig + 1) (by omega)).dg (hI.fl hr (by omega) (by rw [if_pos (by omega)])) (an := 1) (by rw [if_neg (by omega)]) (by omega) l0 l1 l3 l4 l5 l6 l7 l8 (fun {lv w S2 V2 a2 c2 b2 v2 sig2 wt2 ch2 D2 an2} h1 h2 h3 h4 h5 h6 => hQ h1 h2 h3 (by rw [rdS, if_neg (by omega), if_neg (by rw [← htbd]; omega), if_neg (by rw [← htbd]; omega), ← htbd, ← hdge]; exact h4) h5 h6)
          · refine i_146_82 ?_
            refine hQ hR (hsh ▸ hT) hI (by rw [rdS]; first | rw [if_pos (show n ≤ a by omega)] | rw [if_neg (by omega), if_neg (by rw [← htbd]; omega), if_pos (by rw [← htbd]; omega)]) (by omega) (by omega) han l0 l5 l6 l7 l8
      · refine i_146_57 (x := Int32.ofInt pt) l4 ?_
        refine i_146_59 (z_ne (a := pt) ⟨by omega, by omega⟩ fun c15 => ?_) (z_eq (a := pt) ⟨by omega, by omega⟩ fun c15 => ?_)
        · refine i_146_68 (x := Int32.ofInt (dv tb)) l9 ?_
          refine i_146_70 (z_lt (a := dv tb) ⟨by omega, by omega⟩ fun c16 => ?_) (z_ge (a := dv tb) ⟨by omega, by omega⟩ fun c16 => ?_)
          · refine hQ hR (hsh ▸ hT) hI (by rw [rdS]; first | rw [if_pos (show n ≤ a by omega)] | rw [if_neg (by omega), if_neg (by rw [← htbd]; omega), if_pos (by rw [← htbd]; omega)]) (by omega) (by omega) han l0 l5 l6 l7 l8
          · refine i_146_73 (x := Int32.ofInt (dv tb)) l9 ?_
            refine i_146_75 (x := 108) l0 ?_
            refine i_146_76 (v := Value.int (Int32.ofInt (S1 108 4))) (hR.k10 kq_108) rfl ?_
            rw [q4]
            refine i_146_79 (b_lt (a := dv tb) (b := (rx : Int)) ⟨by omega, by omega⟩ ⟨by omega, by omega⟩ fun c17 => ?_) (b_le (a := (rx : Int)) (b := dv tb) ⟨by omega, by omega⟩ ⟨by omega, by omega⟩ fun c17 => ?_)
            · refine i_146_85 ?_
              refine i_146_86 rfl ?_
              refine lgen1 (i := 5) (v := Value.int 1) (fun lv lg ls => ?_)
              replace l9 := lg 9 _ rfl rfl l9
              replace l0 := lg 0 _ rfl rfl l0
              replace l1 := lg 1 _ rfl rfl l1
              replace l3 := lg 3 _ rfl rfl l3
              replace l4 := lg 4 _ rfl rfl l4
              replace l6 := lg 6 _ rfl rfl l6
              replace l7 := lg 7 _ rfl rfl l7
              replace l8 := lg 8 _ rfl rfl l8
              have l5 := ls
              refine i_146_88 (x := 108) l0 ?_
              refine i_146_89 rfl ?_
              refine i_146_90 (v := Value.int (Int32.ofInt (S1 108 8))) (hR.k10 kq_108) rfl ?_
              rw [hT.2.2.1]
              refine i_146_93 (x := Int32.ofInt pt) l4 ?_
              refine i_146_95 (z_eq (a := pt) ⟨by omega, by omega⟩ fun c18 => absurd c18 (by omega)) (z_ne (a := pt) ⟨by omega, by omega⟩ fun c18 => ?_)
              refine i_146_98 ?_
              refine i_146_99 ?_
              refine i_146_103 (c := Int32.ofInt (sh - 1)) (o_sub sh 1) ?_
              refine i_146_104 (fs2 := f10 (u1 (S1 108) 8 (sh - 1))) (hR.k10 kq_108) (Nat.le_of_ble_eq_true rfl) rfl (h7k kq_108 (by decide)) ?_
              refine xgen (P := cX w0 L Z (u2 S1 108 8 (sh - 1)) V1) (hR.p10 kq_108) (fun w hR => ?_)
              refine i_146_107 (x := 108) l0 ?_
              refine i_146_108 rfl ?_
              refine i_146_109 (v := Value.int (Int32.ofInt ((u2 S1 108 8 (sh - 1)) 108 7))) (hR.k10 kq_108) rfl ?_
              rw [show Int32.ofInt ((u2 S1 108 8 (sh - 1)) 108 7) = Int32.ofInt (S1 108 7) by rw [u2_eq, if_neg (fun e => absurd e.2 (by decide))]]
              rw [hT.2.1]
              refine i_146_112 (x := 108) l0 ?_
              refine i_146_113 (v := Value.int (Int32.ofInt ((u2 S1 108 8 (sh - 1)) 108 7))) (hR.k10 kq_108) rfl ?_
              rw [show Int32.ofInt ((u2 S1 108 8 (sh - 1)) 108 7) = Int32.ofInt (S1 108 7) by rw [u2_eq, if_neg (fun e => absurd e.2 (by decide))]]
              rw [hT.2.1]
              refine i_146_116 (z_gt (a := (sig : Int)) ⟨by omega, by omega⟩ fun c19 => ?_) (z_le (a := (sig : Int)) ⟨by omega, by omega⟩ fun c19 => ?_)
              · refine i_146_124 ?_
                refine i_146_125 ?_
                refine i_146_129 (c := Int32.ofInt ((sig : Int) + 1)) (o_add (sig : Int) 1) ?_
                refine i_146_130 (fs2 := f10 (u1 ((u2 S1 108 8 (sh - 1)) 108) 7 ((sig : Int) + 1))) (hR.k10 kq_108) (Nat.le_of_ble_eq_true rfl) rfl (h7k kq_108 (by decide)) ?_
                refine xgen (P := cX w0 L Z (u2 (u2 S1 108 8 (sh - 1)) 108 7 ((sig : Int) + 1)) V1) (hR.p10 kq_108) (fun w hR => ?_)
                refine i_146_133 (x := Int32.ofInt (ch : Int)) l6 ?_
                refine i_146_135 (x := 108) l0 ?_
                refine i_146_136 (v := Value.int (Int32.ofInt ((u2 (u2 S1 108 8 (sh - 1)) 108 7 ((sig : Int) + 1)) 108 4))) (hR.k10 kq_108) rfl ?_
                rw [show Int32.ofInt ((u2 (u2 S1 108 8 (sh - 1)) 108 7 ((sig : Int) + 1)) 108 4) = Int32.ofInt (S1 108 4) by rw [u2_eq, if_neg (fun e => absurd e.2 (by decide)), u2_eq, if_neg (fun e => absurd e.2 (by decide))]]
                rw [q4]
                refine i_146_139 (c := Int32.ofInt ((ch : Int) * (rx : Int))) (o_mul (ch : Int) (rx : Int)) ?_
                refine i_146_140 (x := Int32.ofInt (dv tb)) l9 ?_
                refine i_146_142 (c := Int32.ofInt ((ch * rx + dg : Nat) : Int)) ((o_add ((ch : Int) * (rx : Int)) (dv tb)).trans (by rw [e6 (by omega)])) ?_
                refine i_146_143 rfl ?_
                refine lgen1 (i := 6) (v := Value.int (Int32.ofInt ((ch * rx + dg : Nat) : Int))) (fun lv lg ls => ?_)
                replace l5 := lg 5 _ rfl rfl l5
                replace l9 := lg 9 _ rfl rfl l9
                replace l0 := lg 0 _ rfl rfl l0
                replace l1 := lg 1 _ rfl rfl l1
                replace l3 := lg 3 _ rfl rfl l3
                replace l4 := lg 4 _ rfl rfl l4
                replace l7 := lg 7 _ rfl rfl l7
                replace l8 := lg 8 _ rfl rfl l8
                have l6 := ls
                refine i_146_145 (x := Int32.ofInt (wt : Int)) l7 ?_
                refine i_146_147 (x := 108) l0 ?_
                refine i_146_148 (v := Value.int (Int32.ofInt ((u2 (u2 S1 108 8 (sh - 1)) 108 7 ((sig : Int) + 1)) 108 4))) (hR.k10 kq_108) rfl ?_
                rw [show Int32.ofInt ((u2 (u2 S1 108 8 (sh - 1)) 108 7 ((sig : Int) + 1)) 108 4) = Int32.ofInt (S1 108 4) by rw [u2_eq, if_neg (fun e => absurd e.2 (by decide)), u2_eq, if_neg (fun e => absurd e.2 (by decide))]]
                rw [q4]
                refine i_146_151 (c := Int32.ofInt ((wt * rx : Nat) : Int)) ((o_mul (wt : Int) (rx : Int)).trans (by rw [Int.natCast_mul])) ?_
                refine i_146_152 rfl ?_
                refine lgen1 (i := 7) (v := Value.int (Int32.ofInt ((wt * rx : Nat) : Int))) (fun lv lg ls => ?_)
                replace l6 := lg 6 _ rfl rfl l6
                replace l5 := lg 5 _ rfl rfl l5
                replace l9 := lg 9 _ rfl rfl l9
                replace l0 := lg 0 _ rfl rfl l0
                replace l1 := lg 1 _ rfl rfl l1
                replace l3 := lg 3 _ rfl rfl l3
                replace l4 := lg 4 _ rfl rfl l4
                replace l8 := lg 8 _ rfl rfl l8
                have l7 := ls
                refine i_146_154 (x := Int32.ofInt ((wt * rx : Nat) : Int)) l7 ?_
                refine i_146_156 ?_
                refine i_146_158 (b_le (a := ((wt * rx : Nat) : Int)) (b := 59652323) ⟨by omega, by omega⟩ ⟨by decide, by decide⟩ fun c20 => ?_) (b_lt (a := 59652323) (b := ((wt * rx : Nat) : Int)) ⟨by decide, by decide⟩ ⟨by omega, by omega⟩ fun c20 => ?_)
                · refine i_146_178 (x := (Int32.ofInt (a : Int))) (c := (Int32.ofInt ((a : Int) + 1))) l8 (o_add (a : Int) 1) rfl ?_
                  refine lgen1 (i := 8) (v := Value.int (Int32.ofInt ((a : Int) + 1))) (fun lv lg ls => ?_)
                  replace l7 := lg 7 _ rfl rfl l7
                  replace l6 := lg 6 _ rfl rfl l6
                  replace l5 := lg 5 _ rfl rfl l5
                  replace l9 := lg 9 _ rfl rfl l9
                  replace l0 := lg 0 _ rfl rfl l0
                  replace l1 := lg 1 _ rfl rfl l1
                  replace l3 := lg 3 _ rfl rfl l3
                  replace l4 := lg 4 _ rfl rfl l4
                  have l8 := ls
                  refine i_146_181 ?_
                  exact ih (a + 1) pt (c + 1) (b + pt.toNat) (v * rx + dg) (sig + 1) (wt * rx) (ch * rx + dg) D (by omega) (by omega) (by omega) hpt hR (hT.up (sig' := sig + 1) (by omega)) (hI.go hr (by omega) (by rw [if_pos (by omega)]) (by omega)) (an := 1) (by rw [if_neg (by omega)]) (by omega) l0 l1 l3 l4 l5 l6 l7 l8 (fun {lv w S2 V2 a2 c2 b2 v2 sig2 wt2 ch2 D2 an2} h1 h2 h3 h4 h5 h6 => hQ h1 h2 h3 (by rw [rdS, if_neg (by omega), if_neg (by rw [← htbd]; omega), if_neg (by rw [← htbd]; omega), ← htbd, ← hdge]; exact h4) h5 h6)
                · refine i_146_161 (x := 108) l0 ?_
                  refine i_146_162 (v := Value.ref 109) (hR.k10 kq_108) rfl ?_
                  refine i_146_165 (x := Int32.ofInt ((wt * rx : Nat) : Int)) l7 ?_
                  refine i_146_167 (x := Int32.ofInt ((ch * rx + dg : Nat) : Int)) l6 ?_
                  obtain ⟨fs, hobj⟩ := hR.nat kq_109
                  obtain ⟨w, hrun, hR⟩ := X_mad (d := d + 1) (h := 109) (u := D) (f := wt * rx) (g := ch * rx + dg) hR kq_109 hT.2.2.2.1 (by have := hI.2.1; omega) (by omega) (by have := hcl (by omega) (by omega); omega) (by omega)
                  refine i_146_169 hobj (Nat.le_of_ble_eq_true rfl) hrun ?_
                  refine i_146_172 ?_
                  refine i_146_173 rfl ?_
                  refine lgen1 (i := 6) (v := Value.int 0) (fun lv lg ls => ?_)
                  replace l7 := lg 7 _ rfl rfl l7
                  replace l5 := lg 5 _ rfl rfl l5
                  replace l9 := lg 9 _ rfl rfl l9
                  replace l0 := lg 0 _ rfl rfl l0
                  replace l1 := lg 1 _ rfl rfl l1
                  replace l3 := lg 3 _ rfl rfl l3
                  replace l4 := lg 4 _ rfl rfl l4
                  replace l8 := lg 8 _ rfl rfl l8
                  have l6 := ls
                  refine i_146_175 ?_
                  refine i_146_176 rfl ?_
                  refine lgen1 (i := 7) (v := Value.int 1) (fun lv lg ls => ?_)
                  replace l6 := lg 6 _ rfl rfl l6
                  replace l5 := lg 5 _ rfl rfl l5
                  replace l9 := lg 9 _ rfl rfl l9
                  replace l0 := lg 0 _ rfl rfl l0
                  replace l1 := lg 1 _ rfl rfl l1
                  replace l3 := lg 3 _ rfl rfl l3
                  replace l4 := lg 4 _ rfl rfl l4
                  replace l8 := lg 8 _ rfl rfl l8
                  have l7 := ls
                  refine i_146_178 (x := (Int32.ofInt (a : Int))) (c := (Int32.ofInt ((a : Int) + 1))) l8 (o_add (a : Int) 1) rfl ?_
                  refine lgen1 (i := 8) (v := Value.int (Int32.ofInt ((a : Int) + 1))) (fun lv lg ls => ?_)
                  replace l7 := lg 7 _ rfl rfl l7
                  replace l6 := lg 6 _ rfl rfl l6
                  replace l5 := lg 5 _ rfl rfl l5
                  replace l9 := lg 9 _ rfl rfl l9
                  replace l0 := lg 0 _ rfl rfl l0
                  replace l1 := lg 1 _ rfl rfl l1
                  replace l3 := lg 3 _ rfl rfl l3
                  replace l4 := lg 4 _ rfl rfl l4
                  have l8 := ls
                  refine i_146_181 ?_
                  exact ih (a + 1) pt (c + 1) (b + pt.toNat) (v * rx + dg) (sig + 1) 1 0 (D * (wt * rx) + (ch * rx + dg)) (by omega) (by omega) (by omega) hpt hR (hT.up (sig' := sig + 1) (by omega)).dg (hI.fl hr (by omega) (by rw [if_pos (by omega)])) (an := 1) (by rw [if_neg (by omega)]) (by omega) l0 l1 l3 l4 l5 l6 l7 l8 (fun {lv w S2 V2 a2 c2 b2 v2 sig2 wt2 ch2 D2 an2} h1 h2 h3 h4 h5 h6 => hQ h1 h2 h3 (by rw [rdS, if_neg (by omega), if_neg (by rw [← htbd]; omega), if_neg (by rw [← htbd]; omega), ← htbd, ← hdge]; exact h4) h5 h6)
              · refine i_146_119 (x := Int32.ofInt (dv tb)) l9 ?_
                refine i_146_121 (z_le (a := dv tb) ⟨by omega, by omega⟩ fun c21 => ?_) (z_gt (a := dv tb) ⟨by omega, by omega⟩ fun c21 => ?_)
                · refine i_146_128 ?_
                  refine i_146_129 (c := Int32.ofInt ((sig : Int) + 0)) (o_add (sig : Int) 0) ?_
                  refine i_146_130 (fs2 := f10 (u1 ((u2 S1 108 8 (sh - 1)) 108) 7 ((sig : Int) + 0))) (hR.k10 kq_108) (Nat.le_of_ble_eq_true rfl) rfl (h7k kq_108 (by decide)) ?_
                  refine xgen (P := cX w0 L Z (u2 (u2 S1 108 8 (sh - 1)) 108 7 ((sig : Int) + 0)) V1) (hR.p10 kq_108) (fun w hR => ?_)
                  refine i_146_133 (x := Int32.ofInt (ch : Int)) l6 ?_
                  refine i_146_135 (x := 108) l0 ?_
                  refine i_146_136 (v := Value.int (Int32.ofInt ((u2 (u2 S1 108 8 (sh - 1)) 108 7 ((sig : Int) + 0)) 108 4))) (hR.k10 kq_108) rfl ?_
                  rw [show Int32.ofInt ((u2 (u2 S1 108 8 (sh - 1)) 108 7 ((sig : Int) + 0)) 108 4) = Int32.ofInt (S1 108 4) by rw [u2_eq, if_neg (fun e => absurd e.2 (by decide)), u2_eq, if_neg (fun e => absurd e.2 (by decide))]]
                  rw [q4]
                  refine i_146_139 (c := Int32.ofInt ((ch : Int) * (rx : Int))) (o_mul (ch : Int) (rx : Int)) ?_
                  refine i_146_140 (x := Int32.ofInt (dv tb)) l9 ?_
                  refine i_146_142 (c := Int32.ofInt ((ch * rx + dg : Nat) : Int)) ((o_add ((ch : Int) * (rx : Int)) (dv tb)).trans (by rw [e6 (by omega)])) ?_
                  refine i_146_143 rfl ?_
                  refine lgen1 (i := 6) (v := Value.int (Int32.ofInt ((ch * rx + dg : Nat) : Int))) (fun lv lg ls => ?_)
                  replace l5 := lg 5 _ rfl rfl l5
                  replace l9 := lg 9 _ rfl rfl l9
                  replace l0 := lg 0 _ rfl rfl l0
                  replace l1 := lg 1 _ rfl rfl l1
                  replace l3 := lg 3 _ rfl rfl l3
                  replace l4 := lg 4 _ rfl rfl l4
                  replace l7 := lg 7 _ rfl rfl l7
                  replace l8 := lg 8 _ rfl rfl l8
                  have l6 := ls
                  refine i_146_145 (x := Int32.ofInt (wt : Int)) l7 ?_
                  refine i_146_147 (x := 108) l0 ?_
                  refine i_146_148 (v := Value.int (Int32.ofInt ((u2 (u2 S1 108 8 (sh - 1)) 108 7 ((sig : Int) + 0)) 108 4))) (hR.k10 kq_108) rfl ?_
                  rw [show Int32.ofInt ((u2 (u2 S1 108 8 (sh - 1)) 108 7 ((sig : Int) + 0)) 108 4) = Int32.ofInt (S1 108 4) by rw [u2_eq, if_neg (fun e => absurd e.2 (by decide)), u2_eq, if_neg (fun e => absurd e.2 (by decide))]]
                  rw [q4]
                  refine i_146_151 (c := Int32.ofInt ((wt * rx : Nat) : Int)) ((o_mul (wt : Int) (rx : Int)).trans (by rw [Int.natCast_mul])) ?_
                  refine i_146_152 rfl ?_
                  refine lgen1 (i := 7) (v := Value.int (Int32.ofInt ((wt * rx : Nat) : Int))) (fun lv lg ls => ?_)
                  replace l6 := lg 6 _ rfl rfl l6
                  replace l5 := lg 5 _ rfl rfl l5
                  replace l9 := lg 9 _ rfl rfl l9
                  replace l0 := lg 0 _ rfl rfl l0
                  replace l1 := lg 1 _ rfl rfl l1
                  replace l3 := lg 3 _ rfl rfl l3
                  replace l4 := lg 4 _ rfl rfl l4
                  replace l8 := lg 8 _ rfl rfl l8
                  have l7 := ls
                  refine i_146_154 (x := Int32.ofInt ((wt * rx : Nat) : Int)) l7 ?_
                  refine i_146_156 ?_
                  refine i_146_158 (b_le (a := ((wt * rx : Nat) : Int)) (b := 59652323) ⟨by omega, by omega⟩ ⟨by decide, by decide⟩ fun c22 => ?_) (b_lt (a := 59652323) (b := ((wt * rx : Nat) : Int)) ⟨by decide, by decide⟩ ⟨by omega, by omega⟩ fun c22 => ?_)
                  · refine i_146_178 (x := (Int32.ofInt (a : Int))) (c := (Int32.ofInt ((a : Int) + 1))) l8 (o_add (a : Int) 1) rfl ?_
                    refine lgen1 (i := 8) (v := Value.int (Int32.ofInt ((a : Int) + 1))) (fun lv lg ls => ?_)
                    replace l7 := lg 7 _ rfl rfl l7
                    replace l6 := lg 6 _ rfl rfl l6
                    replace l5 := lg 5 _ rfl rfl l5
                    replace l9 := lg 9 _ rfl rfl l9
                    replace l0 := lg 0 _ rfl rfl l0
                    replace l1 := lg 1 _ rfl rfl l1
                    replace l3 := lg 3 _ rfl rfl l3
                    replace l4 := lg 4 _ rfl rfl l4
                    have l8 := ls
                    refine i_146_181 ?_
                    exact ih (a + 1) pt (c + 1) (b + pt.toNat) (v * rx + dg) (sig + 0) (wt * rx) (ch * rx + dg) D (by omega) (by omega) (by omega) hpt hR (hT.up (sig' := sig + 0) (by omega)) (hI.go hr (by omega) (by rw [if_neg (by omega)]) (by omega)) (an := 1) (by rw [if_neg (by omega)]) (by omega) l0 l1 l3 l4 l5 l6 l7 l8 (fun {lv w S2 V2 a2 c2 b2 v2 sig2 wt2 ch2 D2 an2} h1 h2 h3 h4 h5 h6 => hQ h1 h2 h3 (by rw [rdS, if_neg (by omega), if_neg (by rw [← htbd]; omega), if_neg (by rw [← htbd]; omega), ← htbd, ← hdge]; exact h4) h5 h6)
                  · refine i_146_161 (x := 108) l0 ?_
                    refine i_146_162 (v := Value.ref 109) (hR.k10 kq_108) rfl ?_
                    refine i_146_165 (x := Int32.ofInt ((wt * rx : Nat) : Int)) l7 ?_
                    refine i_146_167 (x := Int32.ofInt ((ch * rx + dg : Nat) : Int)) l6 ?_
                    obtain ⟨fs, hobj⟩ := hR.nat kq_109
                    obtain ⟨w, hrun, hR⟩ := X_mad (d := d + 1) (h := 109) (u := D) (f := wt * rx) (g := ch * rx + dg) hR kq_109 hT.2.2.2.1 (by have := hI.2.1; omega) (by omega) (by have := hcl (by omega) (by omega); omega) (by omega)
                    refine i_146_169 hobj (Nat.le_of_ble_eq_true rfl) hrun ?_
                    refine i_146_172 ?_
                    refine i_146_173 rfl ?_
                    refine lgen1 (i := 6) (v := Value.int 0) (fun lv lg ls => ?_)
                    replace l7 := lg 7 _ rfl rfl l7
                    replace l5 := lg 5 _ rfl rfl l5
                    replace l9 := lg 9 _ rfl rfl l9
                    replace l0 := lg 0 _ rfl rfl l0
                    replace l1 := lg 1 _ rfl rfl l1
                    replace l3 := lg 3 _ rfl rfl l3
                    replace l4 := lg 4 _ rfl rfl l4
                    replace l8 := lg 8 _ rfl rfl l8
                    have l6 := ls
                    refine i_146_175 ?_
                    refine i_146_176 rfl ?_
                    refine lgen1 (i := 7) (v := Value.int 1) (fun lv lg ls => ?_)
                    replace l6 := lg 6 _ rfl rfl l6
                    replace l5 := lg 5 _ rfl rfl l5
                    replace l9 := lg 9 _ rfl rfl l9
                    replace l0 := lg 0 _ rfl rfl l0
                    replace l1 := lg 1 _ rfl rfl l1
                    replace l3 := lg 3 _ rfl rfl l3
                    replace l4 := lg 4 _ rfl rfl l4
                    replace l8 := lg 8 _ rfl rfl l8
                    have l7 := ls
                    refine i_146_178 (x := (Int32.ofInt (a : Int))) (c := (Int32.ofInt ((a : Int) + 1))) l8 (o_add (a : Int) 1) rfl ?_
                    refine lgen1 (i := 8) (v := Value.int (Int32.ofInt ((a : Int) + 1))) (fun lv lg ls => ?_)
                    replace l7 := lg 7 _ rfl rfl l7
                    replace l6 := lg 6 _ rfl rfl l6
                    replace l5 := lg 5 _ rfl rfl l5
                    replace l9 := lg 9 _ rfl rfl l9
                    replace l0 := lg 0 _ rfl rfl l0
                    replace l1 := lg 1 _ rfl rfl l1
                    replace l3 := lg 3 _ rfl rfl l3
                    replace l4 := lg 4 _ rfl rfl l4
                    have l8 := ls
                    refine i_146_181 ?_
                    exact ih (a + 1) pt (c + 1) (b + pt.toNat) (v * rx + dg) (sig + 0) 1 0 (D * (wt * rx) + (ch * rx + dg)) (by omega) (by omega) (by omega) hpt hR (hT.up (sig' := sig + 0) (by omega)).dg (hI.fl hr (by omega) (by rw [if_neg (by omega)])) (an := 1) (by rw [if_neg (by omega)]) (by omega) l0 l1 l3 l4 l5 l6 l7 l8 (fun {lv w S2 V2 a2 c2 b2 v2 sig2 wt2 ch2 D2 an2} h1 h2 h3 h4 h5 h6 => hQ h1 h2 h3 (by rw [rdS, if_neg (by omega), if_neg (by rw [← htbd]; omega), if_neg (by rw [← htbd]; omega), ← htbd, ← hdge]; exact h4) h5 h6)
                · refine i_146_124 ?_
                  refine i_146_125 ?_
                  refine i_146_129 (c := Int32.ofInt ((sig : Int) + 1)) (o_add (sig : Int) 1) ?_
                  refine i_146_130 (fs2 := f10 (u1 ((u2 S1 108 8 (sh - 1)) 108) 7 ((sig : Int) + 1))) (hR.k10 kq_108) (Nat.le_of_ble_eq_true rfl) rfl (h7k kq_108 (by decide)) ?_
                  refine xgen (P := cX w0 L Z (u2 (u2 S1 108 8 (sh - 1)) 108 7 ((sig : Int) + 1)) V1) (hR.p10 kq_108) (fun w hR => ?_)
                  refine i_146_133 (x := Int32.ofInt (ch : Int)) l6 ?_
                  refine i_146_135 (x := 108) l0 ?_
                  refine i_146_136 (v := Value.int (Int32.ofInt ((u2 (u2 S1 108 8 (sh - 1)) 108 7 ((sig : Int) + 1)) 108 4))) (hR.k10 kq_108) rfl ?_
                  rw [show Int32.ofInt ((u2 (u2 S1 108 8 (sh - 1)) 108 7 ((sig : Int) + 1)) 108 4) = Int32.ofInt (S1 108 4) by rw [u2_eq, if_neg (fun e => absurd e.2 (by decide)), u2_eq, if_neg (fun e => absurd e.2 (by decide))]]
                  rw [q4]
                  refine i_146_139 (c := Int32.ofInt ((ch : Int) * (rx : Int))) (o_mul (ch : Int) (rx : Int)) ?_
                  refine i_146_140 (x := Int32.ofInt (dv tb)) l9 ?_
                  refine i_146_142 (c := Int32.ofInt ((ch * rx + dg : Nat) : Int)) ((o_add ((ch : Int) * (rx : Int)) (dv tb)).trans (by rw [e6 (by omega)])) ?_
                  refine i_146_143 rfl ?_
                  refine lgen1 (i := 6) (v := Value.int (Int32.ofInt ((ch * rx + dg : Nat) : Int))) (fun lv lg ls => ?_)
                  replace l5 := lg 5 _ rfl rfl l5
                  replace l9 := lg 9 _ rfl rfl l9
                  replace l0 := lg 0 _ rfl rfl l0
                  replace l1 := lg 1 _ rfl rfl l1
                  replace l3 := lg 3 _ rfl rfl l3
                  replace l4 := lg 4 _ rfl rfl l4
                  replace l7 := lg 7 _ rfl rfl l7
                  replace l8 := lg 8 _ rfl rfl l8
                  have l6 := ls
                  refine i_146_145 (x := Int32.ofInt (wt : Int)) l7 ?_
                  refine i_146_147 (x := 108) l0 ?_
                  refine i_146_148 (v := Value.int (Int32.ofInt ((u2 (u2 S1 108 8 (sh - 1)) 108 7 ((sig : Int) + 1)) 108 4))) (hR.k10 kq_108) rfl ?_
                  rw [show Int32.ofInt ((u2 (u2 S1 108 8 (sh - 1)) 108 7 ((sig : Int) + 1)) 108 4) = Int32.ofInt (S1 108 4) by rw [u2_eq, if_neg (fun e => absurd e.2 (by decide)), u2_eq, if_neg (fun e => absurd e.2 (by decide))]]
                  rw [q4]
                  refine i_146_151 (c := Int32.ofInt ((wt * rx : Nat) : Int)) ((o_mul (wt : Int) (rx : Int)).trans (by rw [Int.natCast_mul])) ?_
                  refine i_146_152 rfl ?_
                  refine lgen1 (i := 7) (v := Value.int (Int32.ofInt ((wt * rx : Nat) : Int))) (fun lv lg ls => ?_)
                  replace l6 := lg 6 _ rfl rfl l6
                  replace l5 := lg 5 _ rfl rfl l5
                  replace l9 := lg 9 _ rfl rfl l9
                  replace l0 := lg 0 _ rfl rfl l0
                  replace l1 := lg 1 _ rfl rfl l1
                  replace l3 := lg 3 _ rfl rfl l3
                  replace l4 := lg 4 _ rfl rfl l4
                  replace l8 := lg 8 _ rfl rfl l8
                  have l7 := ls
                  refine i_146_154 (x := Int32.ofInt ((wt * rx : Nat) : Int)) l7 ?_
                  refine i_146_156 ?_
                  refine i_146_158 (b_le (a := ((wt * rx : Nat) : Int)) (b := 59652323) ⟨by omega, by omega⟩ ⟨by decide, by decide⟩ fun c23 => ?_) (b_lt (a := 59652323) (b := ((wt * rx : Nat) : Int)) ⟨by decide, by decide⟩ ⟨by omega, by omega⟩ fun c23 => ?_)
                  · refine i_146_178 (x := (Int32.ofInt (a : Int))) (c := (Int32.ofInt ((a : Int) + 1))) l8 (o_add (a : Int) 1) rfl ?_
                    refine lgen1 (i := 8) (v := Value.int (Int32.ofInt ((a : Int) + 1))) (fun lv lg ls => ?_)
                    replace l7 := lg 7 _ rfl rfl l7
                    replace l6 := lg 6 _ rfl rfl l6
                    replace l5 := lg 5 _ rfl rfl l5
                    replace l9 := lg 9 _ rfl rfl l9
                    replace l0 := lg 0 _ rfl rfl l0
                    replace l1 := lg 1 _ rfl rfl l1
                    replace l3 := lg 3 _ rfl rfl l3
                    replace l4 := lg 4 _ rfl rfl l4
                    have l8 := ls
                    refine i_146_181 ?_
                    exact ih (a + 1) pt (c + 1) (b + pt.toNat) (v * rx + dg) (sig + 1) (wt * rx) (ch * rx + dg) D (by omega) (by omega) (by omega) hpt hR (hT.up (sig' := sig + 1) (by omega)) (hI.go hr (by omega) (by rw [if_pos (by omega)]) (by omega)) (an := 1) (by rw [if_neg (by omega)]) (by omega) l0 l1 l3 l4 l5 l6 l7 l8 (fun {lv w S2 V2 a2 c2 b2 v2 sig2 wt2 ch2 D2 an2} h1 h2 h3 h4 h5 h6 => hQ h1 h2 h3 (by rw [rdS, if_neg (by omega), if_neg (by rw [← htbd]; omega), if_neg (by rw [← htbd]; omega), ← htbd, ← hdge]; exact h4) h5 h6)
                  · refine i_146_161 (x := 108) l0 ?_
                    refine i_146_162 (v := Value.ref 109) (hR.k10 kq_108) rfl ?_
                    refine i_146_165 (x := Int32.ofInt ((wt * rx : Nat) : Int)) l7 ?_
                    refine i_146_167 (x := Int32.ofInt ((ch * rx + dg : Nat) : Int)) l6 ?_
                    obtain ⟨fs, hobj⟩ := hR.nat kq_109
                    obtain ⟨w, hrun, hR⟩ := X_mad (d := d + 1) (h := 109) (u := D) (f := wt * rx) (g := ch * rx + dg) hR kq_109 hT.2.2.2.1 (by have := hI.2.1; omega) (by omega) (by have := hcl (by omega) (by omega); omega) (by omega)
                    refine i_146_169 hobj (Nat.le_of_ble_eq_true rfl) hrun ?_
                    refine i_146_172 ?_
                    refine i_146_173 rfl ?_
                    refine lgen1 (i := 6) (v := Value.int 0) (fun lv lg ls => ?_)
                    replace l7 := lg 7 _ rfl rfl l7
                    replace l5 := lg 5 _ rfl rfl l5
                    replace l9 := lg 9 _ rfl rfl l9
                    replace l0 := lg 0 _ rfl rfl l0
                    replace l1 := lg 1 _ rfl rfl l1
                    replace l3 := lg 3 _ rfl rfl l3
                    replace l4 := lg 4 _ rfl rfl l4
                    replace l8 := lg 8 _ rfl rfl l8
                    have l6 := ls
                    refine i_146_175 ?_
                    refine i_146_176 rfl ?_
                    refine lgen1 (i := 7) (v := Value.int 1) (fun lv lg ls => ?_)
                    replace l6 := lg 6 _ rfl rfl l6
                    replace l5 := lg 5 _ rfl rfl l5
                    replace l9 := lg 9 _ rfl rfl l9
                    replace l0 := lg 0 _ rfl rfl l0
                    replace l1 := lg 1 _ rfl rfl l1
                    replace l3 := lg 3 _ rfl rfl l3
                    replace l4 := lg 4 _ rfl rfl l4
                    replace l8 := lg 8 _ rfl rfl l8
                    have l7 := ls
                    refine i_146_178 (x := (Int32.ofInt (a : Int))) (c := (Int32.ofInt ((a : Int) + 1))) l8 (o_add (a : Int) 1) rfl ?_
                    refine lgen1 (i := 8) (v := Value.int (Int32.ofInt ((a : Int) + 1))) (fun lv lg ls => ?_)
                    replace l7 := lg 7 _ rfl rfl l7
                    replace l6 := lg 6 _ rfl rfl l6
                    replace l5 := lg 5 _ rfl rfl l5
                    replace l9 := lg 9 _ rfl rfl l9
                    replace l0 := lg 0 _ rfl rfl l0
                    replace l1 := lg 1 _ rfl rfl l1
                    replace l3 := lg 3 _ rfl rfl l3
                    replace l4 := lg 4 _ rfl rfl l4
                    have l8 := ls
                    refine i_146_181 ?_
                    exact ih (a + 1) pt (c + 1) (b + pt.toNat) (v * rx + dg) (sig + 1) 1 0 (D * (wt * rx) + (ch * rx + dg)) (by omega) (by omega) (by omega) hpt hR (hT.up (sig' := sig + 1) (by omega)).dg (hI.fl hr (by omega) (by rw [if_pos (by omega)])) (an := 1) (by rw [if_neg (by omega)]) (by omega) l0 l1 l3 l4 l5 l6 l7 l8 (fun {lv w S2 V2 a2 c2 b2 v2 sig2 wt2 ch2 D2 an2} h1 h2 h3 h4 h5 h6 => hQ h1 h2 h3 (by rw [rdS, if_neg (by omega), if_neg (by rw [← htbd]; omega), if_neg (by rw [← htbd]; omega), ← htbd, ← hdge]; exact h4) h5 h6)
            · refine i_146_82 ?_
              refine hQ hR (hsh ▸ hT) hI (by rw [rdS]; first | rw [if_pos (show n ≤ a by omega)] | rw [if_neg (by omega), if_neg (by rw [← htbd]; omega), if_pos (by rw [← htbd]; omega)]) (by omega) (by omega) han l0 l5 l6 l7 l8
        · refine i_146_62 ?_
          refine i_146_63 rfl ?_
          refine lgen1 (i := 4) (v := Value.int 1) (fun lv lg ls => ?_)
          replace l9 := lg 9 _ rfl rfl l9
          replace l0 := lg 0 _ rfl rfl l0
          replace l1 := lg 1 _ rfl rfl l1
          replace l3 := lg 3 _ rfl rfl l3
          replace l5 := lg 5 _ rfl rfl l5
          replace l6 := lg 6 _ rfl rfl l6
          replace l7 := lg 7 _ rfl rfl l7
          replace l8 := lg 8 _ rfl rfl l8
          have l4 := ls
          refine i_146_65 ?_
          refine i_146_178 (x := (Int32.ofInt (a : Int))) (c := (Int32.ofInt ((a : Int) + 1))) l8 (o_add (a : Int) 1) rfl ?_
          refine lgen1 (i := 8) (v := Value.int (Int32.ofInt ((a : Int) + 1))) (fun lv lg ls => ?_)
          replace l4 := lg 4 _ rfl rfl l4
          replace l9 := lg 9 _ rfl rfl l9
          replace l0 := lg 0 _ rfl rfl l0
          replace l1 := lg 1 _ rfl rfl l1
          replace l3 := lg 3 _ rfl rfl l3
          replace l5 := lg 5 _ rfl rfl l5
          replace l6 := lg 6 _ rfl rfl l6
          replace l7 := lg 7 _ rfl rfl l7
          have l8 := ls
          refine i_146_181 ?_
          exact ih (a + 1) 1 c b v sig wt ch D (by omega) (by omega) (by omega) (Or.inr rfl) hR hT hI han hsh l0 l1 l3 l4 l5 l6 l7 l8 (fun {lv w S2 V2 a2 c2 b2 v2 sig2 wt2 ch2 D2 an2} h1 h2 h3 h4 h5 h6 => hQ h1 h2 h3 (by rw [rdS, if_neg (by omega), if_pos (by rw [← htbd]; omega)]; exact h4) h5 h6)
end
