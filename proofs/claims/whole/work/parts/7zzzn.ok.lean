/-! every outcome is a register's content -/
theorem zor_rg {a k : Int} : -2147483648 ≤ zor a k ∧ zor a k < 2147483648 := i32_b _
theorem rD_fl {p least greatest gradual sg mode x more : Int} {m q : Nat} {u way f : Int} (hf : -2147483648 ≤ f ∧ f < 2147483648) : -2147483648 ≤ (rD p least greatest gradual 0 sg mode x more m q u way f).2.2.2.2 ∧ (rD p least greatest gradual 0 sg mode x more m q u way f).2.2.2.2 < 2147483648 := by
  unfold rD
  split
  · split
    · exact zor_rg
    · exact zor_rg
  · split
    · exact hf
    · split
      · split
        · exact zor_rg
        · exact zor_rg
      · exact hf
theorem rFl_rg {fr gr x l w f : Int} (hf : -2147483648 ≤ f ∧ f < 2147483648) : -2147483648 ≤ rFl fr gr x l w f ∧ rFl fr gr x l w f < 2147483648 := by
  unfold rFl
  split
  · exact zor_rg
  · exact hf
theorem okOO_R {p least greatest gradual sg mode more e f : Int} {m : Nat} (hp : 2 ≤ p ∧ p ≤ 4096) (hl : -16384 ≤ least ∧ least ≤ greatest ∧ greatest ≤ 16384) (hf : -2147483648 ≤ f ∧ f < 2147483648) : okOO p (oR p least greatest gradual sg mode more m e f) := by
  obtain ⟨o1, o2, o3⟩ := rnd_ok (p := p) (least := least) (greatest := greatest) (gradual := gradual) (sg := sg) (mode := mode) (more := more) (e := e) (f := f) (m := m) hp hl
  refine ⟨⟨Int.le_trans (by decide) o1.1, o1.2⟩, fun c => ⟨o2.resolve_left (fun n => n c), o3 c⟩, ?_⟩
  show -2147483648 ≤ (rnd p least greatest gradual 0 sg mode more m e f).2.2.2.2 ∧ (rnd p least greatest gradual 0 sg mode more m e f).2.2.2.2 < 2147483648
  unfold rnd
  exact rFl_rg (rD_fl hf)
theorem okOO_S {p k sg f : Int} (hk : 0 ≤ k ∧ k ≤ 3) (h3 : k ≠ 3) (hf : -2147483648 ≤ f ∧ f < 2147483648) : okOO p (oS k sg f) := ⟨hk, fun c => absurd c h3, hf⟩
theorem okOO_s {p k sg f : Int} (hk : 0 ≤ k ∧ k ≤ 2) (hf : -2147483648 ≤ f ∧ f < 2147483648) : okOO p (oS k sg f) := okOO_S ⟨hk.1, by omega⟩ (by omega) hf
theorem ok_sumS {p least greatest gradual f mode base zeros pz nz : Int} {plus minus : Nat} (hp : 2 ≤ p ∧ p ≤ 4096) (hl : -16384 ≤ least ∧ least ≤ greatest ∧ greatest ≤ 16384) (hf : -2147483648 ≤ f ∧ f < 2147483648) : okOO p (sumS p least greatest gradual f mode plus minus base zeros pz nz) := by
  unfold sumS
  split
  · exact okOO_s (by decide) hf
  · exact okOO_R hp hl hf
theorem ok_finT {p least greatest gradual f mode : Int} {x : AT} (hp : 2 ≤ p ∧ p ≤ 4096) (hl : -16384 ≤ least ∧ least ≤ greatest ∧ greatest ≤ 16384) (hf : -2147483648 ≤ f ∧ f < 2147483648) : okOO p (sFinT p least greatest gradual f mode x) := by
  obtain ⟨nan, inv, pi, mi, b, P, N, num, pz, nz⟩ := x
  show okOO p (sFin p least greatest gradual f mode nan inv pi mi b P N num pz nz)
  unfold sFin
  split
  · exact okOO_s (by decide) hf
  · split
    · exact okOO_s (by decide) zor_rg
    · split
      · exact okOO_s (by decide) hf
      · exact ok_sumS hp hl hf
theorem ok_scl {p least greatest gradual sg mode sc f : Int} {rx v : Nat} (hp : 2 ≤ p ∧ p ≤ 4096) (hl : -16384 ≤ least ∧ least ≤ greatest ∧ greatest ≤ 16384) (hf : -2147483648 ≤ f ∧ f < 2147483648) : okOO p (sScl p least greatest gradual sg mode rx v sc f) := by
  unfold sScl
  split
  · exact okOO_R hp hl hf
  · split
    · exact okOO_R hp hl hf
    · split
      · exact okOO_R hp hl hf
      · split <;> exact okOO_R hp hl hf
section
variable {S : Nat → Nat → Int} {V : Nat → Nat} {r a b c : Nat} {mode : Int}
/-- what every outcome needs: precision, range, flags -/
def gK (S : Nat → Nat → Int) (r : Nat) : Prop := (2 ≤ S 153 r ∧ S 153 r ≤ 4096) ∧ (-16384 ≤ S 128 17 ∧ S 128 17 ≤ S 128 18 ∧ S 128 18 ≤ 16384) ∧ (-2147483648 ≤ S 128 19 ∧ S 128 19 < 2147483648)
theorem gK.R {sg more e : Int} {m : Nat} (h : gK S r) : okOO (S 153 r) (oR (S 153 r) (S 128 17) (S 128 18) (S 128 20) sg mode more m e (S 128 19)) := okOO_R h.1 h.2.1 h.2.2
theorem gK.s {k sg : Int} (h : gK S r) (hk : 0 ≤ k ∧ k ≤ 2) : okOO (S 153 r) (oS k sg (S 128 19)) := okOO_s hk h.2.2
theorem ok_num {v sc : Int} (h : gK S r) : okOO (S 153 r) (sNum S r v sc mode) := by
  unfold sNum
  split
  · exact h.s (by decide)
  · exact h.R
theorem ok_move {sg : Int} (h : gK S r) (hk : 0 ≤ S 154 a ∧ S 154 a ≤ 3) : okOO (S 153 r) (sMove S V r a sg mode) := by
  unfold sMove
  split
  · exact h.R
  · exact h.s (by omega)
theorem ok_copy {how : Int} (h : gK S r) (hk : 0 ≤ S 154 a ∧ S 154 a ≤ 3) : okOO (S 153 r) (sCopy S V r a how mode) := ok_move h hk
theorem ok_frd {B : Int} (h : gK S r) : okOO (S 153 r) (sFrD S r B mode) := by
  unfold sFrD
  split
  · split <;> exact h.s (by decide)
  · split
    · exact h.s (by decide)
    · exact h.R
theorem ok_rtd {e n sg : Int} {v : Nat} (h : gK S r) : okOO (S 153 r) (sRtd S r e n sg mode v) := h.R
theorem ok_rat {e f sg : Int} {m dd : Nat} (h : gK S r) : okOO (S 153 r) (sRat S r m e dd f sg mode) := h.R
theorem ok_root {n : Int} (h : gK S r) (hk : 0 ≤ S 154 a ∧ S 154 a ≤ 3) : okOO (S 153 r) (sRoot S V r a n mode) := by
  unfold sRoot
  split
  · exact h.s (by decide)
  · split
    · exact okOO_s (by decide) zor_rg
    · split
      · exact okOO_S hk (by assumption) h.2.2
      · exact ok_rtd h
theorem ok_pow {n : Int} (h : gK S r) (hk : 0 ≤ S 154 a ∧ S 154 a ≤ 3) : okOO (S 153 r) (sPow S V r a n mode) := by
  unfold sPow
  split
  · exact h.R
  · split
    · exact h.s (by decide)
    · split
      · refine okOO_S ?_ ?_ ?_
        · split
          · omega
          · split <;> decide
        · split
          · omega
          · split <;> decide
        · split
          · exact zor_rg
          · exact h.2.2
      · split
        · exact h.R
        · exact ok_rat h
theorem ok_len (h : gK S r) (hk : 0 ≤ S 154 a ∧ S 154 a ≤ 3) (hl : 0 ≤ S 154 b ∧ S 154 b ≤ 3) : okOO (S 153 r) (sLen S V r a b mode) := by
  unfold sLen
  split
  · exact h.s (by decide)
  · split
    · exact h.s (by decide)
    · split
      · exact h.s (by decide)
      · split
        · refine ok_move h ?_
          split <;> assumption
        · exact ok_rtd h
theorem ok_add {tn : Int} (h : gK S r) : okOO (S 153 r) (sAdd S V r a b tn mode) := by
  unfold sAdd
  split
  · exact okOO_s (by decide) zor_rg
  · split
    · exact h.s (by decide)
    · exact ok_sumS h.1 h.2.1 h.2.2
theorem ok_mul (h : gK S r) : okOO (S 153 r) (sMul S V r a b mode) := by
  unfold sMul
  split
  · exact okOO_s (by decide) zor_rg
  · split
    · exact h.s (by decide)
    · split
      · exact h.s (by decide)
      · exact h.R
theorem ok_quo (h : gK S r) : okOO (S 153 r) (sQuo S V r a b mode) := by
  unfold sQuo
  split
  · exact okOO_s (by decide) zor_rg
  · split
    · refine okOO_s (by decide) ?_
      split
      · exact zor_rg
      · exact h.2.2
    · split
      · exact h.s (by decide)
      · split
        · exact h.s (by decide)
        · exact ok_rat h
theorem ok_rem {nr : Int} (h : gK S r) (hk : 0 ≤ S 154 a ∧ S 154 a ≤ 3) : okOO (S 153 r) (sRem S V r a b nr mode) := by
  unfold sRem
  split
  · exact okOO_s (by decide) zor_rg
  · split
    · exact ok_move h hk
    · unfold sRem1
      split
      · exact h.R
      · split
        · exact h.s (by decide)
        · exact h.R
theorem ok_rec {op : Int} (h : gK S r) (hk : 0 ≤ S 154 a ∧ S 154 a ≤ 3) (hl : 0 ≤ S 154 b ∧ S 154 b ≤ 3) : okOO (S 153 r) (sRec S V op r a b mode) := by
  unfold sRec
  split
  · exact ok_len h hk hl
  · split
    · exact h.s (by decide)
    · split
      · exact ok_add h
      · split
        · exact ok_add h
        · split
          · exact ok_mul h
          · split
            · exact ok_quo h
            · exact ok_rem h hk
theorem ok_fus (h : gK S r) : okOO (S 153 r) (sFus S V r a b c mode) := by
  unfold sFus
  split
  · exact h.s (by decide)
  · split
    · exact okOO_s (by decide) zor_rg
    · split
      · exact h.s (by decide)
      · split
        · exact h.s (by decide)
        · exact ok_sumS h.1 h.2.1 h.2.2
theorem ok_rdo {p least greatest gradual f : Int} {rx : Nat} {x : Int × Int × Nat × Int} (hp : 2 ≤ p ∧ p ≤ 4096) (hl : -16384 ≤ least ∧ least ≤ greatest ∧ greatest ≤ 16384) (hf : -2147483648 ≤ f ∧ f < 2147483648) (hx : 0 ≤ x.1 ∧ x.1 ≤ 3) : okOO p (sRdO p least greatest gradual f mode rx x) := by
  unfold sRdO
  split
  · exact okOO_S hx (by assumption) hf
  · exact ok_scl hp hl hf
theorem okOO_wh {p sg f t F : Int} {o : OO} (h : okOO p o) (hF : -2147483648 ≤ F ∧ F < 2147483648) : okOO p (o.1, sg, o.2.2.1, o.2.2.2.1, t, F) := ⟨h.1, h.2.1, hF⟩
theorem ok_whl {way : Int} (h : gK S r) (hk : 0 ≤ S 154 a ∧ S 154 a ≤ 3) : okOO (S 153 r) (sWhC S V r a way mode) := by
  unfold sWhC
  split
  · exact okOO_S hk (by assumption) h.2.2
  · split
    · exact okOO_wh (f := 0) (h.s (k := 2) (sg := S 156 a) (by decide)) zor_rg
    · exact okOO_wh (f := 0) h.R zor_rg
theorem ok_put3 {q : Nat} {e p sg f : Int} (hq : q ≠ 0) (hp : 2 ≤ p) (h1 : -20479 ≤ (xbl q : Int) + e) (h2 : (xbl q : Int) + e ≤ 16384) (hf : -2147483648 ≤ f ∧ f < 2147483648) : okOO p (o3 (put3 q e p) sg f) := ⟨⟨(by decide : (0 : Int) ≤ 3), (by decide : (3 : Int) ≤ 3)⟩, fun _ => ⟨⟨h1, h2⟩, xbl_nrm hq (by omega)⟩, hf⟩
theorem ok_n3 {k p sg f : Int} (hk : k = 1 ∨ k = 2) (hf : -2147483648 ≤ f ∧ f < 2147483648) : okOO p (o3 (k, 0, 0) sg f) := ⟨⟨(by omega : 0 ≤ k), (by omega : k ≤ 3)⟩, fun c => absurd (show k = 3 from c) (by omega), hf⟩
theorem xbl1 {q : Nat} (h : q ≠ 0) : 1 ≤ xbl q := (xbl_of h).2.2
theorem ok_far (h : gK S r) (hb : (xbl (V (160 + 2 * r)) : Int) = S 153 r) : okOO (S 153 r) (o3 (sFar S V r) (S 156 r) (S 128 19)) := by
  obtain ⟨hp, hl, hf⟩ := h
  have x1 : xbl 1 = 1 := rfl
  unfold sFar
  split
  · exact ok_n3 (Or.inl rfl) hf
  · split
    · split
      · exact ok_put3 (by decide) hp.1 (by omega) (by omega) hf
      · have q0 : V (160 + 2 * r) / 2 ^ (S 128 17 - S 155 r).toNat + 1 ≠ 0 := Nat.succ_ne_zero _
        have q1 := xbl1 q0
        have q2 : xbl (V (160 + 2 * r) / 2 ^ (S 128 17 - S 155 r).toNat + 1) ≤ (S 153 r).toNat := by
          have l1 := xbl_lt (V (160 + 2 * r))
          rw [show xbl (V (160 + 2 * r)) = (S 153 r).toNat by omega] at l1
          have l2 : V (160 + 2 * r) / 2 ^ (S 128 17 - S 155 r).toNat ≤ V (160 + 2 * r) / 2 := Nat.div_le_div_left (by
            have := Nat.pow_le_pow_right (n := 2) (by decide) (show 1 ≤ (S 128 17 - S 155 r).toNat by omega)
            simpa using this) (by decide)
          have l3 : 4 ≤ 2 ^ (S 153 r).toNat := by
            have := Nat.pow_le_pow_right (n := 2) (by decide) (show 2 ≤ (S 153 r).toNat by omega)
            simpa using this
          exact xbl_le (by omega)
        exact ok_put3 q0 hp.1 (by omega) (by omega) hf
    · split
      · exact ok_n3 (Or.inl rfl) hf
      · have q1 : xbl (V (160 + 2 * r)) ≤ xbl (V (160 + 2 * r) + 1) := xbl_mono (by omega)
        exact ok_put3 (by omega) hp.1 (by omega) (by omega) hf
theorem ok_nea (h : gK S r) (hb : S 154 r = 3 → (xbl (V (160 + 2 * r)) : Int) = S 153 r) (hk : S 154 r = 1 ∨ S 154 r = 3) : okOO (S 153 r) (o3 (sNea S V r) (S 156 r) (S 128 19)) := by
  obtain ⟨hp, hl, hf⟩ := h
  unfold sNea
  split
  · have hon : xbl (2 ^ (S 153 r).toNat - 1) = (S 153 r).toNat := xbl_ones _
    have h2 : 2 ^ (S 153 r).toNat - 1 ≠ 0 := by
      intro e
      rw [e, xbl_zero] at hon
      omega
    exact ok_put3 h2 hp.1 (by omega) (by omega) hf
  · have hb := hb (by omega)
    have v0 : V (160 + 2 * r) ≠ 0 := by
      intro e
      rw [e, xbl_zero] at hb
      omega
    obtain ⟨v1, v2, v3⟩ := xbl_of v0
    have vp : 2 ≤ 2 ^ (xbl (V (160 + 2 * r)) - 1) := by
      have := Nat.pow_le_pow_right (n := 2) (by decide) (show 1 ≤ xbl (V (160 + 2 * r)) - 1 by omega)
      simpa using this
    split
    · split
      · exact ok_n3 (Or.inr rfl) hf
      · have q0 : neaQ (V (160 + 2 * r)) (S 128 17 - S 155 r) ≠ 0 := by omega
        have q1 := xbl1 q0
        have q2 : xbl (neaQ (V (160 + 2 * r)) (S 128 17 - S 155 r)) ≤ xbl (V (160 + 2 * r)) := by
          refine xbl_mono ?_
          have l2 : V (160 + 2 * r) / 2 ^ (S 128 17 - S 155 r).toNat ≤ V (160 + 2 * r) := Nat.div_le_self _ _
          unfold neaQ
          split <;> omega
        exact ok_put3 q0 hp.1 (by omega) (by omega) hf
    · split
      · exact ok_n3 (Or.inr rfl) hf
      · split
        · have e2 : (2 : Nat) ^ (1 : Int).toNat = 2 := rfl
          rw [e2]
          have q0 : V (160 + 2 * r) * 2 - 1 ≠ 0 := by omega
          have q1 := xbl1 q0
          have q2 : xbl (V (160 + 2 * r) * 2 - 1) ≤ xbl (V (160 + 2 * r)) + 1 := xbl_le (by rw [Nat.pow_succ]; omega)
          exact ok_put3 q0 hp.1 (by omega) (by omega) hf
        · have q0 : V (160 + 2 * r) - 1 ≠ 0 := by omega
          have q1 := xbl1 q0
          have q2 : xbl (V (160 + 2 * r) - 1) ≤ xbl (V (160 + 2 * r)) := xbl_mono (by omega)
          exact ok_put3 q0 hp.1 (by omega) (by omega) hf
theorem ok_nei {up : Int} (h : gK S r) (hk : 0 ≤ S 154 r ∧ S 154 r ≤ 3) (hb : S 154 r = 3 → (xbl (V (160 + 2 * r)) : Int) = S 153 r) : okOO (S 153 r) (sNei S V r up) := by
  have x1 : xbl 1 = 1 := rfl
  have h' := h
  obtain ⟨hp, hl, hf⟩ := h'
  unfold sNei
  split
  · exact ⟨⟨(by decide : (0 : Int) ≤ 0), (by decide : (0 : Int) ≤ 3)⟩, fun c => absurd (show (0 : Int) = 3 from c) (by decide), hf⟩
  · split
    · refine ok_put3 (by decide) hp.1 ?_ ?_ hf
      · split <;> omega
      · split <;> omega
    · split
      · split
        · exact ⟨⟨(by decide : (0 : Int) ≤ 1), (by decide : (1 : Int) ≤ 3)⟩, fun c => absurd (show (1 : Int) = 3 from c) (by decide), hf⟩
        · exact ok_far h (hb (by omega))
      · exact ok_nea h hb (by omega)
end
