/-! writing: fewestDigits -/
theorem o_shr1 {t : Int} (h : 0 ≤ t ∧ t < 2147483648) : Int32.ofInt t >>> ((1 : Int32) &&& 31) = Int32.ofInt (t / 2) := by
  have := o_shrk (n := t.toNat) (k := 1) (by omega) (by decide)
  rw [show ((t.toNat : Nat) : Int) = t by omega, Nat.pow_one, show ((t.toNat / 2 : Nat) : Int) = t / 2 by omega] at this
  exact this
theorem fw_st {low high probe : Int} {f : Nat} (h : (probe = (low + high) / 2 ∧ (high - low).toNat < 2 ^ (f + 1)) ∨ (low ≤ probe ∧ probe < high ∧ high - low < 8192 ∧ 14 ≤ f + 1)) (hlt : low < high) : (low ≤ probe ∧ probe < high) ∧ (probe - low).toNat < 2 ^ f ∧ (high - (probe + 1)).toNat < 2 ^ f := by
  rcases h with ⟨h1, h2⟩ | ⟨h1, h2, h3, h4⟩
  · rw [Nat.pow_succ] at h2
    generalize 2 ^ f = P at h2 ⊢
    omega
  · have : 2 ^ 13 ≤ 2 ^ f := Nat.pow_le_pow_right (by omega) (by omega)
    generalize 2 ^ f = P at this ⊢
    omega
/-- what the writer's searches leave -/
def wFr (S : Nat → Nat → Int) (V : Nat → Nat) (S1 : Nat → Nat → Int) (V1 : Nat → Nat) : Prop := (∀ b j, b ≠ 79 → S1 b j = S b j) ∧ pwP S1 ∧ ∀ i, i ≠ 80 → i ≠ 82 → i ≠ 84 → i ≠ 87 → i ≠ 89 → i ≠ 91 → i ≠ 117 → i ≠ 119 → i ≠ 121 → i ≠ 123 → V1 i = V i
section
variable {w0 w : xW} {L Z : Nat} {S S1 : Nat → Nat → Int} {V V1 : Nat → Nat} {d t rx O tw : Nat} {F n s lim : Int} {ev : Bool} {lv : xLv} {Q : Option Value ⊕ Nat → xW → Prop}
theorem x_cb (ht : kd t = 2) (ht2 : 30 ≤ t ∧ t ≤ 75) (hW : wSt S V t rx O tw F) (hr : 2 ≤ rx ∧ rx ≤ 36) (bM : xbl (V (t + 1)) ≤ 4096) (hM : V (t + 1) ≠ 0) (hp : 2 ≤ S t 0 ∧ S t 0 ≤ 4096) (hx : (xbl (V (t + 1)) : Int) = S t 0) (hng : S t 2 = 0 ∨ S t 2 = 1) (bE : -20479 ≤ S t 3 ∧ S t 3 ≤ 16384) (hl : lim ≤ 4112) (hl2 : (tw : Int) * lim ≤ 10100) (hf : wFr S V S1 V1) (hR : cX w0 L Z S1 V1 w) (hn : 1 ≤ n ∧ n ≤ lim) : ∃ w', xRun (d + 7) 155 [Value.ref 113, Value.int (Int32.ofInt n), Value.int (Int32.ofInt (bb ev))] w (.inl (some (.int (Int32.ofInt (bb (cbF (V (t + 1)) (S t 3 - S t 0) rx F (S t 2) (S t 0) n ev)))))) w' ∧ ∃ S2 V2, cX w0 L Z S2 V2 w' ∧ wFr S V S2 V2 := by
  obtain ⟨f1, f2, f3⟩ := hf
  have eM : V1 (t + 1) = V (t + 1) := f3 _ (by omega) (by omega) (by omega) (by omega) (by omega) (by omega) (by omega) (by omega) (by omega) (by omega)
  have e : ∀ j, S1 t j = S t j := fun j => f1 t j (by omega)
  have e15 : V1 115 = V 115 := f3 115 (by decide) (by decide) (by decide) (by decide) (by decide) (by decide) (by decide) (by decide) (by decide) (by decide)
  obtain ⟨s, hs⟩ : ∃ s : Int, S t 3 - S t 0 + (tw : Int) * (n - F) = s := ⟨_, rfl⟩
  have h2 : (tw : Int) * n ≤ (tw : Int) * lim := Int.mul_le_mul_of_nonneg_left hn.2 (by omega)
  obtain ⟨w', h1, S2, V2, hR2, r1, r2, r3⟩ := x_cback (d := d) (n := n) (s := s) (ev := ev) hR ht ht2 (hW.up f1 f2 e15) hr (by rw [eM]; exact bM) (by rw [eM]; exact hM) (by rw [e]; exact hp) (by rw [eM, e]; exact hx) (by rw [e]; exact hng) (by rw [e]; exact bE) (by omega) (by omega) (by rw [e, e]; exact hs)
  rw [eM, e, e, cb_w hW.2.2.2.2.2.2.1 hs] at h1
  exact ⟨w', h1, S2, V2, hR2, fun b j hb => (r1 b j hb).trans (f1 b j hb), r2, fun i i1 i2 i3 i4 i5 i6 i7 i8 i9 i10 => (r3 i i1 i2 i3 i4 i5 i6 i7 i8 i9 i10).trans (f3 i i1 i2 i3 i4 i5 i6 i7 i8 i9 i10)⟩
set_option maxHeartbeats 4000000 in
theorem fw_1 (ht : kd t = 2) (ht2 : 30 ≤ t ∧ t ≤ 75) (hW : wSt S V t rx O tw F) (hr : 2 ≤ rx ∧ rx ≤ 36) (bM : xbl (V (t + 1)) ≤ 4096) (hM : V (t + 1) ≠ 0) (hp : 2 ≤ S t 0 ∧ S t 0 ≤ 4096) (hx : (xbl (V (t + 1)) : Int) = S t 0) (hng : S t 2 = 0 ∨ S t 2 = 1) (bE : -20479 ≤ S t 3 ∧ S t 3 ≤ 16384) (hl : lim ≤ 4112) (hl2 : (tw : Int) * lim ≤ 10100) (hQ : ∀ {lv : xLv} {w : xW} {S1 : Nat → Nat → Int} {V1 : Nat → Nat} {low : Int}, cX w0 L Z S1 V1 w → wFr S V S1 V1 → (1 ≤ low ∧ low ≤ lim) → cbF (V (t + 1)) (S t 3 - S t 0) rx F (S t 2) (S t 0) low true = true → hid (∀ m : Int, 1 ≤ m → m < low → cbF (V (t + 1)) (S t 3 - S t 0) rx F (S t 2) (S t 0) m true = false) → xld lv 0 = some (Value.ref 113) → xld lv 2 = some (Value.int (Int32.ofInt low)) → xld lv 4 = some (Value.int (Int32.ofInt lim)) → xEv (d + 8) 154 84 lv [] w Q) : ∀ (f i : Nat) {lv : xLv} {w : xW} {S1 : Nat → Nat → Int} {V1 : Nat → Nat} {low high probe : Int}, i + f = 40 → cX w0 L Z S1 V1 w → wFr S V S1 V1 → 1 ≤ low → low ≤ high → high ≤ lim → ((probe = (low + high) / 2 ∧ (high - low).toNat < 2 ^ f) ∨ (low ≤ probe ∧ probe < high ∧ high - low < 8192 ∧ 14 ≤ f)) → cbF (V (t + 1)) (S t 3 - S t 0) rx F (S t 2) (S t 0) high true = true → hid (∀ m : Int, 1 ≤ m → m < low → cbF (V (t + 1)) (S t 3 - S t 0) rx F (S t 2) (S t 0) m true = false) → xld lv 0 = some (Value.ref 113) → xld lv 1 = some (Value.int (Int32.ofInt high)) → xld lv 2 = some (Value.int (Int32.ofInt low)) → xld lv 3 = some (Value.int (Int32.ofInt probe)) → xld lv 4 = some (Value.int (Int32.ofInt lim)) → xld lv 5 = some (Value.int (Int32.ofInt (i : Int))) → xEv (d + 8) 154 42 lv [] w Q := by
  intro f
  induction f with
  | zero =>
    intro i lv w S1 V1 low high probe hi hR hf hl1 hl0 hhi hpb hch hlo l0 l1 l2 l3 l4 l5
    refine i_154_42 l2 ?_
    refine i_154_43 l1 ?_
    have ehl : low = high := by
      rw [Nat.pow_zero] at hpb
      omega
    subst ehl
    refine i_154_44 (b_le (a := low) (b := low) ⟨by omega, by omega⟩ ⟨by omega, by omega⟩ fun _ => ?_) (b_lt (a := low) (b := low) ⟨by omega, by omega⟩ ⟨by omega, by omega⟩ fun c => absurd c (by omega))
    exact hQ hR hf ⟨by omega, by omega⟩ hch hlo l0 l2 l4
  | succ f ih =>
    intro i lv w S1 V1 low high probe hi hR hf hl1 hl0 hhi hpb hch hlo l0 l1 l2 l3 l4 l5
    refine i_154_42 (x := Int32.ofInt low) l2 ?_
    refine i_154_43 (x := Int32.ofInt high) l1 ?_
    refine i_154_44 (b_le (a := high) (b := low) ⟨by omega, by omega⟩ ⟨by omega, by omega⟩ fun c0 => ?_) (b_lt (a := low) (b := high) ⟨by omega, by omega⟩ ⟨by omega, by omega⟩ fun c0 => ?_)
    · have ehl : low = high := by omega
      subst ehl
      exact hQ hR hf ⟨by omega, by omega⟩ hch hlo l0 l2 l4
    · obtain ⟨st1, st2⟩ := fw_st hpb c0
      clear hpb
      refine i_154_47 (x := Int32.ofInt (i : Int)) l5 ?_
      refine i_154_49 ?_
      refine i_154_51 (b_le (a := 40) (b := (i : Int)) ⟨by decide, by decide⟩ ⟨by omega, by omega⟩ fun c1 => absurd c1 (by omega)) (b_lt (a := (i : Int)) (b := 40) ⟨by omega, by omega⟩ ⟨by decide, by decide⟩ fun c1 => ?_)
      refine i_154_54 (x := 113) l0 ?_
      refine i_154_55 (x := Int32.ofInt probe) l3 ?_
      refine i_154_56 ?_
      have hobj := hR.k11 kq_113
      obtain ⟨w, hrun, S2, V2, hR, hf2⟩ := x_cb (d := d) (n := probe) (ev := true) ht ht2 hW hr bM hM hp hx hng bE hl hl2 hf hR (by omega)
      rw [show Int32.ofInt (bb true) = 1 from rfl] at hrun
      refine i_154_57 hobj (Nat.le_of_ble_eq_true rfl) hrun ?_
      refine i_154_60 (zb_f fun c2 => ?_) (zb_t fun c2 => ?_)
      · refine i_154_68 (x := Int32.ofInt probe) l3 ?_
        refine i_154_69 ?_
        refine i_154_70 (c := Int32.ofInt (probe + 1)) (o_add probe 1) ?_
        refine i_154_71 rfl ?_
        refine lgen1 (i := 2) (v := Value.int (Int32.ofInt (probe + 1))) (fun lv lg ls => ?_)
        replace l0 := lg 0 _ rfl rfl l0
        replace l1 := lg 1 _ rfl rfl l1
        replace l3 := lg 3 _ rfl rfl l3
        replace l4 := lg 4 _ rfl rfl l4
        replace l5 := lg 5 _ rfl rfl l5
        have l2 := ls
        refine i_154_72 (x := Int32.ofInt (probe + 1)) l2 ?_
        refine i_154_73 (x := Int32.ofInt high) l1 ?_
        refine i_154_74 (c := Int32.ofInt ((probe + 1) + high)) (o_add (probe + 1) high) ?_
        refine i_154_75 ?_
        refine i_154_76 (c := Int32.ofInt (((probe + 1) + high) / 2)) (o_shr1 (t := (probe + 1) + high) ⟨by omega, by omega⟩) ?_
        refine i_154_77 rfl ?_
        refine lgen1 (i := 3) (v := Value.int (Int32.ofInt (((probe + 1) + high) / 2))) (fun lv lg ls => ?_)
        replace l2 := lg 2 _ rfl rfl l2
        replace l0 := lg 0 _ rfl rfl l0
        replace l1 := lg 1 _ rfl rfl l1
        replace l4 := lg 4 _ rfl rfl l4
        replace l5 := lg 5 _ rfl rfl l5
        have l3 := ls
        refine i_154_78 (x := (Int32.ofInt (i : Int))) (c := (Int32.ofInt ((i : Int) + 1))) l5 (o_add (i : Int) 1) rfl ?_
        refine lgen1 (i := 5) (v := Value.int (Int32.ofInt ((i : Int) + 1))) (fun lv lg ls => ?_)
        replace l3 := lg 3 _ rfl rfl l3
        replace l2 := lg 2 _ rfl rfl l2
        replace l0 := lg 0 _ rfl rfl l0
        replace l1 := lg 1 _ rfl rfl l1
        replace l4 := lg 4 _ rfl rfl l4
        have l5 := ls
        refine i_154_81 ?_
        have hno := ‹cbF (V (t + 1)) (S t 3 - S t 0) rx F (S t 2) (S t 0) probe true = false›
        refine ih (i + 1) (by omega) hR hf2 (by omega) (by omega) (by omega) (Or.inl ⟨rfl, st2.2⟩) hch ?_ l0 l1 l2 l3 l4 l5
        intro m m1 m2
        cases hcm : cbF (V (t + 1)) (S t 3 - S t 0) rx F (S t 2) (S t 0) m true
        · rfl
        · rw [cbF_le (by omega) hcm (show m ≤ probe by omega)] at hno; cases hno
      · refine i_154_63 (x := Int32.ofInt probe) l3 ?_
        refine i_154_64 rfl ?_
        refine lgen1 (i := 1) (v := Value.int (Int32.ofInt probe)) (fun lv lg ls => ?_)
        replace l0 := lg 0 _ rfl rfl l0
        replace l2 := lg 2 _ rfl rfl l2
        replace l3 := lg 3 _ rfl rfl l3
        replace l4 := lg 4 _ rfl rfl l4
        replace l5 := lg 5 _ rfl rfl l5
        have l1 := ls
        refine i_154_65 ?_
        refine i_154_72 (x := Int32.ofInt low) l2 ?_
        refine i_154_73 (x := Int32.ofInt probe) l1 ?_
        refine i_154_74 (c := Int32.ofInt (low + probe)) (o_add low probe) ?_
        refine i_154_75 ?_
        refine i_154_76 (c := Int32.ofInt ((low + probe) / 2)) (o_shr1 (t := low + probe) ⟨by omega, by omega⟩) ?_
        refine i_154_77 rfl ?_
        refine lgen1 (i := 3) (v := Value.int (Int32.ofInt ((low + probe) / 2))) (fun lv lg ls => ?_)
        replace l1 := lg 1 _ rfl rfl l1
        replace l0 := lg 0 _ rfl rfl l0
        replace l2 := lg 2 _ rfl rfl l2
        replace l4 := lg 4 _ rfl rfl l4
        replace l5 := lg 5 _ rfl rfl l5
        have l3 := ls
        refine i_154_78 (x := (Int32.ofInt (i : Int))) (c := (Int32.ofInt ((i : Int) + 1))) l5 (o_add (i : Int) 1) rfl ?_
        refine lgen1 (i := 5) (v := Value.int (Int32.ofInt ((i : Int) + 1))) (fun lv lg ls => ?_)
        replace l3 := lg 3 _ rfl rfl l3
        replace l1 := lg 1 _ rfl rfl l1
        replace l0 := lg 0 _ rfl rfl l0
        replace l2 := lg 2 _ rfl rfl l2
        replace l4 := lg 4 _ rfl rfl l4
        have l5 := ls
        refine i_154_81 ?_
        exact ih (i + 1) (by omega) hR hf2 hl1 (by omega) (by omega) (Or.inl ⟨rfl, st2.1⟩) ‹cbF (V (t + 1)) (S t 3 - S t 0) rx F (S t 2) (S t 0) probe true = true› hlo l0 l1 l2 l3 l4 l5
set_option maxHeartbeats 4000000 in
theorem fw_2 (ht : kd t = 2) (ht2 : 30 ≤ t ∧ t ≤ 75) (hW : wSt S V t rx O tw F) (hr : 2 ≤ rx ∧ rx ≤ 36) (bM : xbl (V (t + 1)) ≤ 4096) (hM : V (t + 1) ≠ 0) (hp : 2 ≤ S t 0 ∧ S t 0 ≤ 4096) (hx : (xbl (V (t + 1)) : Int) = S t 0) (hng : S t 2 = 0 ∨ S t 2 = 1) (bE : -20479 ≤ S t 3 ∧ S t 3 ≤ 16384) (hl : lim ≤ 4112) (hl2 : (tw : Int) * lim ≤ 10100) (hQ : ∀ {w : xW} {S1 : Nat → Nat → Int} {V1 : Nat → Nat} {low : Int}, cX w0 L Z S1 V1 w → wFr S V S1 V1 → (1 ≤ low ∧ low ≤ lim) → fewest (V (t + 1)) (S t 3 - S t 0) rx F (S t 2) (S t 0) low → Q (.inl (some (.int (Int32.ofInt low)))) w) : ∀ (f : Nat) {lv : xLv} {w : xW} {S1 : Nat → Nat → Int} {V1 : Nat → Nat} {low : Int}, low + f = lim → cX w0 L Z S1 V1 w → wFr S V S1 V1 → 1 ≤ low → low ≤ lim → hid (∀ m : Int, 1 ≤ m → m < low → cbF (V (t + 1)) (S t 3 - S t 0) rx F (S t 2) (S t 0) m false = false) → cbF (V (t + 1)) (S t 3 - S t 0) rx F (S t 2) (S t 0) lim false = true → hid (¬ V (t + 1) = 2 ^ (S t 0 - 1).toNat → cbF (V (t + 1)) (S t 3 - S t 0) rx F (S t 2) (S t 0) low true = true) → xld lv 0 = some (Value.ref 113) → xld lv 2 = some (Value.int (Int32.ofInt low)) → xld lv 4 = some (Value.int (Int32.ofInt lim)) → xEv (d + 8) 154 84 lv [] w Q := by
  intro f
  induction f with
  | zero =>
    intro lv w S1 V1 low hi hR hf hl1 hl0 hlo hlim hnp l0 l2 l4
    refine i_154_84 l2 ?_
    refine i_154_85 l4 ?_
    have ehl : low = lim := by omega
    refine i_154_87 (b_le (a := lim) (b := low) ⟨by omega, by omega⟩ ⟨by omega, by omega⟩ fun _ => ?_) (b_lt (a := low) (b := lim) ⟨by omega, by omega⟩ ⟨by omega, by omega⟩ fun c => absurd c (by omega))
    refine i_154_115 l2 ?_
    refine i_154_116 ?_
    exact hQ hR hf ⟨by omega, by omega⟩ ⟨by omega, by rw [ehl]; exact hlim, hlo⟩
  | succ f ih =>
    intro lv w S1 V1 low hi hR hf hl1 hl0 hlo hlim hnp l0 l2 l4
    have k9 : S1 113 9 = (t : Int) := (hf.1 113 9 (by decide)).trans hW.2.1
    refine i_154_84 (x := Int32.ofInt low) l2 ?_
    refine i_154_85 (x := Int32.ofInt lim) l4 ?_
    refine i_154_87 (b_le (a := lim) (b := low) ⟨by omega, by omega⟩ ⟨by omega, by omega⟩ fun c0 => ?_) (b_lt (a := low) (b := lim) ⟨by omega, by omega⟩ ⟨by omega, by omega⟩ fun c0 => ?_)
    · refine i_154_115 (x := Int32.ofInt low) l2 ?_
      refine i_154_116 ?_
      exact hQ hR hf ⟨by omega, by omega⟩ ⟨by omega, by rw [show low = lim by omega]; exact hlim, hlo⟩
    · refine i_154_90 (x := 113) l0 ?_
      refine i_154_91 (v := Value.ref (S1 113 9).toNat) (hR.k11 kq_113) rfl ?_
      rw [show (S1 113 9).toNat = t by rw [k9]; rfl]
      have hobj := hR.k2 ht
      have gM : V1 (t + 1) = V (t + 1) := hf.2.2 _ (by omega) (by omega) (by omega) (by omega) (by omega) (by omega) (by omega) (by omega) (by omega) (by omega)
      have kt : ∀ j, S1 t j = S t j := fun j => hf.1 t j (by omega)
      have hrun := x_isp2 (d := d + 5) (t := t) hR ht (by rw [gM]; exact hM) (by rw [gM, kt]; exact hx) (by rw [kt]; exact hp)
      rw [gM, kt] at hrun
      refine i_154_94 hobj (Nat.le_of_ble_eq_true rfl) hrun ?_
      refine i_154_97 (zb_f fun c1 => ?_) (zb_t fun c1 => ?_)
      · refine i_154_115 (x := Int32.ofInt low) l2 ?_
        refine i_154_116 ?_
        exact hQ hR hf ⟨by omega, by omega⟩ ⟨by omega, (cbk_np (of_decide_eq_false ‹decide (V (t + 1) = 2 ^ (S t 0 - 1).toNat) = false›)).trans (hnp (of_decide_eq_false ‹decide (V (t + 1) = 2 ^ (S t 0 - 1).toNat) = false›)), hlo⟩
      · refine i_154_100 (x := 113) l0 ?_
        refine i_154_101 (x := Int32.ofInt low) l2 ?_
        refine i_154_102 ?_
        have hobj := hR.k11 kq_113
        obtain ⟨w, hrun, S2, V2, hR, hf2⟩ := x_cb (d := d) (n := low) (ev := false) ht ht2 hW hr bM hM hp hx hng bE hl hl2 hf hR (by omega)
        rw [show Int32.ofInt (bb false) = 0 from rfl] at hrun
        refine i_154_103 hobj (Nat.le_of_ble_eq_true rfl) hrun ?_
        refine i_154_106 (zb_t fun c2 => ?_) (zb_f fun c2 => ?_)
        · refine i_154_115 (x := Int32.ofInt low) l2 ?_
          refine i_154_116 ?_
          exact hQ hR hf2 ⟨by omega, by omega⟩ ⟨by omega, ‹cbF (V (t + 1)) (S t 3 - S t 0) rx F (S t 2) (S t 0) low false = true›, hlo⟩
        · refine i_154_109 (x := (Int32.ofInt low)) (c := (Int32.ofInt (low + 1))) l2 (o_add low 1) rfl ?_
          refine lgen1 (i := 2) (v := Value.int (Int32.ofInt (low + 1))) (fun lv lg ls => ?_)
          replace l0 := lg 0 _ rfl rfl l0
          replace l4 := lg 4 _ rfl rfl l4
          have l2 := ls
          refine i_154_112 ?_
          refine ih (low := low + 1) (by omega) hR hf2 (by omega) (by omega) ?_ hlim (fun c => absurd (of_decide_eq_true ‹decide (V (t + 1) = 2 ^ (S t 0 - 1).toNat) = true›) c) l0 l2 l4
          intro m m1 m2
          by_cases hm : m = low
          · rw [hm]; assumption
          · exact hlo m m1 (by omega)
set_option maxHeartbeats 4000000 in
theorem x_few (hR : cX w0 L Z S V w) (ht : kd t = 2) (ht2 : 30 ≤ t ∧ t ≤ 75) (hW : wSt S V t rx O tw F) (hr : 2 ≤ rx ∧ rx ≤ 36) (bM : xbl (V (t + 1)) ≤ 4096) (hM : V (t + 1) ≠ 0) (hp : 2 ≤ S t 0 ∧ S t 0 ≤ 4096) (hx : (xbl (V (t + 1)) : Int) = S t 0) (hng : S t 2 = 0 ∨ S t 2 = 1) (bE : -20479 ≤ S t 3 ∧ S t 3 ≤ 16384) (hK5 : w0[5]? = some (.inl (3, 37, fun j => .long (xlogc.getD j 0)))) (hF : vGe (V (t + 1)) (S t 3 - S t 0) rx (F - 1)) : ∃ n w', xRun (d + 8) 154 [Value.ref 113] w (.inl (some (.int (Int32.ofInt n)))) w' ∧ (1 ≤ n ∧ n ≤ 4112 ∧ (tw : Int) * n ≤ 10100) ∧ fewest (V (t + 1)) (S t 3 - S t 0) rx F (S t 2) (S t 0) n ∧ ∃ S' V', cX w0 L Z S' V' w' ∧ wFr S V S' V' := by
  have key : ∀ lv, xld lv 0 = some (Value.ref 113) → xEv (d + 8) 154 0 lv [] w (fun o w' => ∃ n, o = .inl (some (.int (Int32.ofInt n))) ∧ (1 ≤ n ∧ n ≤ 4112 ∧ (tw : Int) * n ≤ 10100) ∧ fewest (V (t + 1)) (S t 3 - S t 0) rx F (S t 2) (S t 0) n ∧ ∃ S' V', cX w0 L Z S' V' w' ∧ wFr S V S' V') := by
    intro lv l0
    have q9 := hW.2.1
    have q10 := hW.2.2.1
    have hf0 : wFr S V S V := ⟨fun _ _ _ => rfl, hW.1, fun _ _ _ _ _ _ _ _ _ _ _ => rfl⟩
    obtain ⟨⟨hl1, hl2'⟩, -, -⟩ := lgt_ok hr
    obtain ⟨z, hz⟩ : ∃ z : Int, (S t 0 + 1) * lgt rx = z := ⟨_, rfl⟩
    have bz : -22517998136852480 ≤ z ∧ z ≤ 22517998136852480 := by rw [← hz]; exact mul_bd (by omega) (by omega)
    obtain ⟨g1, g2, g3⟩ := lim_ok (m := (S t 0 + 1).toNat) hr (by omega)
    rw [show (((S t 0 + 1).toNat : Nat) : Int) = S t 0 + 1 by omega, hz] at g1 g2 g3
    obtain ⟨lim, elim⟩ : ∃ lim : Int, 3 + z / 1099511627776 = lim := ⟨_, rfl⟩
    have hl : lim ≤ 4112 := by omega
    have hl2 : (tw : Int) * lim ≤ 10100 := by
      have hO0 : 0 < O := by have := hW.2.2.2.2.2.2.2.1; omega
      obtain ⟨htw5, htwl⟩ := tw_bd hr hW.2.2.2.2.2.2.1 hO0
      have k := (tw_g (l := lgt rx) (T := 1099511627776) (e := S t 0 + 1) (tw := (tw : Int)) (by omega) (by omega) (by omega) htwl).1 (by omega)
      rw [hz] at k
      rw [← elim, Int.mul_add]
      generalize (tw : Int) * (z / 1099511627776) = y at k ⊢
      omega
    have hq : V (t + 1) < 2 ^ (S t 0).toNat := by have := (xbl_of hM).2.1; rw [show xbl (V (t + 1)) = (S t 0).toNat by omega] at this; exact this
    have hlm : 2 ^ ((S t 0).toNat + 1) < rx ^ (lim - 1).toNat := by rw [show (S t 0).toNat + 1 = (S t 0 + 1).toNat by omega, show lim - 1 = 2 + z / 1099511627776 by omega]; exact g3
    refine i_154_0 ?_
    refine i_154_1 (x := 113) l0 ?_
    refine i_154_2 (v := Value.ref (S 113 9).toNat) (hR.k11 kq_113) rfl ?_
    rw [show (S 113 9).toNat = t by rw [q9]; rfl]
    refine i_154_5 (v := Value.int (Int32.ofInt (S t 0))) (hR.k2 ht) rfl ?_
    refine i_154_8 ?_
    refine i_154_9 (c := Int32.ofInt ((S t 0) + 1)) (o_add (S t 0) 1) ?_
    refine i_154_10 (c := Int64.ofInt ((S t 0) + 1)) (q_i2l (a := (S t 0) + 1) ⟨by omega, by omega⟩) ?_
    refine i_154_11 ?_
    refine i_154_14 (x := 113) l0 ?_
    refine i_154_15 (v := Value.int (Int32.ofInt (S 113 10))) (hR.k11 kq_113) rfl ?_
    rw [q10]
    refine i_154_18 (v := Value.long (Int64.ofInt (lgt rx))) ((hR.low (by decide)).trans hK5) (by rw [oI (by omega) (by omega)]; omega) (by rw [oI (by omega) (by omega)]; omega) (by rw [oI (by omega) (by omega)]; show Value.long (xlogc.getD rx 0) = _; unfold lgt; rw [Int64.ofInt_toInt]) ?_
    refine i_154_19 (c := Int64.ofInt z) ((q_mul (S t 0 + 1) (lgt rx)).trans (by rw [hz])) ?_
    refine i_154_20 ?_
    refine i_154_22 (c := Int64.ofInt (z / 1099511627776)) (q_shr40 (t := z) ⟨by omega, by omega⟩) ?_
    refine i_154_23 (c := Int32.ofInt (z / 1099511627776)) (q_l2i (z / 1099511627776)) ?_
    refine i_154_24 (c := Int32.ofInt lim) ((o_add 3 (z / 1099511627776)).trans (by rw [elim])) ?_
    refine i_154_25 rfl ?_
    refine lgen1 (i := 1) (v := Value.int (Int32.ofInt lim)) (fun lv lg ls => ?_)
    replace l0 := lg 0 _ rfl rfl l0
    have l1 := ls
    refine i_154_26 ?_
    refine i_154_27 rfl ?_
    refine lgen1 (i := 2) (v := Value.int 1) (fun lv lg ls => ?_)
    replace l1 := lg 1 _ rfl rfl l1
    replace l0 := lg 0 _ rfl rfl l0
    have l2 := ls
    refine i_154_28 ?_
    refine i_154_29 (x := Int32.ofInt lim) l1 ?_
    refine i_154_30 ?_
    refine i_154_31 (c := Int32.ofInt (lim - 4)) (o_sub lim 4) ?_
    have hrun := s_max (d := d + 6) (w := w) (a := 1) (b := lim - 4) ⟨by decide, by decide⟩ ⟨by omega, by omega⟩
    refine i_154_32 (Nat.le_of_ble_eq_true rfl) hrun ?_
    refine i_154_35 rfl ?_
    refine lgen1 (i := 3) (v := Value.int (Int32.ofInt (max (1 : Int) (lim - 4)))) (fun lv lg ls => ?_)
    replace l2 := lg 2 _ rfl rfl l2
    replace l1 := lg 1 _ rfl rfl l1
    replace l0 := lg 0 _ rfl rfl l0
    have l3 := ls
    refine i_154_36 (x := Int32.ofInt lim) l1 ?_
    refine i_154_37 rfl ?_
    refine lgen1 (i := 4) (v := Value.int (Int32.ofInt lim)) (fun lv lg ls => ?_)
    replace l3 := lg 3 _ rfl rfl l3
    replace l2 := lg 2 _ rfl rfl l2
    replace l1 := lg 1 _ rfl rfl l1
    replace l0 := lg 0 _ rfl rfl l0
    have l4 := ls
    refine i_154_39 ?_
    refine i_154_40 rfl ?_
    refine lgen1 (i := 5) (v := Value.int 0) (fun lv lg ls => ?_)
    replace l4 := lg 4 _ rfl rfl l4
    replace l3 := lg 3 _ rfl rfl l3
    replace l2 := lg 2 _ rfl rfl l2
    replace l1 := lg 1 _ rfl rfl l1
    replace l0 := lg 0 _ rfl rfl l0
    have l5 := ls
    refine fw_1 (lim := lim) ht ht2 hW hr bM hM hp hx hng bE hl hl2 (fun {lv w S1 V1 low} hR hf hb hc hlo l0 l2 l4 => ?_) 40 0 (low := 1) (high := lim) (probe := max (1 : Int) (lim - 4)) (by omega) hR hf0 (by omega) (by omega) (by omega) (Or.inr ⟨by omega, by omega, by omega, by omega⟩) (cbF_lim (by omega) hF hq (by omega) hlm) (fun m m1 m2 => absurd m2 (by omega)) l0 l1 l2 l3 l4 l5
    exact fw_2 (lim := lim) ht ht2 hW hr bM hM hp hx hng bE hl hl2 (fun {w S1 V1 low} hR hf hb hfew => ⟨low, rfl, ⟨hb.1, by omega, Int.le_trans (Int.mul_le_mul_of_nonneg_left hb.2 (by omega)) hl2⟩, hfew, S1, V1, hR, hf⟩) (lim - low).toNat (by omega) hR hf hb.1 hb.2 (fun m m1 m2 => by
      cases hcm : cbF (V (t + 1)) (S t 3 - S t 0) rx F (S t 2) (S t 0) m false
      · rfl
      · have := hlo m m1 m2
        rw [show cbF (V (t + 1)) (S t 3 - S t 0) rx F (S t 2) (S t 0) m true = true from cbk_ft (fGn_pos (by omega)) hcm] at this
        cases this) (cbF_lim (by omega) hF hq (by omega) hlm) (fun _ => hc) l0 l2 l4
  obtain ⟨o, w', h1, n, rfl, h2⟩ := (key (lv_args 0 [Value.ref 113]) rfl).run
  exact ⟨n, w', h1, h2⟩
end
