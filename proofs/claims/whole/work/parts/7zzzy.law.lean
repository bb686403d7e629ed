/-! the law's loop -/
theorem lvB.s4 {lv : xLv} {i j : Nat} (h : lvB lv i) : lvB (xst1 lv 4 (.int (Int32.ofInt (j : Int)))) j := ⟨xld_n1 rfl rfl h.1, xld_n1 rfl rfl h.2.1, xld_n1 rfl rfl h.2.2.1, xld_n1 rfl rfl h.2.2.2.1, xld_s1⟩
theorem jad6 {i : Nat} : Int32.ofInt (i : Int) + 6 = Int32.ofInt ((i + 6 : Nat) : Int) := by
  show Int32.ofInt (i : Int) + Int32.ofInt 6 = _
  exact (o_add _ _).trans (congrArg Int32.ofInt (show (i : Int) + 6 = ((i + 6 : Nat) : Int) by omega))
theorem jsb6 {n : Nat} : Int32.ofInt (n : Int) - 6 = Int32.ofInt ((n : Int) - 6) := by
  show Int32.ofInt (n : Int) - Int32.ofInt 6 = _
  exact o_sub _ _
section
variable {W w : xW} {L Z d n i : Nat} {f : Nat → Int} {lv : xLv} {Q : Option Value ⊕ Nat → xW → Prop}
/-- one step: from the switch to its end -/
theorem lw_step (hIV : IV0 W L Z w) (hKC : KC W) (h0 : W[0]? = some (.inl (0, n, fun j => .int (Int32.ofInt (f j))))) (hf : ∀ j, -2147483648 ≤ f j ∧ f j < 2147483648) (hi : i + 6 ≤ n) (hn : n ≤ 3072) (hl : lvB lv i) (k : lwN W d L Z i Q) (x : Int32) : xEv (d + 21) 287 40 lv [.int x] w Q := by
  by_cases hx : 0 ≤ x.toInt ∧ x.toInt ≤ 23
  · obtain ⟨c, hc⟩ : ∃ c : Nat, x.toInt = (c : Int) := ⟨x.toInt.toNat, by omega⟩
    have hc2 : c < 24 := by omega
    match c, hc, hc2 with
    | 0, hc, _ => exact i_287_40_0 (hc.trans rfl) (lw_0 hIV h0 hf hi hn hl k)
    | 1, hc, _ => exact i_287_40_1 (hc.trans rfl) (lw_1 hIV h0 hf hi hn hl k)
    | 2, hc, _ => exact i_287_40_2 (hc.trans rfl) (lw_2 hIV h0 hf hi hn hl k)
    | 3, hc, _ => exact i_287_40_3 (hc.trans rfl) (lw_3 hIV h0 hf hi hn hl k)
    | 4, hc, _ => exact i_287_40_4 (hc.trans rfl) (lw_4 hIV h0 hf hi hn hl k)
    | 5, hc, _ => exact i_287_40_5 (hc.trans rfl) (lw_5 hIV h0 hf hi hn hl k)
    | 6, hc, _ => exact i_287_40_6 (hc.trans rfl) (lw_6 hIV h0 hf hi hn hl k)
    | 7, hc, _ => exact i_287_40_7 (hc.trans rfl) (lw_7 hIV h0 hf hi hn hl k)
    | 8, hc, _ => exact i_287_40_8 (hc.trans rfl) (lw_8 hIV h0 hf hi hn hl k)
    | 9, hc, _ => exact i_287_40_9 (hc.trans rfl) (lw_9 hIV h0 hf hi hn hl k)
    | 10, hc, _ => exact i_287_40_10 (hc.trans rfl) (lw_10 hIV h0 hf hi hn hl k)
    | 11, hc, _ => exact i_287_40_11 (hc.trans rfl) (lw_11 hIV h0 hf hi hn hl k)
    | 12, hc, _ => exact i_287_40_12 (hc.trans rfl) (lw_12 hIV h0 hf hi hn hl k)
    | 13, hc, _ => exact i_287_40_13 (hc.trans rfl) (lw_13 hIV h0 hf hi hn hl k)
    | 14, hc, _ => exact i_287_40_14 (hc.trans rfl) (lw_14 hIV h0 hf hi hn hl k)
    | 15, hc, _ => exact i_287_40_15 (hc.trans rfl) (lw_15 hIV h0 hf hi hn hl k)
    | 16, hc, _ => exact i_287_40_16 (hc.trans rfl) (lw_16 hIV h0 hf hi hn hl k)
    | 17, hc, _ => exact i_287_40_17 (hc.trans rfl) (lw_17 hIV h0 hf hi hn hl k)
    | 18, hc, _ => exact i_287_40_18 (hc.trans rfl) (lw_18 hIV h0 hf hi hn hl k)
    | 19, hc, _ => exact i_287_40_19 (hc.trans rfl) (lw_19 hIV h0 hf hi hn hl k)
    | 20, hc, _ => exact i_287_40_20 (hc.trans rfl) (lw_20 hIV h0 hf hi hn hl k)
    | 21, hc, _ => exact i_287_40_21 (hc.trans rfl) (lw_21 hIV hKC h0 hf hi hn hl k)
    | 22, hc, _ => exact i_287_40_22 (hc.trans rfl) (lw_22 hIV hKC h0 hf hi hn hl k)
    | 23, hc, _ => exact i_287_40_23 (hc.trans rfl) (lw_23 hIV h0 hf hi hn hl k)
    | c + 24, _, h => exact absurd h (by omega)
  · exact i_287_40_d (by omega) (k L Z w lv (by omega) (by omega) hIV hl)
/-- the loop's head, r steps at most to come -/
theorem lw_loop (hKC : KC W) (h0 : W[0]? = some (.inl (0, n, fun j => .int (Int32.ofInt (f j))))) (hf : ∀ j, -2147483648 ≤ f j ∧ f j < 2147483648) (hn : n ≤ 3072) : ∀ (r i L Z : Nat) (w : xW) (lv : xLv), n < i + 6 * r + 6 → i ≤ 4096 → IV0 W L Z w → lvB lv i → xEv (d + 21) 287 23 lv [] w (fun o w' => o = .inl (some (.int 1)) ∧ ∃ L' Z', L' ≤ L + 2 * r ∧ Z' ≤ Z + 12 * r ∧ IV0 W L' Z' w') := by
  intro r
  induction r with
  | zero =>
    intro i L Z w lv hr hi hIV hl
    obtain ⟨l0, l1, l2, l3, l4⟩ := id hl
    have hw := hIV.c0.trans h0
    refine i_287_23 l4 ?_
    refine i_287_25 l0 ?_
    refine i_287_26 (c := Int32.ofInt (n : Int)) hw oNn.symm ?_
    refine i_287_27 ?_
    refine i_287_29 jsb6 ?_
    refine i_287_30 (fun _ => ?_) (fun h => ?_)
    · refine i_287_2160 ?_
      exact i_287_2161 rfl ⟨rfl, L, Z, by omega, by omega, hIV⟩
    · rw [oI (k := (i : Int)) (by omega) (by omega), oI (k := (n : Int) - 6) (by omega) (by omega)] at h
      omega
  | succ r ih =>
    intro i L Z w lv hr hi hIV hl
    obtain ⟨l0, l1, l2, l3, l4⟩ := id hl
    have hw := hIV.c0.trans h0
    refine i_287_23 l4 ?_
    refine i_287_25 l0 ?_
    refine i_287_26 (c := Int32.ofInt (n : Int)) hw oNn.symm ?_
    refine i_287_27 ?_
    refine i_287_29 jsb6 ?_
    refine i_287_30 (fun _ => ?_) (fun h => ?_)
    · refine i_287_2160 ?_
      exact i_287_2161 rfl ⟨rfl, L, Z, by omega, by omega, hIV⟩
    · rw [oI (k := (i : Int)) (by omega) (by omega), oI (k := (n : Int) - 6) (by omega) (by omega)] at h
      have hi6 : i + 6 ≤ n := by omega
      refine i_287_33 l0 ?_
      refine i_287_34 l4 ?_
      refine i_287_36 (v := Value.int (Int32.ofInt (f i))) hw (jx 0 hi6 hn (by decide)).1 (jx 0 hi6 hn (by decide)).2.1 (jv (f := f) 0 hi6 hn (by decide)) ?_
      refine i_287_37 ?_
      refine i_287_39 rfl ?_
      refine lw_step hIV hKC h0 hf hi6 hn hl ?_ _
      intro L1 Z1 w1 lv1 hL hZ hV hl1
      refine i_287_2154 hl1.2.2.2.2 jad6 rfl ?_
      refine i_287_2157 ?_
      obtain ⟨m, o, w', h1, h2, L2, Z2, h3, h4, h5⟩ := ih (i + 6) L1 Z1 w1 _ (by omega) (by omega) hV hl1.s4
      exact ⟨m, o, w', h1, h2, L2, Z2, by omega, by omega, h5⟩
end
