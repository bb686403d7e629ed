/-! product of two naturals -/
theorem prod_in {d h a c n x1 y ay cy q i fn : Nat} {F : Int64} {w : xW} {oa : xC} {gy G0 : Nat → Value} {Q : Option Value ⊕ Nat → xW → Prop} (hc : c < 2147483648) (hcy : cy < 2147483648) (hne : h ≠ a) (hya : y ≠ a) (haya : ay ≠ a) (a7 : 7 ≤ a) (hw : w[h]? = some (.inr (13, [.ref a, .int (Int32.ofNat n)]))) (ha : w[a]? = some oa) (hy : w[y]? = some (.inr (13, [.ref ay, .int (Int32.ofNat q)]))) (hay : w[ay]? = some (.inl (0, cy, gy))) (hq : q ≤ cy) (hiy : ∀ j, j < q → xiw gy j) (hF : xul F = fn) (hf : fn < 1073741824) (hr : i + q ≤ c)
    (hQ : ∀ (lv : xLv) (G : Nat → Value) (b : Int64), xld lv 0 = some (.ref h) → xld lv 1 = some (.ref x1) → xld lv 2 = some (.ref y) → xld lv 3 = some (.int (Int32.ofNat i)) → xld lv 4 = some (.long b) → xul b < 1073741824 → (∀ x, x < i → G x = G0 x) → (∀ x, x < i + q → xiw G x) → xsv G i q + xul b * 2 ^ (30 * q) = xsv G0 i q + fn * xvl gy q → xEv d 201 107 lv [] (w.set a (.inl (0, c, G))) Q) (m : Nat) :
    ∀ (j : Nat) (b : Int64) (lv : xLv) (G : Nat → Value), j + m = q → xld lv 0 = some (.ref h) → xld lv 1 = some (.ref x1) → xld lv 2 = some (.ref y) → xld lv 3 = some (.int (Int32.ofNat i)) → xld lv 4 = some (.long b) → xld lv 6 = some (.long F) → xld lv 8 = some (.int (Int32.ofNat j)) → xul b < 1073741824 → (∀ x, x < i ∨ i + j ≤ x → G x = G0 x) → (∀ x, x < i + q → xiw G x) → xsv G i j + xul b * 2 ^ (30 * j) = xsv G0 i j + fn * xvl gy j → xEv d 201 43 lv [] (w.set a (.inl (0, c, G))) Q := by
  induction m with
  | zero =>
    intro j b lv G hj l0 l1 l2 l3 l4 l6 l8 hb hG hGi hval
    have e : j = q := by omega
    subst e
    refine i_201_43 (x := Int32.ofNat j) l8 ?_
    refine i_201_45 (x := y) l2 ?_
    refine i_201_46 (v := Value.int (Int32.ofNat j)) (xgn (fun e => hya e.symm) hy) rfl ?_
    exact i_201_49 (fun _ => hQ lv G b l0 l1 l2 l3 l4 hb (fun x hx => hG x (Or.inl hx)) hGi hval) (fun e => absurd e (by omega))
  | succ m ih =>
    intro j b lv G hj l0 l1 l2 l3 l4 l6 l8 hb hG hGi hval
    have ej := xof_i (k := j) (by omega)
    have eq1 := xof_i (k := q) (by omega)
    have eij := xof_i (k := i + j) (by omega)
    have tj : (Int32.ofNat j).toInt.toNat = j := by omega
    have tij : (Int32.ofNat (i + j)).toInt.toNat = i + j := by omega
    have hw' : (w.set a (.inl (0, c, G)))[h]? = some (.inr (13, [.ref a, .int (Int32.ofNat n)])) := xgn (fun e => hne e.symm) hw
    have hy' : (w.set a (.inl (0, c, G)))[y]? = some (.inr (13, [.ref ay, .int (Int32.ofNat q)])) := xgn (fun e => hya e.symm) hy
    have hay' : (w.set a (.inl (0, c, G)))[ay]? = some (.inl (0, cy, gy)) := xgn (fun e => haya e.symm) hay
    have ha' : (w.set a (.inl (0, c, G)))[a]? = some (.inl (0, c, G)) := xgs ha
    obtain ⟨u, hu, u0, u1⟩ := hiy j (by omega)
    obtain ⟨v, hv, v0, v1⟩ := hGi (i + j) (by omega)
    have uu := xun_i u0
    have uv := xun_i v0
    have hP : fn * xun u ≤ 1073741823 * 1073741823 := Nat.mul_le_mul (by omega) (by omega)
    have e1 : xul (F * u.toInt64) = fn * xun u := by
      rw [xul_mul (by rw [hF, xul_ext u0]; omega), hF, xul_ext u0]
    have e2 : xul (F * u.toInt64 + v.toInt64) = fn * xun u + xun v := by
      rw [xul_add (by rw [e1, xul_ext v0]; omega), e1, xul_ext v0]
    have e3 : xul (F * u.toInt64 + v.toInt64 + b) = fn * xun u + xun v + xul b := by
      rw [xul_add (by rw [e2]; omega), e2]
    obtain ⟨s, hs⟩ : ∃ s, F * u.toInt64 + v.toInt64 + b = s := ⟨_, rfl⟩
    rw [hs] at e3
    have hsh : xul (s >>> ((30 : Int32).toInt64 &&& 63)) = xul s / 2 ^ 30 := xul_shr (by omega) rfl (by decide)
    have hqw := xq_w s
    obtain ⟨z, hz⟩ : ∃ z, s.toInt32 &&& (1073741823 : Int32) = z := ⟨_, rfl⟩
    rw [hz] at hqw
    obtain ⟨b', hb'⟩ : ∃ b', s >>> ((30 : Int32).toInt64 &&& 63) = b' := ⟨_, rfl⟩
    rw [hb'] at hsh
    refine i_201_43 (x := Int32.ofNat j) l8 ?_
    refine i_201_45 (x := y) l2 ?_
    refine i_201_46 (v := Value.int (Int32.ofNat q)) hy' rfl ?_
    refine i_201_49 (fun e => absurd e (by omega)) (fun c0 => ?_)
    refine i_201_52 (x := F) l6 ?_
    refine i_201_54 (x := y) l2 ?_
    refine i_201_55 (v := Value.ref ay) hy' rfl ?_
    refine i_201_58 (x := Int32.ofNat j) l8 ?_
    refine i_201_60 (v := Value.int u) hay' (by omega) (by omega) (by rw [tj]; exact hu) ?_
    refine i_201_61 rfl ?_
    refine i_201_62 rfl ?_
    refine i_201_63 (x := h) l0 ?_
    refine i_201_64 (v := Value.ref a) hw' rfl ?_
    refine i_201_67 (x := Int32.ofNat i) l3 ?_
    refine i_201_68 (x := Int32.ofNat j) l8 ?_
    refine i_201_70 (c := Int32.ofNat (i + j)) xof_add ?_
    refine i_201_71 (v := Value.int v) ha' (by omega) (by omega) (by rw [tij]; exact hv) ?_
    refine i_201_72 rfl ?_
    refine i_201_73 rfl ?_
    refine i_201_74 (x := b) l4 ?_
    refine i_201_76 (c := s) hs ?_
    refine i_201_77 rfl ?_
    have q0 := xld_n2 (i := 9) (v := .long s) rfl rfl l0
    have q1 := xld_n2 (i := 9) (v := .long s) rfl rfl l1
    have q2 := xld_n2 (i := 9) (v := .long s) rfl rfl l2
    have q3 := xld_n2 (i := 9) (v := .long s) rfl rfl l3
    have q6 := xld_n2 (i := 9) (v := .long s) rfl rfl l6
    have q8 := xld_n2 (i := 9) (v := .long s) rfl rfl l8
    have q9 : xld (xst2 lv 9 (.long s)) 9 = some (.long s) := xld_s2
    refine i_201_79 (x := h) q0 ?_
    refine i_201_80 (v := Value.ref a) hw' rfl ?_
    refine i_201_83 (x := Int32.ofNat i) q3 ?_
    refine i_201_84 (x := Int32.ofNat j) q8 ?_
    refine i_201_86 (c := Int32.ofNat (i + j)) xof_add ?_
    refine i_201_87 (x := s) q9 ?_
    refine i_201_89 rfl ?_
    refine i_201_90 ?_
    refine i_201_92 (c := z) hz ?_
    refine i_201_93 (v := Value.int z) ha' (by omega) (by omega) a7 rfl ?_
    rw [xset_set, tij]
    refine i_201_94 (x := s) q9 ?_
    refine i_201_96 ?_
    refine i_201_98 (c := b') hb' ?_
    refine i_201_99 rfl ?_
    refine i_201_101 (x := Int32.ofNat j) (c := Int32.ofNat (j + 1)) (xld_n2 rfl rfl q8) xof_succ rfl ?_
    refine i_201_104 ?_
    refine ih (j + 1) b' _ _ (by omega) (xld_n1 rfl rfl (xld_n2 rfl rfl q0)) (xld_n1 rfl rfl (xld_n2 rfl rfl q1)) (xld_n1 rfl rfl (xld_n2 rfl rfl q2)) (xld_n1 rfl rfl (xld_n2 rfl rfl q3)) (xld_n1 rfl rfl xld_s2) (xld_n1 rfl rfl (xld_n2 rfl rfl q6)) xld_s1 (by omega) (fun x hx => (xup_ne (by omega)).trans (hG x (by omega))) (xiw_up hGi hqw.1 hqw.2.1) ?_
    have f1 : xsv (xup G (i + j) (.int z)) i (j + 1) = xsv (xup G (i + j) (.int z)) i j + xwd (xup G (i + j) (.int z)) (i + j) * 2 ^ (30 * j) := rfl
    have f2 : xsv G0 i (j + 1) = xsv G0 i j + xwd G0 (i + j) * 2 ^ (30 * j) := rfl
    have f3 : xvl gy (j + 1) = xvl gy j + xwd gy j * 2 ^ (30 * j) := rfl
    rw [f1, f2, f3, xsv_same (g' := G) fun x _ x2 => xup_ne (by omega), xwd_int (x := z) xup_eq, xwd_int hu, xwd_int ((hG (i + j) (Or.inr (Nat.le_refl _))).symm.trans hv), hqw.2.2, hsh, Nat.mul_add fn]
    have dm := Nat.div_add_mod (xul s) 1073741824
    have e5 : (1073741824 * (xul s / 1073741824) + xul s % 1073741824) * 2 ^ (30 * j) = (fn * xun u + xun v + xul b) * 2 ^ (30 * j) := by rw [dm, e3]
    rw [Nat.add_mul, Nat.add_mul, Nat.add_mul] at e5
    have e6 : xul s / 2 ^ 30 * 2 ^ (30 * (j + 1)) = 1073741824 * (xul s / 1073741824) * 2 ^ (30 * j) := by
      rw [show 30 * (j + 1) = 30 * j + 30 by omega, Nat.pow_add, Nat.mul_comm (2 ^ (30 * j)), ← Nat.mul_assoc, Nat.mul_comm _ (2 ^ 30)]
    have e7 : fn * (xun u * 2 ^ (30 * j)) = fn * xun u * 2 ^ (30 * j) := (Nat.mul_assoc ..).symm
    rw [e6, e7]
    omega
