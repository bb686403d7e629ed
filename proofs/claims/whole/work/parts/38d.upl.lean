/-- up: the loop over the words, from the top downward -/
theorem up_loop {d h a c n W p : Nat} {s Wi : Int32} {w : xW} {g : Nat → Value} {Q : Option Value ⊕ Nat → xW → Prop} (hc : c < 2147483648) (hne : h ≠ a) (a7 : 7 ≤ a) (hw : w[h]? = some (.inr (13, [.ref a, .int (Int32.ofNat n)]))) (ha : w[a]? = some (.inl (0, c, g))) (hn : n + W + 1 ≤ c) (hi : ∀ j, j < n → xiw g j) (hp : p < 30) (hs : s.toInt = p) (hW : Wi.toInt = W)
    (hQ : ∀ (lv : xLv) (G : Nat → Value), xld lv 0 = some (.ref h) → xld lv 2 = some (.int Wi) → (∀ x, W ≤ x → x ≤ n + W → xiw G x) → xsv G W (n + 1) = xsv g 0 n * 2 ^ p → (∀ x, n + W < x → G x = g x) → xEv d 188 124 lv [] (w.set a (.inl (0, c, G))) Q) (j : Nat) :
    ∀ (lv : xLv) (G : Nat → Value) (i u : Int32), j ≤ n → i.toInt = (j : Int) - 1 → xld lv 0 = some (.ref h) → xld lv 2 = some (.int Wi) → xld lv 3 = some (.int s) → xld lv 4 = some (.int i) → (∀ x, x < j → G x = g x) → (∀ x, j + W ≤ x → x ≤ n + W → xiw G x) → G (j + W) = .int u → xun u % 2 ^ p = 0 → (j = n → u = 0) → xsv G (j + W) (n + 1 - j) = xsv g j (n - j) * 2 ^ p → (∀ x, n + W < x → G x = g x) → xEv d 188 42 lv [] (w.set a (.inl (0, c, G))) Q := by
  induction j with
  | zero =>
    intro lv G i u hj hi0 l0 l2 l3 l4 hG hGi hu hd hz hv hk
    refine i_188_42 (x := i) l4 ?_
    refine i_188_44 (fun _ => ?_) (fun g => absurd g (by omega))
    rw [Nat.zero_add] at hGi hv
    exact hQ lv G l0 l2 hGi hv hk
  | succ t ih =>
    intro lv G i u hj hi0 l0 l2 l3 l4 hG hGi hu hd hz hv hk
    have ei : i.toInt.toNat = t := by omega
    have en := xof_i (k := n) (by omega)
    obtain ⟨x, hx, x0, x1⟩ := hi t (by omega)
    have hGx : G t = .int x := (hG t (by omega)).trans hx
    obtain ⟨u', hu', u0, u1⟩ := hGi (t + 1 + W) (Nat.le_refl _) (by omega)
    have eu : u' = u := by rw [hu] at hu'; cases hu'; rfl
    subst eu
    have hw' : ∀ G' : Nat → Value, (w.set a (.inl (0, c, G')))[h]? = some (.inr (13, [.ref a, .int (Int32.ofNat n)])) := fun _ => xgn (fun e => hne e.symm) hw
    have ha' : ∀ G' : Nat → Value, (w.set a (.inl (0, c, G')))[a]? = some (.inl (0, c, G')) := fun _ => xgs ha
    have s1 : (i + Wi).toInt = (t + W : Int) := by rw [xadd_i (by omega) (by omega)]; omega
    have s2 : (i + Wi + (1 : Int32)).toInt = (t + 1 + W : Int) := by rw [xadd_g s1 (show (1 : Int32).toInt = 1 from rfl) (by omega) (by omega)]; omega
    have s3 : (Int32.ofNat n - (1 : Int32)).toInt = (n : Int) - 1 := by rw [xsub_g en (show (1 : Int32).toInt = 1 from rfl) (by omega) (by omega)]
    have t1 : (i + Wi).toInt.toNat = t + W := by omega
    have t2 : (i + Wi + (1 : Int32)).toInt.toNat = t + 1 + W := by omega
    have hsp := xsplit x0 x1 hs hp
    have hor := xor_word hp u0 u1 hd hsp.2.1
    have hst := up_step (G := G) (g := g) (W := W) (n := n) hp hs (by omega) hx x0 x1 hu u0 u1 hd (by rw [show n - t = n + 1 - (t + 1) by omega]; exact hv)
    -- from 95 on
    have m0 := xld_n2 (i := 5) (v := .long (xsh x s)) rfl rfl l0
    have m2 := xld_n2 (i := 5) (v := .long (xsh x s)) rfl rfl l2
    have m3 := xld_n2 (i := 5) (v := .long (xsh x s)) rfl rfl l3
    have m4 := xld_n2 (i := 5) (v := .long (xsh x s)) rfl rfl l4
    have m5 : xld (xst2 lv 5 (.long (xsh x s))) 5 = some (.long (xsh x s)) := xld_s2
    have tail : xEv d 188 95 (xst2 lv 5 (.long (xsh x s))) [.int u', .int (i + Wi + (1 : Int32)), .ref a] (w.set a (.inl (0, c, G))) Q := by
      refine i_188_95 (x := xsh x s) m5 ?_
      refine i_188_97 ?_
      refine i_188_99 rfl ?_
      refine i_188_100 (c := xH x s) rfl ?_
      refine i_188_101 (c := u' ||| xH x s) rfl ?_
      refine i_188_102 (v := Value.int (u' ||| xH x s)) (ha' G) (by omega) (by omega) a7 rfl ?_
      rw [xset_set, t2]
      refine i_188_103 (x := h) m0 ?_
      refine i_188_104 (v := Value.ref a) (hw' _) rfl ?_
      refine i_188_107 (x := i) m4 ?_
      refine i_188_109 (x := Wi) m2 ?_
      refine i_188_110 (c := i + Wi) rfl ?_
      refine i_188_111 (x := xsh x s) m5 ?_
      refine i_188_113 rfl ?_
      refine i_188_114 ?_
      refine i_188_116 (c := xL x s) rfl ?_
      refine i_188_117 (v := Value.int (xL x s)) (ha' _) (by omega) (by omega) a7 rfl ?_
      rw [xset_set, t1]
      refine i_188_118 (x := i) (c := i + (-1)) m4 rfl rfl ?_
      refine i_188_121 ?_
      refine ih _ _ (i + (-1)) (xL x s) (by omega) ?_ (xld_n1 rfl rfl m0) (xld_n1 rfl rfl m2) (xld_n1 rfl rfl m3) xld_s1 (fun y hy => ?_) (fun y y1 y2 => ?_) xup_eq hsp.2.2.1 (fun e => absurd e (by omega)) hst (fun y hy => ?_)
      · rw [xadd_g rfl (show ((-1) : Int32).toInt = -1 from rfl) (by omega) (by omega)]; omega
      · rw [xup_ne (by omega), xup_ne (by omega)]; exact hG y (by omega)
      · by_cases e1 : y = t + W
        · subst e1; exact ⟨_, xup_eq, hsp.2.2.2.1, hsp.2.2.2.2⟩
        · by_cases e2 : y = t + 1 + W
          · subst e2; exact ⟨_, (xup_ne e1).trans xup_eq, hor.2.1, hor.2.2⟩
          · obtain ⟨z, z1, z2⟩ := hGi y (by omega) y2
            exact ⟨z, (xup_ne e1).trans ((xup_ne e2).trans z1), z2⟩
      · rw [xup_ne (by omega), xup_ne (by omega)]; exact hk y hy
    refine i_188_42 (x := i) l4 ?_
    refine i_188_44 (fun g => absurd g (by omega)) (fun c0 => ?_)
    refine i_188_47 (x := h) l0 ?_
    refine i_188_48 (v := Value.ref a) (hw' G) rfl ?_
    refine i_188_51 (x := i) l4 ?_
    refine i_188_53 (v := Value.int x) (ha' G) c0 (by omega) (by rw [ei]; exact hGx) ?_
    refine i_188_54 rfl ?_
    refine i_188_55 (x := s) l3 ?_
    refine i_188_56 (c := xsh x s) rfl ?_
    refine i_188_57 rfl ?_
    refine i_188_59 (x := h) m0 ?_
    refine i_188_60 (v := Value.ref a) (hw' G) rfl ?_
    refine i_188_63 (x := i) m4 ?_
    refine i_188_65 (x := Wi) m2 ?_
    refine i_188_66 (c := i + Wi) rfl ?_
    refine i_188_67 ?_
    refine i_188_68 (c := i + Wi + (1 : Int32)) rfl ?_
    refine i_188_69 (x := i) m4 ?_
    refine i_188_71 (x := h) m0 ?_
    refine i_188_72 (v := Value.int (Int32.ofNat n)) (hw' G) rfl ?_
    refine i_188_75 ?_
    refine i_188_76 (c := Int32.ofNat n - (1 : Int32)) rfl ?_
    refine i_188_77 (fun c1 => ?_) (fun c1 => ?_)
    · refine i_188_84 (x := h) m0 ?_
      refine i_188_85 (v := Value.ref a) (hw' G) rfl ?_
      refine i_188_88 (x := i) m4 ?_
      refine i_188_90 (x := Wi) m2 ?_
      refine i_188_91 (c := i + Wi) rfl ?_
      refine i_188_92 ?_
      refine i_188_93 (c := i + Wi + (1 : Int32)) rfl ?_
      refine i_188_94 (v := Value.int u') (ha' G) (by omega) (by omega) (by rw [t2]; exact hu) ?_
      exact tail
    · refine i_188_80 ?_
      refine i_188_81 ?_
      have hz0 := hz (by omega)
      rw [hz0] at tail
      exact tail
