theorem mulP {a b P : Int} (hP : 0 ≤ P) (h : a ≤ b) : a * P ≤ b * P := Int.mul_le_mul_of_nonneg_right h hP
theorem uniqP {x y a b P : Int} (hx : 0 ≤ x ∧ x < P) (hy : 0 ≤ y ∧ y < P) (h : x + a * P = y + b * P) : x = y ∧ a = b := by
  have hab : a = b := by
    rcases Int.lt_trichotomy a b with h1 | h1 | h1
    · have := mulP (P := P) (a := a + 1) (b := b) (by omega) (by omega)
      rw [Int.add_mul, Int.one_mul] at this
      omega
    · exact h1
    · have := mulP (P := P) (a := b + 1) (b := a) (by omega) (by omega)
      rw [Int.add_mul, Int.one_mul] at this
      omega
  subst hab
  exact ⟨by omega, rfl⟩
theorem ttm {d j n cap : Nat} {q : Int} {w : xW} {s : Nat → Int} {o : xC} {G Gd : Nat → Value} {ws ds : Nat → Int} {v137 v139 : Value} (hq : 0 ≤ q ∧ q < 1073741824) (hj : j + n < cap) (hcap : cap ≤ 4700) (h128 : w[128]? = some (.inr (12, mf s))) (h137 : w[137]? = some (.inr (13, [.ref 138, v137]))) (h138 : w[138]? = some o) (h139 : w[139]? = some (.inr (13, [.ref 140, v139]))) (h140 : w[140]? = some (.inl (0, 4700, Gd))) (hd : wds Gd ds n) (hG : wds G ws cap) :
    ∃ r G' ws', xRun (d + 1) 208 [.ref 128, .long (Int64.ofInt q), .int (Int32.ofInt j), .int (Int32.ofInt n)] (w.set 138 (.inl (0, 4700, G))) (.inl (some (.int (Int32.ofInt r)))) (w.set 138 (.inl (0, 4700, G'))) ∧ wds G' ws' cap ∧ (∀ k, k < j ∨ j + n < k → ws' k = ws k) ∧ ((r = 0 ∧ ivs ws' j (n + 1) = ivs ws j (n + 1) - q * ivs ds 0 n) ∨ (r = 1 ∧ ivs ws j (n + 1) < q * ivs ds 0 n ∧ ivs ws' j (n + 1) = ivs ws j (n + 1))) := by
  have key : xEv (d + 1) 208 0 (lv_args 0 [.ref 128, .long (Int64.ofInt q), .int (Int32.ofInt j), .int (Int32.ofInt n)]) [] (w.set 138 (.inl (0, 4700, G))) (fun o w' => ∃ r G' ws', o = .inl (some (.int (Int32.ofInt r))) ∧ w' = w.set 138 (.inl (0, 4700, G')) ∧ wds G' ws' cap ∧ (∀ k, k < j ∨ j + n < k → ws' k = ws k) ∧ ((r = 0 ∧ ivs ws' j (n + 1) = ivs ws j (n + 1) - q * ivs ds 0 n) ∨ (r = 1 ∧ ivs ws j (n + 1) < q * ivs ds 0 n ∧ ivs ws' j (n + 1) = ivs ws j (n + 1)))) := by
    have hP : (0 : Int) < 1073741824 ^ (n + 1) := Int.pow_pos (by decide)
    have hR := ivs_b (ws := ws) (j := j) (n := n + 1) fun k _ h2 => (hG k (by omega)).2
    generalize hlv : lv_args 0 [.ref 128, .long (Int64.ofInt q), .int (Int32.ofInt j), .int (Int32.ofInt n)] = lv
    have l0 : xld lv 0 = some (Value.ref 128) := by subst hlv; rfl
    have l1 : xld lv 1 = some (Value.long (Int64.ofInt q)) := by subst hlv; rfl
    have l3 : xld lv 3 = some (Value.int (Int32.ofInt (j : Int))) := by subst hlv; rfl
    have l4 : xld lv 4 = some (Value.int (Int32.ofInt (n : Int))) := by subst hlv; rfl
    clear hlv
    refine i_208_0 ?_
    refine i_208_1 rfl ?_
    refine lgen2 (i := 5) (v := Value.long 0) (fun lv lg ls => ?_)
    replace l0 := lg 0 _ rfl rfl l0
    replace l1 := lg 1 _ rfl rfl l1
    replace l3 := lg 3 _ rfl rfl l3
    replace l4 := lg 4 _ rfl rfl l4
    have l5 := ls
    refine i_208_3 ?_
    refine i_208_4 rfl ?_
    refine lgen1 (i := 7) (v := Value.int 0) (fun lv lg ls => ?_)
    replace l5 := lg 5 _ rfl rfl l5
    replace l0 := lg 0 _ rfl rfl l0
    replace l1 := lg 1 _ rfl rfl l1
    replace l3 := lg 3 _ rfl rfl l3
    replace l4 := lg 4 _ rfl rfl l4
    have l7 := ls
    refine ttm_sub (ws0 := ws) hq hj hcap h128 h137 h138 h139 h140 hd ?_ (n + 1) 0 _ G ws 0 (by omega) l0 l1 l3 l4 l5 l7 hG (fun _ _ => rfl) (by omega) (by show (0 : Int) - 0 * 1 = 0 - q * ivs ds 0 (min 0 n); rw [Nat.zero_min]; show (0 : Int) - 0 * 1 = 0 - q * 0; omega)
    intro lv G1 ws1 b l0 l1 l3 l4 l5 hG1 hf1 hb hi1
    have hR1 := ivs_b (ws := ws1) (j := j) (n := n + 1) fun k _ h2 => (hG1 k (by omega)).2
    refine i_208_88 (x := Int64.ofInt b) l5 ?_
    refine i_208_90 ?_
    refine i_208_91 (c := Int32.ofInt (lc b 0)) (q_cmp (a := b) (b := 0) ⟨by omega, by omega⟩ ⟨by decide, by decide⟩) ?_
    refine i_208_92 (lc_ne (a := b) (b := 0) fun c0 => ?_) (lc_eq (a := b) (b := 0) fun c0 => ?_)
    · refine i_208_97 ?_
      refine i_208_98 rfl ?_
      refine lgen1 (i := 7) (v := Value.int 0) (fun lv lg ls => ?_)
      replace l0 := lg 0 _ rfl rfl l0
      replace l1 := lg 1 _ rfl rfl l1
      replace l3 := lg 3 _ rfl rfl l3
      replace l4 := lg 4 _ rfl rfl l4
      replace l5 := lg 5 _ rfl rfl l5
      have l7 := ls
      refine i_208_100 ?_
      refine i_208_101 rfl ?_
      refine lgen2 (i := 5) (v := Value.long 0) (fun lv lg ls => ?_)
      replace l7 := lg 7 _ rfl rfl l7
      replace l0 := lg 0 _ rfl rfl l0
      replace l1 := lg 1 _ rfl rfl l1
      replace l3 := lg 3 _ rfl rfl l3
      replace l4 := lg 4 _ rfl rfl l4
      have l5 := ls
      refine i_208_103 ?_
      refine i_208_104 rfl ?_
      refine lgen1 (i := 8) (v := Value.int 0) (fun lv lg ls => ?_)
      replace l5 := lg 5 _ rfl rfl l5
      replace l7 := lg 7 _ rfl rfl l7
      replace l0 := lg 0 _ rfl rfl l0
      replace l1 := lg 1 _ rfl rfl l1
      replace l3 := lg 3 _ rfl rfl l3
      replace l4 := lg 4 _ rfl rfl l4
      have l8 := ls
      have hb1 : 1 ≤ b := by omega
      refine ttm_add (ws0 := ws1) hq hj hcap h128 h137 h138 h139 h140 hd ?_ (n + 1) 0 _ G1 ws1 0 (by omega) l0 l1 l3 l4 l5 l7 l8 hG1 (fun _ _ => rfl) (by omega) (by show (0 : Int) + 0 * 1 = 0 + q * ivs ds 0 (min 0 n); rw [Nat.zero_min]; show (0 : Int) + 0 * 1 = 0 + q * 0; omega)
      intro lv G2 ws2 b2 l7 hG2 hf2 hb2 hi2
      have hR2 := ivs_b (ws := ws2) (j := j) (n := n + 1) fun k _ h2 => (hG2 k (by omega)).2
      have hu := uniqP hR2 hR (show _ + b2 * _ = _ + b * _ by omega)
      have hm := mulP (P := 1073741824 ^ (n + 1)) (by omega) hb1
      rw [Int.one_mul] at hm
      refine i_208_192 (x := Int32.ofInt b2) l7 ?_
      refine i_208_194 (z_lt (a := b2) ⟨by omega, by omega⟩ fun c0 => absurd c0 (by omega)) (z_ge (a := b2) ⟨by omega, by omega⟩ fun c0 => ?_)
      refine i_208_197 ?_
      refine i_208_198 ?_
      refine i_208_202 rfl ?_
      refine ⟨1, G2, ws2, rfl, rfl, hG2, fun k hk => (hf2 k hk).trans (hf1 k hk), Or.inr ⟨rfl, by omega, hu.1⟩⟩
    · refine i_208_95 ?_
      refine i_208_96 rfl ?_
      have hb0 : b = 0 := by omega
      subst hb0
      refine ⟨0, G1, ws1, rfl, rfl, hG1, hf1, Or.inl ⟨rfl, ?_⟩⟩
      rw [Int.zero_mul, Int.sub_zero] at hi1
      exact hi1
  obtain ⟨o, w', h1, r, G', ws', rfl, rfl, h2⟩ := key.run
  exact ⟨r, G', ws', h1, h2⟩
