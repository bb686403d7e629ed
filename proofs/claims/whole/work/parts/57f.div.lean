theorem bits_top {g : Nat → Value} {n : Nat} {x : Int32} (hn : 0 < n) (hi : ∀ j, j < n → xiw g j) (hx : g (n - 1) = .int x) (h0 : xun x ≠ 0) : xbl (xvl g n) = xbl (xun x) + 30 * (n - 1) := by
  obtain ⟨k, rfl⟩ : ∃ k, n = k + 1 := ⟨n - 1, by omega⟩
  have := xvl_bl hi (by rw [xwd_int (show g k = .int x from hx)]; exact h0)
  rw [this, xwd_int (show g k = .int x from hx)]
  rfl
theorem size_of {g : Nat → Value} {n k : Nat} (hn : 0 < n) (ht : xwd g (n - 1) ≠ 0) (hi : ∀ j, j < n → xiw g j) (hb : xbl (xvl g n) = 30 * k) : n = k ∧ 536870912 ≤ xwd g (n - 1) := by
  have h1 := xbl_ge (xvl_low hn ht)
  have h2 := xbl_le (xvl_lt hi)
  refine ⟨by omega, ?_⟩
  obtain ⟨x, e, x0, x1⟩ := hi (n - 1) (by omega)
  have h3 := bits_top hn hi e (by rw [← xwd_int e]; exact ht)
  rw [xwd_int e]
  have h4 := xbl_of (n := xun x) (by rw [← xwd_int e]; exact ht)
  have h5 : xbl (xun x) = 30 := by omega
  rw [h5] at h4
  exact h4.1
theorem s_divide {d : Nat} {w0 w : xW} {S : Nat → Nat → Int} {V : Nat → Nat} {hx hy t x y : Nat} (hR : mR w0 S V w) (hhx : isN hx) (hhy : isN hy) (ht : t = 129 ∨ t = 133) (a1 : hx ≠ 137) (a2 : hx ≠ 139) (a3 : hy ≠ 137) (a4 : hy ≠ 139) (a5 : hx ≠ t) (a6 : hy ≠ t) (hvx : V hx = x) (hvy : V hy = y) (y0 : y ≠ 0) (bx : xbl x ≤ 140900) (byy : xbl y ≤ 140900) : ∃ w' z, xRun (d + 3) 207 [.ref 128, .ref hx, .ref hy, .ref t] w (.inl none) w' ∧ mR w0 S (uv (uv (uv V 139 z) t (x / y)) 137 (x % y)) w' := by
  have hht : isN t := by rcases ht with rfl | rfl <;> exact iNw (by decide) (by decide) (by decide)
  have hct : ncap t = 4700 := by rcases ht with rfl | rfl <;> rfl
  have key : xEv (d + 3) 207 0 (lv_args 0 [.ref 128, .ref hx, .ref hy, .ref t]) [] w (fun o w' => o = .inl none ∧ ∃ z, mR w0 S (uv (uv (uv V 139 z) t (x / y)) 137 (x % y)) w') := by
    generalize hlv : lv_args 0 [.ref 128, .ref hx, .ref hy, .ref t] = lv
    have l0 : xld lv 0 = some (Value.ref 128) := by subst hlv; rfl
    have l1 : xld lv 1 = some (Value.ref hx) := by subst hlv; rfl
    have l2 : xld lv 2 = some (Value.ref hy) := by subst hlv; rfl
    have l3 : xld lv 3 = some (Value.ref t) := by subst hlv; rfl
    clear hlv
    obtain ⟨ny, gy, y1, y2, y3, y4, y5, y6⟩ := hR.2.2.2.2 hy hhy
    have hny : 0 < ny := by
      rcases Nat.eq_zero_or_pos ny with e | e
      · subst e; exact absurd (hvy.symm.trans y5.symm) y0
      · exact e
    have hcy : ncap hy ≤ 4700 := by unfold ncap; split <;> omega
    have hytop : xwd gy (ny - 1) ≠ 0 := by
      rcases y6 with e | e
      · omega
      · exact e
    obtain ⟨xt, hxt, xt0, xt1⟩ := y4 (ny - 1) (by omega)
    rw [xwd_int hxt] at hytop
    have hxu := xun_i xt0
    have hbt := bits_top hny y4 hxt hytop
    rw [y5, hvy] at hbt
    have hbl : xbl (xun xt) ≤ 30 := xbl_le (by omega)
    refine i_207_0 ?_
    refine i_207_1 rfl ?_
    refine lgen1 (i := 4) (v := Value.int 0) (fun lv lg ls => ?_)
    replace l0 := lg 0 _ rfl rfl l0
    replace l1 := lg 1 _ rfl rfl l1
    replace l2 := lg 2 _ rfl rfl l2
    replace l3 := lg 3 _ rfl rfl l3
    have l4 := ls
    refine dv_sh (w := w) (by rw [oNn]; exact y1) y2 hny y3 hcy hxt (by omega) xt1 ?_ (30 - xbl (xun xt)) 0 _ (by omega) l0 l1 l2 l3 l4
    intro lv l0 l1 l2 l3 l4
    refine i_207_29 (x := 128) l0 ?_
    refine i_207_30 (v := Value.ref 139) hR.c128 rfl ?_
    refine i_207_33 (x := hy) l2 ?_
    obtain ⟨fs, hobj⟩ := hR.obj (h := 139) (iNw (h := 139) (by decide) (by decide) (by decide))
    obtain ⟨w, hrun, hR⟩ := r_setn (d := d) (v := y) (c := 4700) hR (iNw (h := 139) (by decide) (by decide) (by decide)) hhy (hvy) rfl (by omega)
    refine i_207_34 hobj (Nat.le_of_ble_eq_true rfl) hrun ?_
    refine i_207_37 (x := 128) l0 ?_
    refine i_207_38 (v := Value.ref 139) hR.c128 rfl ?_
    refine i_207_41 (x := Int32.ofInt ((30 - xbl (xun xt) : Nat) : Int)) l4 ?_
    obtain ⟨fs, hobj⟩ := hR.obj (h := 139) (iNw (h := 139) (by decide) (by decide) (by decide))
    obtain ⟨w, hrun, hR⟩ := r_up (d := d) (v := y) (c := 4700) (k := ((30 - xbl (xun xt) : Nat) : Int)) hR (iNw (h := 139) (by decide) (by decide) (by decide)) (uv_s) rfl (by omega) (by omega)
    rw [uvv] at hR
    refine i_207_43 hobj (Nat.le_of_ble_eq_true rfl) hrun ?_
    refine i_207_46 (x := 128) l0 ?_
    refine i_207_47 (v := Value.ref 137) hR.c128 rfl ?_
    refine i_207_50 (x := hx) l1 ?_
    obtain ⟨fs, hobj⟩ := hR.obj (h := 137) (iNw (h := 137) (by decide) (by decide) (by decide))
    obtain ⟨w, hrun, hR⟩ := r_setn (d := d) (v := x) (c := 4700) hR (iNw (h := 137) (by decide) (by decide) (by decide)) hhx ((uv_n (by omega)).trans (hvx)) rfl (by omega)
    refine i_207_51 hobj (Nat.le_of_ble_eq_true rfl) hrun ?_
    refine i_207_54 (x := 128) l0 ?_
    refine i_207_55 (v := Value.ref 137) hR.c128 rfl ?_
    refine i_207_58 (x := Int32.ofInt ((30 - xbl (xun xt) : Nat) : Int)) l4 ?_
    obtain ⟨fs, hobj⟩ := hR.obj (h := 137) (iNw (h := 137) (by decide) (by decide) (by decide))
    obtain ⟨w, hrun, hR⟩ := r_up (d := d) (v := x) (c := 4700) (k := ((30 - xbl (xun xt) : Nat) : Int)) hR (iNw (h := 137) (by decide) (by decide) (by decide)) (uv_s) rfl (by omega) (by omega)
    rw [uvv] at hR
    refine i_207_60 hobj (Nat.le_of_ble_eq_true rfl) hrun ?_
    obtain ⟨s, hs⟩ : ∃ s : Nat, s = 30 - xbl (xun xt) := ⟨_, rfl⟩
    rw [← hs] at hR l4
    rw [show ((s : Nat) : Int).toNat = s from rfl] at hR
    obtain ⟨nd, Gd, d1, d2, d3, d4, d5, d6⟩ := hR.2.2.2.2 139 (iNw (by decide) (by decide) (by decide))
    obtain ⟨nr, Gr, r1, r2, r3, r4, r5, r6⟩ := hR.2.2.2.2 137 (iNw (by decide) (by decide) (by decide))
    rw [uv_n (by decide), uv_s] at d5
    rw [uv_s] at r5
    have c139 : w[139]? = some (.inr (13, [.ref 140, .int (Int32.ofInt (nd : Int))])) := by rw [oNn]; exact d1
    have c137 : w[137]? = some (.inr (13, [.ref 138, .int (Int32.ofInt (nr : Int))])) := by rw [oNn]; exact r1
    have hp2 := Nat.two_pow_pos s
    have hYne : y * 2 ^ s ≠ 0 := Nat.mul_ne_zero y0 (by omega)
    have hnd : 0 < nd := by
      rcases Nat.eq_zero_or_pos nd with e | e
      · subst e; exact absurd d5.symm hYne
      · exact e
    have hdtop : xwd Gd (nd - 1) ≠ 0 := by
      rcases d6 with e | e
      · omega
      · exact e
    have hbY := xbl_pow y s y0
    have hsz := size_of (k := ny) hnd hdtop d4 (by rw [d5]; omega)
    have b1 := nszR r6
    have bXle := xbl_powle x s
    rw [r5] at b1
    have n1 : ncap 139 = 4700 := rfl
    have n2 : ncap 137 = 4700 := rfl
    refine i_207_63 (x := 128) l0 ?_
    refine i_207_64 (v := Value.ref 139) hR.c128 rfl ?_
    refine i_207_67 (v := Value.int (Int32.ofInt (nd : Int))) c139 rfl ?_
    refine i_207_70 rfl ?_
    refine lgen1 (i := 5) (v := Value.int (Int32.ofInt (nd : Int))) (fun lv lg ls => ?_)
    replace l0 := lg 0 _ rfl rfl l0
    replace l1 := lg 1 _ rfl rfl l1
    replace l2 := lg 2 _ rfl rfl l2
    replace l3 := lg 3 _ rfl rfl l3
    replace l4 := lg 4 _ rfl rfl l4
    have l5 := ls
    refine i_207_72 (x := 128) l0 ?_
    refine i_207_73 (v := Value.ref 137) hR.c128 rfl ?_
    refine i_207_76 (v := Value.int (Int32.ofInt (nr : Int))) c137 rfl ?_
    refine i_207_79 (x := Int32.ofInt (nd : Int)) l5 ?_
    refine i_207_81 (c := Int32.ofInt ((nr : Int) - (nd : Int))) (o_sub (nr : Int) (nd : Int)) ?_
    refine i_207_82 rfl ?_
    refine lgen1 (i := 6) (v := Value.int (Int32.ofInt ((nr : Int) - (nd : Int)))) (fun lv lg ls => ?_)
    replace l5 := lg 5 _ rfl rfl l5
    replace l0 := lg 0 _ rfl rfl l0
    replace l1 := lg 1 _ rfl rfl l1
    replace l2 := lg 2 _ rfl rfl l2
    replace l3 := lg 3 _ rfl rfl l3
    replace l4 := lg 4 _ rfl rfl l4
    have l6 := ls
    refine i_207_84 (x := Int32.ofInt ((nr : Int) - (nd : Int))) l6 ?_
    refine i_207_86 (z_ge (a := (nr : Int) - (nd : Int)) ⟨by omega, by omega⟩ fun c0 => ?_) (z_lt (a := (nr : Int) - (nd : Int)) ⟨by omega, by omega⟩ fun c0 => ?_)
    · obtain ⟨m, hm⟩ : ∃ m : Nat, nr = m + nd := ⟨nr - nd, by omega⟩
      subst hm
      rw [show (((m + nd : Nat) : Int) - (nd : Int)) = (m : Int) by omega] at l6
      have g128 := hR.c128
      obtain ⟨nt, Gt, t1, t2, t3, t4, t5, t6⟩ := hR.2.2.2.2 t hht
      rw [hct] at t2
      refine i_207_104 (x := 128) l0 ?_
      refine i_207_105 (v := Value.ref 137) g128 rfl ?_
      refine i_207_108 (v := Value.ref 138) c137 rfl ?_
      refine i_207_111 (x := 128) l0 ?_
      refine i_207_112 (v := Value.ref 137) g128 rfl ?_
      refine i_207_115 (v := Value.int (Int32.ofInt ((m + nd : Nat) : Int))) c137 rfl ?_
      refine i_207_118 ?_
      refine i_207_119 (v := Value.int 0) r2 (ix0 (T := ((m + nd : Nat) : Int)) (by omega) (by omega)) (ix1 (T := ((m + nd : Nat) : Int)) (by omega) (by omega) (by omega)) (by decide) rfl ?_
      rw [ixn (T := ((m + nd : Nat) : Int)) (by omega) (by omega)]
      rw [show (((m + nd : Nat) : Int)).toNat = m + nd from rfl]
      refine i_207_120 ?_
      refine i_207_121 rfl ?_
      refine lgen1 (i := 7) (v := Value.int 0) (fun lv lg ls => ?_)
      replace l0 := lg 0 _ rfl rfl l0
      replace l3 := lg 3 _ rfl rfl l3
      replace l4 := lg 4 _ rfl rfl l4
      replace l5 := lg 5 _ rfl rfl l5
      replace l6 := lg 6 _ rfl rfl l6
      have l7 := ls
      have hG0 : wds (xup Gr (m + nd) (.int (Int32.ofInt 0))) (u1 (wso Gr) (m + nd) 0) (m + nd + 1) := by
        intro k hk
        by_cases e : k = m + nd
        · subst e; rw [u1_s]; exact ⟨xup_eq, by decide, by decide⟩
        · rw [u1_n e]; have := wds_of r4 k (by omega); exact ⟨(xup_ne e).trans this.1, this.2⟩
      have hws0 : wds Gr (wso Gr) (m + nd) := wds_of r4
      have hX0 := ivs_xvl hws0 (Nat.le_refl _)
      rw [r5] at hX0
      have hX1 : ivs (u1 (wso Gr) (m + nd) 0) 0 (m + 1 + nd) = ((x * 2 ^ s : Nat) : Int) := by
        rw [show m + 1 + nd = (m + nd) + 1 by omega]
        show ivs _ 0 (m + nd) + u1 (wso Gr) (m + nd) 0 (0 + (m + nd)) * _ = _
        rw [Nat.zero_add, u1_s, Int.zero_mul, Int.add_zero, ivs_same (ws' := wso Gr) fun k _ h2 => u1_n (by omega)]
        exact hX0.symm
      have hds : wds Gd (wso Gd) nd := wds_of d4
      have hD0 := ivs_xvl hds (Nat.le_refl _)
      rw [d5] at hD0
      have hXl := ivs_b (ws := wso Gr) (j := 0) (n := m + nd) fun k _ h2 => (hws0 k (by omega)).2
      have hdb : 0 < wso Gd (nd - 1) := by unfold wso; omega
      have hfit : ivs (u1 (wso Gr) (m + nd) 0) 0 (m + 1 + nd) < ivs (wso Gd) 0 nd * 1073741824 ^ (m + 1) := by
        rw [hX1, hX0]
        have eD : ivs (wso Gd) 0 nd = ivs (wso Gd) 0 (nd - 1) + wso Gd (nd - 1) * 1073741824 ^ (nd - 1) := by
          obtain ⟨n1, rfl⟩ : ∃ n1, nd = n1 + 1 := ⟨nd - 1, by omega⟩
          show ivs _ 0 n1 + wso Gd (0 + n1) * _ = _
          rw [Nat.zero_add]; rfl
        have hdl := ivs_b (ws := wso Gd) (j := 0) (n := nd - 1) fun k _ h2 => (hds k (by omega)).2
        have hP1 : (0 : Int) < 1073741824 ^ (nd - 1) := Int.pow_pos (by decide)
        have h1 := mulP (P := 1073741824 ^ (nd - 1)) (a := 1) (b := wso Gd (nd - 1)) (by omega) (by omega)
        have h2 : (1073741824 : Int) ^ (nd - 1) ≤ ivs (wso Gd) 0 nd := by omega
        have h3 := mulP (P := 1073741824 ^ (m + 1)) (Int.le_of_lt (Int.pow_pos (by decide))) h2
        rw [← Int.pow_add, show nd - 1 + (m + 1) = m + nd by omega] at h3
        omega
      have g128' : (w.set 138 (.inl (0, 4700, xup Gr (m + nd) (.int (Int32.ofInt 0)))))[128]? = _ := xgn (by decide) g128
      refine xEv.world (show w.set 138 (.inl (0, 4700, xup Gr (m + nd) (.int (Int32.ofInt 0)))) = (w.set (t + 1) (.inl (0, 4700, Gt))).set 138 (.inl (0, 4700, xup Gr (m + nd) (.int (Int32.ofInt 0)))) by rw [xset_self t2]) ?_
      refine dv_zero ht t1 t2 (by omega) ?_ (m + 1) 0 _ Gt (by omega) l0 l3 l4 l5 l6 l7
      intro lv H l0 l3 l4 l5 l6
      refine i_207_144 (x := Int32.ofInt (m : Int)) l6 ?_
      refine i_207_146 rfl ?_
      refine lgen1 (i := 7) (v := Value.int (Int32.ofInt (m : Int))) (fun lv lg ls => ?_)
      replace l0 := lg 0 _ rfl rfl l0
      replace l3 := lg 3 _ rfl rfl l3
      replace l4 := lg 4 _ rfl rfl l4
      replace l5 := lg 5 _ rfl rfl l5
      replace l6 := lg 6 _ rfl rfl l6
      have l7 := ls
      refine dv_out (w := w) (ds := wso Gd) (X := ((x * 2 ^ s : Nat) : Int)) ht hnd (by omega) g128 c137 r2 c139 d2 t1 t2 hds hdb ?_ (m + 1) _ _ (u1 (wso Gr) (m + nd) 0) H (fun _ => 0) (Nat.le_refl _) l0 l3 l4 l5 l6 (by rw [show ((m + 1 : Nat) : Int) - 1 = (m : Int) by omega]; exact l7) hG0 (fun i h1 h2 => absurd h1 (by omega)) (by rw [hX1, Nat.sub_self]; show _ = _ + _ * (_ * (0 : Int)); rw [Int.mul_zero, Int.mul_zero, Int.add_zero]) hfit
      intro lv G ws H ts l0 l3 l4 l5 l6 hG hH hX hlt
      have q128 : ((w.set (t + 1) (.inl (0, 4700, H))).set 138 (.inl (0, 4700, G)))[128]? = some (.inr (12, mf (S 128))) := xgn (by decide) (xgn (by omega) g128)
      have qt : ((w.set (t + 1) (.inl (0, 4700, H))).set 138 (.inl (0, 4700, G)))[t]? = some (.inr (13, [.ref (t + 1), .int (Int32.ofNat nt)])) := xgn (by omega) (xgn (by omega) t1)
      refine i_207_266 (x := t) l3 ?_
      refine i_207_267 (x := Int32.ofInt (m : Int)) l6 ?_
      refine i_207_269 ?_
      refine i_207_270 (c := Int32.ofNat (m + 1)) (by rw [oNn]; exact xof_succ) ?_
      refine i_207_271 (fs2 := [.ref (t + 1), .int (Int32.ofNat (m + 1))]) qt (Nat.le_of_ble_eq_true rfl) rfl (by omega) ?_
      refine i_207_274 (x := t) l3 ?_
      refine i_207_275 (x := Int32.ofInt (m : Int)) l6 ?_
      refine i_207_277 ?_
      refine i_207_278 (c := Int32.ofNat (m + 1)) (by rw [oNn]; exact xof_succ) ?_
      have qt2 : (((w.set (t + 1) (.inl (0, 4700, H))).set 138 (.inl (0, 4700, G))).set t (.inr (13, [.ref (t + 1), .int (Int32.ofNat (m + 1))])))[t]? = some (.inr (13, [.ref (t + 1), .int (Int32.ofNat (m + 1))])) := xgs qt
      have qa2 : (((w.set (t + 1) (.inl (0, 4700, H))).set 138 (.inl (0, 4700, G))).set t (.inr (13, [.ref (t + 1), .int (Int32.ofNat (m + 1))])))[t + 1]? = some (.inl (0, 4700, H)) := xgn (by omega) (xgn (by omega) (xgs t2))
      obtain ⟨o, w1, hrun, ho, n', h1, h2, h3, e⟩ := (trim_ev (d := d + 2) (k := m + 1) (Q := fun o w1 => o = .inl none ∧ ∃ n', n' ≤ m + 1 ∧ xvl H n' = xvl H (m + 1) ∧ (n' = 0 ∨ xwd H (n' - 1) ≠ 0) ∧ w1 = (((w.set (t + 1) (.inl (0, 4700, H))).set 138 (.inl (0, 4700, G))).set t (.inr (13, [.ref (t + 1), .int (Int32.ofNat (m + 1))]))).set t (.inr (13, [.ref (t + 1), .int (Int32.ofNat n')]))) (by omega) (by omega) (by decide) qt2 qa2 (by omega) (wdf_iw hH) (fun n' a b c => ⟨rfl, n', a, b, c, rfl⟩)).run
      subst ho
      rw [List.set_set] at e
      subst e
      refine i_207_279 qt2 (Nat.le_of_ble_eq_true rfl) hrun ?_
      have p128 : (((w.set (t + 1) (.inl (0, 4700, H))).set 138 (.inl (0, 4700, G))).set t (.inr (13, [.ref (t + 1), .int (Int32.ofNat n')])))[128]? = some (.inr (12, mf (S 128))) := xgn (by omega) q128
      have p137 : (((w.set (t + 1) (.inl (0, 4700, H))).set 138 (.inl (0, 4700, G))).set t (.inr (13, [.ref (t + 1), .int (Int32.ofNat n')])))[137]? = some (.inr (13, [.ref 138, .int (Int32.ofInt ((m + nd : Nat) : Int))])) := xgn (by omega) (xgn (by decide) (xgn (by omega) c137))
      refine i_207_282 (x := 128) l0 ?_
      refine i_207_283 (v := Value.ref 137) p128 rfl ?_
      refine i_207_286 (x := Int32.ofInt (nd : Int)) l5 ?_
      refine i_207_288 (fs2 := [.ref 138, .int (Int32.ofInt (nd : Int))]) p137 (Nat.le_of_ble_eq_true rfl) rfl (by decide) ?_
      obtain ⟨W2, hW2⟩ : ∃ W2, W2 = ((w.set (t + 1) (.inl (0, 4700, H))).set 138 (.inl (0, 4700, G))).set t (.inr (13, [.ref (t + 1), .int (Int32.ofNat n')])) := ⟨_, rfl⟩
      rw [← hW2] at p137 p128 ⊢
      have p138 : W2[138]? = some (.inl (0, 4700, G)) := by rw [hW2]; exact xgn (by omega) (xgs (xgn (by omega) r2))
      have k137 : (W2.set 137 (.inr (13, [.ref 138, .int (Int32.ofInt (nd : Int))])))[137]? = some (.inr (13, [.ref 138, .int (Int32.ofInt (nd : Int))])) := xgs p137
      have k138 : (W2.set 137 (.inr (13, [.ref 138, .int (Int32.ofInt (nd : Int))])))[138]? = some (.inl (0, 4700, G)) := xgn (by decide) p138
      refine i_207_291 (x := 128) l0 ?_
      refine i_207_292 (v := Value.ref 137) (xgn (by decide) p128) rfl ?_
      refine i_207_295 (x := Int32.ofInt (nd : Int)) l5 ?_
      obtain ⟨o, w1, hrun, ho, n2', j1, j2, j3, e⟩ := (trim_ev (d := d + 2) (k := nd) (Q := fun o w1 => o = .inl none ∧ ∃ n', n' ≤ nd ∧ xvl G n' = xvl G nd ∧ (n' = 0 ∨ xwd G (n' - 1) ≠ 0) ∧ w1 = (W2.set 137 (.inr (13, [.ref 138, .int (Int32.ofInt (nd : Int))]))).set 137 (.inr (13, [.ref 138, .int (Int32.ofNat n')]))) (by omega) (by omega) (by decide) k137 k138 (by omega) (wds_iw hG (by omega)) (fun n' a b c => ⟨rfl, n', a, b, c, rfl⟩)).run
      subst ho
      rw [List.set_set] at e
      subst e
      rw [← oNn] at hrun
      refine i_207_297 k137 (Nat.le_of_ble_eq_true rfl) hrun ?_
      have hfin : W2.set 137 (.inr (13, [.ref 138, .int (Int32.ofNat n2')])) = xput (xput w t (t + 1) (ncap t) n' H) 137 (137 + 1) (ncap 137) n2' G := by
        rw [hW2, hct, n2]
        unfold xput
        rw [List.set_comm _ _ (show 138 ≠ t by omega)]
      have hts := ivs_xvl (wdf_wds hH) (Nat.le_refl _)
      have hwg := ivs_xvl hG (show nd ≤ m + nd + 1 by omega)
      have hXN : x * 2 ^ s = xvl G nd + y * 2 ^ s * xvl H (m + 1) := by
        have : ((x * 2 ^ s : Nat) : Int) = ((xvl G nd + y * 2 ^ s * xvl H (m + 1) : Nat) : Int) := by
          rw [hX, Int.natCast_add, Int.natCast_mul, hwg, hts, hD0]
        exact Int.ofNat.inj this
      have hltN : xvl G nd < y * 2 ^ s := by omega
      have hq1 : xvl H (m + 1) = x / y := by
        have e1 : x * 2 ^ s / (y * 2 ^ s) = xvl H (m + 1) := by
          rw [hXN, Nat.add_mul_div_left _ _ (by omega), Nat.div_eq_of_lt hltN, Nat.zero_add]
        rw [← e1, Nat.mul_div_mul_right _ _ hp2]
      have hr1 : xvl G nd = x % y * 2 ^ s := by
        have e1 : x * 2 ^ s % (y * 2 ^ s) = xvl G nd := by
          rw [hXN, Nat.add_mul_mod_self_left, Nat.mod_eq_of_lt hltN]
        rw [← e1, Nat.mul_mod_mul_right]
      have hR1 := hR.natV (v := x / y) hht (by omega) (fun j hj => wdf_iw hH j (by omega)) (h2.trans hq1) h3
      have hR2 := hR1.natV (v := x % y * 2 ^ s) (iNw (h := 137) (by decide) (by decide) (by decide)) (by omega) (fun j hj => wds_iw hG (show nd ≤ m + nd + 1 by omega) j (by omega)) (j2.trans hr1) j3
      rw [← hfin] at hR2
      rw [hfin] at hR2 ⊢
      generalize xput (xput w t (t + 1) (ncap t) n' H) 137 (137 + 1) (ncap 137) n2' G = w at hR2 ⊢
      rw [uv_comm (a := 137) (b := t) (by omega), uvv] at hR2
      clear hR
      have hR := hR2
      refine i_207_300 (x := 128) l0 ?_
      refine i_207_301 (v := Value.ref 137) hR.c128 rfl ?_
      refine i_207_304 (x := Int32.ofInt (s : Int)) l4 ?_
      obtain ⟨fs, hobj⟩ := hR.obj (h := 137) (iNw (h := 137) (by decide) (by decide) (by decide))
      obtain ⟨w, hrun, hR⟩ := r_down (d := d) (v := x % y * 2 ^ s) (k := (s : Int)) hR (iNw (h := 137) (by decide) (by decide) (by decide)) (uv_s) (by omega) (by omega)
      rw [uvv] at hR
      refine i_207_306 hobj (Nat.le_of_ble_eq_true rfl) hrun ?_
      refine i_207_309 ?_
      refine ⟨rfl, y * 2 ^ s, ?_⟩
      rw [show ((s : Nat) : Int).toNat = s from rfl, Nat.mul_div_cancel _ hp2] at hR
      exact hR
    · refine i_207_89 (x := t) l3 ?_
      refine i_207_90 ?_
      obtain ⟨fs, hobj⟩ := hR.obj (h := t) hht
      obtain ⟨w, hrun, hR⟩ := r_setl (d := d) (x := (0 : Int64)) (v := 0) hR hht rfl
      refine i_207_91 hobj (Nat.le_of_ble_eq_true rfl) hrun ?_
      refine i_207_94 (x := 128) l0 ?_
      refine i_207_95 (v := Value.ref 137) hR.c128 rfl ?_
      refine i_207_98 (x := Int32.ofInt (s : Int)) l4 ?_
      obtain ⟨fs, hobj⟩ := hR.obj (h := 137) (iNw (h := 137) (by decide) (by decide) (by decide))
      obtain ⟨w, hrun, hR⟩ := r_down (d := d) (v := x * 2 ^ s) (k := (s : Int)) hR (iNw (h := 137) (by decide) (by decide) (by decide)) ((uv_n (by omega)).trans (uv_s)) (by omega) (by omega)
      refine i_207_100 hobj (Nat.le_of_ble_eq_true rfl) hrun ?_
      refine i_207_103 ?_
      have hlt : x * 2 ^ s < y * 2 ^ s := by rw [← r5, ← d5]; exact xvl_short r4 d6 (by omega)
      have hxy : x < y := Nat.lt_of_mul_lt_mul_right hlt
      refine ⟨rfl, y * 2 ^ s, ?_⟩
      rw [Nat.div_eq_of_lt hxy, Nat.mod_eq_of_lt hxy]
      rw [show ((s : Nat) : Int).toNat = s from rfl, Nat.mul_div_cancel _ hp2, uv_comm (a := 137) (b := t) (by omega), uvv] at hR
      exact hR
  obtain ⟨o, w', h1, rfl, z, h2⟩ := key.run
  exact ⟨w', z, h1, h2⟩
