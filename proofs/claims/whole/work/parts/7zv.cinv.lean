/-! settle with wider scales; invert of the class -/
section
variable {w0 w : xW} {L Z : Nat} {S : Nat → Nat → Int} {V : Nat → Nat} {d h t r g : Nat}
set_option maxHeartbeats 8000000 in
theorem x_settleW {mode : Int} (hR : cX w0 L Z S V w) (hg : kd g = 1) (ht : kd t = 2) (hk : kd h = 4) (hp : 1 ≤ S t 0 ∧ S t 0 ≤ 4096) (hs : S h 0 = 0 ∨ S h 0 = 1) (hmo3 : S h 3 = 0 ∨ S h 3 = 1) (hmo : 0 ≤ mode ∧ mode ≤ 4) (hm0 : V (h + 1) ≠ 0) (hmb : xbl (V (h + 1)) ≤ 600000) (hsc : -950000 ≤ S h 2 ∧ S h 2 ≤ 950000) (hxs : -950000 ≤ (xbl (V (h + 1)) : Int) + S h 2 ∧ (xbl (V (h + 1)) : Int) + S h 2 ≤ 950000) (hl : -50000 ≤ S g 0 ∧ S g 0 ≤ S g 1 ∧ S g 1 ≤ 50000) (hgr : S g 2 = 0 ∨ S g 2 = 1) (hmc : ∀ u, u = rU (S t 0) (S g 0) (S g 2) 0 ((xbl (V (h + 1)) : Int) + S h 2) → S h 3 = 0 ∨ 0 < u - S h 2) : ∃ w', xRun (d + 9) 27 [Value.ref g, Value.ref t, Value.ref h, Value.int (Int32.ofInt mode)] w (.inl (some (.int (Int32.ofInt (rnd (S t 0) (S g 0) (S g 1) (S g 2) 0 (S h 0) mode (S h 3) (V (h + 1)) (S h 2) (S g 3)).2.2.2.1)))) w' ∧ ∃ S' V', cX w0 L Z S' V' w' ∧ sP S S' V V' g t (S h 0) (rnd (S t 0) (S g 0) (S g 1) (S g 2) 0 (S h 0) mode (S h 3) (V (h + 1)) (S h 2) (S g 3)) := by
  have key : ∀ lv, xld lv 0 = some (Value.ref g) → xld lv 1 = some (Value.ref t) → xld lv 2 = some (Value.ref h) → xld lv 3 = some (Value.int (Int32.ofInt mode)) → xEv (d + 9) 27 0 lv [] w (fun o w' => o = .inl (some (.int (Int32.ofInt (rnd (S t 0) (S g 0) (S g 1) (S g 2) 0 (S h 0) mode (S h 3) (V (h + 1)) (S h 2) (S g 3)).2.2.2.1))) ∧ ∃ S' V', cX w0 L Z S' V' w' ∧ sP S S' V V' g t (S h 0) (rnd (S t 0) (S g 0) (S g 1) (S g 2) 0 (S h 0) mode (S h 3) (V (h + 1)) (S h 2) (S g 3))) := by
    intro lv l0 l1 l2 l3
    refine i_27_0 (x := h) l2 ?_
    have hobj := hR.k4 hk
    have hrun := x_exp (d := d + 6) (h := h) hR hk
    refine i_27_1 hobj (Nat.le_of_ble_eq_true rfl) hrun ?_
    obtain ⟨x, hx⟩ : ∃ x : Int, x = (xbl (V (h + 1)) : Int) + S h 2 := ⟨_, rfl⟩
    rw [← hx]
    refine i_27_4 rfl ?_
    refine lgen1 (i := 4) (v := Value.int (Int32.ofInt x)) (fun lv lg ls => ?_)
    replace l0 := lg 0 _ rfl rfl l0
    replace l1 := lg 1 _ rfl rfl l1
    replace l2 := lg 2 _ rfl rfl l2
    replace l3 := lg 3 _ rfl rfl l3
    have l4 := ls
    refine i_27_6 (x := g) l0 ?_
    refine i_27_7 (x := Int32.ofInt x) l4 ?_
    refine i_27_9 (x := t) l1 ?_
    refine i_27_10 (v := Value.int (Int32.ofInt (S t 0))) (hR.k2 ht) rfl ?_
    have hobj := hR.k1 hg
    have hrun := x_unit (d := d + 8) (g := g) (x := x) (p := S t 0) hR hg ⟨by omega, by omega⟩ ⟨by omega, by omega⟩ hgr
    refine i_27_13 hobj (Nat.le_of_ble_eq_true rfl) hrun ?_
    have hub := rU_b (p := S t 0) (least := S g 0) (gradual := S g 2) (free := 0) (x := x)
    obtain ⟨u, hu⟩ : ∃ u : Int, u = rU (S t 0) (S g 0) (S g 2) 0 x := ⟨_, rfl⟩
    rw [← hu] at hub ⊢
    replace hmc := hmc u (by rw [hu, hx])
    have hub2 : -1000000 ≤ u ∧ u ≤ 1000000 := by omega
    have hsc2 : -1000000 ≤ S h 2 ∧ S h 2 ≤ 1000000 := by omega
    have hxb : -2000000 ≤ x ∧ x ≤ 2000000 := by omega
    have hxu : x - u ≤ S t 0 := hub.1
    clear hub
    obtain ⟨q, hq⟩ : ∃ q, q = rq1 (V (h + 1)) (u - S h 2) (S h 3) (S h 0) mode := ⟨_, rfl⟩
    have hqx := rq1_bl (m := V (h + 1)) (cut := u - S h 2) (more := S h 3) (sg := S h 0) (mode := mode)
    rw [← hq, show (xbl (V (h + 1)) : Int) - (u - S h 2) = x - u by omega] at hqx
    have hqk : x - u ≤ (xbl q : Int) := by have := rq1_ge (m := V (h + 1)) (cut := u - S h 2) (more := S h 3) (sg := S h 0) (mode := mode) hm0; rw [← hq] at this; omega
    have hqb : (xbl q : Int) ≤ 5000 := by omega
    have tail : ∀ ch lv, ch = rway (rE (V (h + 1)) (u - S h 2) (S h 3)) (rG (V (h + 1)) (u - S h 2) (S h 3) (S h 0) mode) → xld lv 0 = some (Value.ref g) → xld lv 1 = some (Value.ref t) → xld lv 2 = some (Value.ref h) → xld lv 3 = some (Value.int (Int32.ofInt mode)) → xld lv 4 = some (Value.int (Int32.ofInt x)) → xld lv 5 = some (Value.int (Int32.ofInt u)) → xld lv 6 = some (Value.int (Int32.ofInt (bb (rG (V (h + 1)) (u - S h 2) (S h 3) (S h 0) mode)))) → xEv (d + 9) 27 50 lv [.int (Int32.ofInt ch)] w (fun o w' => o = .inl (some (.int (Int32.ofInt (rnd (S t 0) (S g 0) (S g 1) (S g 2) 0 (S h 0) mode (S h 3) (V (h + 1)) (S h 2) (S g 3)).2.2.2.1))) ∧ ∃ S' V', cX w0 L Z S' V' w' ∧ sP S S' V V' g t (S h 0) (rnd (S t 0) (S g 0) (S g 1) (S g 2) 0 (S h 0) mode (S h 3) (V (h + 1)) (S h 2) (S g 3))) := by
      intro ch lv hch l0 l1 l2 l3 l4 l5 l6
      have hcb : -1 ≤ ch ∧ ch ≤ 1 := by rw [hch]; exact rway_b _ _
      refine i_27_50 rfl ?_
      refine lgen1 (i := 7) (v := Value.int (Int32.ofInt ch)) (fun lv lg ls => ?_)
      replace l0 := lg 0 _ rfl rfl l0
      replace l1 := lg 1 _ rfl rfl l1
      replace l2 := lg 2 _ rfl rfl l2
      replace l3 := lg 3 _ rfl rfl l3
      replace l4 := lg 4 _ rfl rfl l4
      replace l5 := lg 5 _ rfl rfl l5
      replace l6 := lg 6 _ rfl rfl l6
      have l7 := ls
      refine i_27_52 (x := t) l1 ?_
      refine i_27_53 (x := h) l2 ?_
      refine i_27_54 (x := Int32.ofInt u) l5 ?_
      refine i_27_56 (x := Int32.ofInt (bb (rG (V (h + 1)) (u - S h 2) (S h 3) (S h 0) mode))) l6 ?_
      have hobj := hR.k2 ht
      obtain ⟨w, hrun, S1, V1, hR, hB⟩ := x_mult (d := d + 3) (t := t) (h := h) (unit := u) (og := bb (rG (V (h + 1)) (u - S h 2) (S h 3) (S h 0) mode)) hR ht hk (kd_ne ht hk (by decide)) (kd_ne ht (kd_rl hk) (by decide)) (kd_ne (kd_rg ht) hk (by decide)) hp hs (bb_01 _) hm0 hmb hsc2 hub2 (by rw [← hx]; exact hxu)
      rw [show rq (V (h + 1)) (u - S h 2) + (bb (rG (V (h + 1)) (u - S h 2) (S h 3) (S h 0) mode)).toNat = q from hq.symm] at hB
      obtain ⟨b1, b2, b3, b4, b5⟩ := hB
      have fg0 : S1 g 0 = S g 0 := b4 g 0 (fun e => (kd_ne ht hg (by decide)).symm e.1)
      have fg1 : S1 g 1 = S g 1 := b4 g 1 (fun e => (kd_ne ht hg (by decide)).symm e.1)
      have fg2 : S1 g 2 = S g 2 := b4 g 2 (fun e => (kd_ne ht hg (by decide)).symm e.1)
      have fg3 : S1 g 3 = S g 3 := b4 g 3 (fun e => (kd_ne ht hg (by decide)).symm e.1)
      have fh0 : S1 h 0 = S h 0 := b4 h 0 (fun e => (kd_ne ht hk (by decide)).symm e.1)
      have fh2 : S1 h 2 = S h 2 := b4 h 2 (fun e => (kd_ne ht hk (by decide)).symm e.1)
      have fh3 : S1 h 3 = S h 3 := b4 h 3 (fun e => (kd_ne ht hk (by decide)).symm e.1)
      have ft0 : S1 t 0 = S t 0 := b4 t 0 (fun e => by have := e.2; omega)
      have fV : V1 (h + 1) = V (h + 1) := b5 _ (fun e => (kd_ne ht hk (by decide)) (by omega))
      refine i_27_58 hobj (Nat.le_of_ble_eq_true rfl) hrun ?_
      by_cases hq0 : q = 0
      · rw [if_pos hq0] at b1
        have hch1 : ch = -1 := by rw [hch]; exact q0_way hm0 (by rw [← hq]; exact hq0)
        have eD : rD (S t 0) (S g 0) (S g 1) (S g 2) 0 (S h 0) mode x (S h 3) (V (h + 1)) q u ch (S g 3) = (2, 0, 0, -1, S g 3) := by unfold rD; rw [if_neg (fun e => e.2.1 hq0), if_pos hq0]
        refine st_q0 hR hg hk ht (kd_ne ht hk (by decide)) (kd_ne ht hg (by decide)) (kd_ne hg hk (by decide)) (by rw [fh0]; exact hs) (by rw [fg2]; exact hgr) (by rw [fg0]; omega) (by rw [fg1]; omega) hxb hcb b1 l0 l1 l2 l3 l4 l7 (fun w' z hX hz => ?_)
        rw [rnd_eq hx hu hq hch eD]
        refine ⟨congrArg (fun z : Int => Sum.inl (some (Value.int (Int32.ofInt z)))) (show z = (if S h 0 = 0 then -1 else -(-1)) by rw [hz, fh0, hch1]), _, _, hX, ?_⟩
        refine ⟨by rw [u2_eq, if_neg (fun e => absurd e.2 (by decide))]; exact b1, by rw [u2_eq, if_neg (fun e => absurd e.2 (by decide))]; exact b2, fun e => absurd (show (2 : Int) = 3 from e) (by decide), ?_, fun b j h1 h2 => by rw [u2_eq, if_neg h2]; exact b4 b j h1, fun k hk => (b5 k hk)⟩
        show (u2 S1 g 3 (rFl 0 (S1 g 2) x (S1 g 0) ch (S1 g 3))) g 3 = rFl 0 (S g 2) x (S g 0) (-1) (S g 3)
        rw [u2_eq, if_pos ⟨rfl, rfl⟩, fg2, fg0, fg3, hch1]
      · rw [if_neg hq0] at b1
        replace b3 := b3 hq0
        by_cases hov : S g 1 < (xbl q : Int) + u
        · have hng := over_ng hu hqx hov hl.2.1 hp.1
          rcases Bool.eq_false_or_eq_true (far mode (S h 0)) with hf | hf
          · have eD : rD (S t 0) (S g 0) (S g 1) (S g 2) 0 (S h 0) mode x (S h 3) (V (h + 1)) q u ch (S g 3) = (1, 0, 0, 1, zor (S g 3) 2) := by unfold rD; rw [if_pos ⟨rfl, hq0, hov⟩, if_pos hf]
            refine st_o1 hR hg hk ht (kd_ne ht hk (by decide)) (kd_ne ht hg (by decide)) (kd_ne hg hk (by decide)) (by rw [fh0]; exact hs) (by rw [fg2]; exact hgr) (by rw [fg0]; omega) (by rw [fg1]; omega) hxb hcb (by rw [b3.1]; omega) (by rw [ft0]; exact hp) hmo b1 (by rw [b3.1, fg1]; omega) (by rw [fh0]; exact hf) l0 l1 l2 l3 l4 l7 (fun w' z hX hz => ?_)
            rw [rnd_eq hx hu hq hch eD]
            refine ⟨congrArg (fun z : Int => Sum.inl (some (Value.int (Int32.ofInt z)))) (show z = (if S h 0 = 0 then 1 else -1) by rw [hz, fh0]), _, _, hX, ?_⟩
            refine ⟨by rw [u2_eq, if_neg (fun e => absurd e.2 (by decide)), u2_eq, if_neg (fun e => absurd e.2 (by decide)), u2_eq, if_pos ⟨rfl, rfl⟩], by rw [u2_eq, if_neg (fun e => absurd e.2 (by decide)), u2_eq, if_pos ⟨rfl, rfl⟩]; exact fh0, fun e => absurd (show (1 : Int) = 3 from e) (by decide), ?_, fun b j h1 h2 => by rw [u2_eq, if_neg h2, u2_eq, if_neg (fun e => h1 ⟨e.1, by rw [e.2]; decide⟩), u2_eq, if_neg (fun e => h1 ⟨e.1, by rw [e.2]; decide⟩), u2_eq, if_neg h2]; exact b4 b j h1, fun k hk => (b5 k hk)⟩
            show (u2 (u2 (u2 (u2 S1 g 3 (zor (S1 g 3) 2)) t 1 1) t 2 (S1 h 0)) g 3 (zor (zor (S1 g 3) 2) 1)) g 3 = rFl 0 (S g 2) x (S g 0) 1 (zor (S g 3) 2)
            unfold rFl; rw [u2_eq, if_pos ⟨rfl, rfl⟩, if_pos (by decide), if_neg hng, fg3]
          · have eD : rD (S t 0) (S g 0) (S g 1) (S g 2) 0 (S h 0) mode x (S h 3) (V (h + 1)) q u ch (S g 3) = (3, xbl (2 ^ (S t 0).toNat - 1) + (S g 1 - S t 0), nrm (2 ^ (S t 0).toNat - 1) (S t 0), -1, zor (S g 3) 2) := by unfold rD; rw [if_pos ⟨rfl, hq0, hov⟩, if_neg (by rw [hf]; decide)]
            refine st_o0 hR hg hk ht (kd_ne ht hk (by decide)) (kd_ne ht hg (by decide)) (kd_ne hg hk (by decide)) (by rw [fh0]; exact hs) (by rw [fg2]; exact hgr) (by rw [fg0]; omega) (by rw [fg1]; omega) hxb hcb (by rw [b3.1]; omega) (by rw [ft0]; exact hp) hmo b1 (by rw [b3.1, fg1]; omega) (by rw [fh0]; exact hf) l0 l1 l2 l3 l4 l7 (fun w' z hX hz => ?_)
            rw [rnd_eq hx hu hq hch eD]
            refine ⟨congrArg (fun z : Int => Sum.inl (some (Value.int (Int32.ofInt z)))) (show z = (if S h 0 = 0 then -1 else -(-1)) by rw [hz, fh0]), _, _, hX, ?_⟩
            refine ⟨by rw [u2_eq, if_neg (fun e => absurd e.2 (by decide)), u2_eq, if_neg (fun e => absurd e.2 (by decide)), u2_eq, if_neg (fun e => absurd e.2 (by decide)), u2_eq, if_pos ⟨rfl, rfl⟩], by rw [u2_eq, if_neg (fun e => absurd e.2 (by decide)), u2_eq, if_neg (fun e => absurd e.2 (by decide)), u2_eq, if_pos ⟨rfl, rfl⟩]; exact fh0, fun _ => ⟨show (u2 (u2 (u2 (u2 (u2 S1 g 3 (zor (S1 g 3) 2)) t 1 3) t 2 (S1 h 0)) t 3 (S1 g 1)) g 3 (zor (zor (S1 g 3) 2) 1)) t 3 = xbl (2 ^ (S t 0).toNat - 1) + (S g 1 - S t 0) from by rw [u2_eq, if_neg (fun e => (kd_ne ht hg (by decide)) e.1), u2_eq, if_pos ⟨rfl, rfl⟩, fg1, xbl_ones]; omega, by rw [uv_s, ft0, nrm_ones hp.1]⟩, ?_, fun b j h1 h2 => by rw [u2_eq, if_neg h2, u2_eq, if_neg (fun e => h1 ⟨e.1, by rw [e.2]; decide⟩), u2_eq, if_neg (fun e => h1 ⟨e.1, by rw [e.2]; decide⟩), u2_eq, if_neg (fun e => h1 ⟨e.1, by rw [e.2]; decide⟩), u2_eq, if_neg h2]; exact b4 b j h1, fun k hk => (uv_n hk).trans ((b5 k hk))⟩
            show (u2 (u2 (u2 (u2 (u2 S1 g 3 (zor (S1 g 3) 2)) t 1 3) t 2 (S1 h 0)) t 3 (S1 g 1)) g 3 (zor (zor (S1 g 3) 2) 1)) g 3 = rFl 0 (S g 2) x (S g 0) (-1) (zor (S g 3) 2)
            unfold rFl; rw [u2_eq, if_pos ⟨rfl, rfl⟩, if_pos (by decide), if_neg hng, fg3]
        · replace hov := Int.not_lt.mp hov
          by_cases hgr0 : S g 2 = 0
          · by_cases hun : (xbl q : Int) + u < S g 0
            · have hxl : x ≤ S g 0 - 1 := und_x hu hgr0 hqk trivial hun
              rcases Bool.eq_false_or_eq_true (upU (V (h + 1)) x (S g 0) (S h 3) (S h 0) mode) with hf | hf
              · have eD : rD (S t 0) (S g 0) (S g 1) (S g 2) 0 (S h 0) mode x (S h 3) (V (h + 1)) q u ch (S g 3) = (3, xbl 1 + (S g 0 - 1), nrm 1 (S t 0), 1, zor (S g 3) 4) := by unfold rD; rw [if_neg (fun e => absurd e.2.2 (Int.not_lt.mpr hov)), if_neg hq0, if_pos ⟨rfl, hgr0, hun⟩, if_pos hf]
                refine st_u1 hR hg hk ht (kd_ne ht hk (by decide)) (kd_ne ht hg (by decide)) (kd_ne hg hk (by decide)) (by rw [fh0]; exact hs) (by rw [fg2]; exact hgr) (by rw [fg0]; omega) (by rw [fg1]; omega) hxb hcb (by rw [b3.1]; omega) (by rw [ft0]; exact hp) hmo (by rw [fh3]; exact hmo3) (by rw [fV]; exact hm0) (by rw [fV]; exact hmb) (by rw [fh2]; exact hsc2) (by rw [fV, fh2, fg0, ← hx]; exact hxl) b1 (by rw [b3.1, fg1]; omega) (by rw [fg2]; exact hgr0) (by rw [b3.1, fg0]; omega) (by rw [fV, fh2, fg0, fh3, fh0, ← hx]; exact hf) l0 l1 l2 l3 l4 l7 (fun w' z hX hz => ?_)
                rw [rnd_eq hx hu hq hch eD]
                refine ⟨congrArg (fun z : Int => Sum.inl (some (Value.int (Int32.ofInt z)))) (show z = (if S h 0 = 0 then 1 else -1) by rw [hz, fh0]), _, _, hX, ?_⟩
                refine ⟨by rw [u2_eq, if_neg (fun e => absurd e.2 (by decide)), u2_eq, if_neg (fun e => absurd e.2 (by decide)), u2_eq, if_neg (fun e => absurd e.2 (by decide)), u2_eq, if_pos ⟨rfl, rfl⟩], by rw [u2_eq, if_neg (fun e => absurd e.2 (by decide)), u2_eq, if_neg (fun e => absurd e.2 (by decide)), u2_eq, if_pos ⟨rfl, rfl⟩]; exact fh0, fun _ => ⟨show (u2 (u2 (u2 (u2 (u2 S1 g 3 (zor (S1 g 3) 4)) t 1 3) t 2 (S1 h 0)) t 3 (S1 g 0)) g 3 (zor (zor (S1 g 3) 4) 1)) t 3 = xbl 1 + (S g 0 - 1) from by rw [u2_eq, if_neg (fun e => (kd_ne ht hg (by decide)) e.1), u2_eq, if_pos ⟨rfl, rfl⟩, fg0, show xbl 1 = 1 from rfl]; omega, by rw [uv_s, ft0, show (1 : Nat) = 2 ^ 0 from rfl, nrm_pow hp.1 (by omega)]⟩, ?_, fun b j h1 h2 => by rw [u2_eq, if_neg h2, u2_eq, if_neg (fun e => h1 ⟨e.1, by rw [e.2]; decide⟩), u2_eq, if_neg (fun e => h1 ⟨e.1, by rw [e.2]; decide⟩), u2_eq, if_neg (fun e => h1 ⟨e.1, by rw [e.2]; decide⟩), u2_eq, if_neg h2]; exact b4 b j h1, fun k hk => (uv_n hk).trans ((b5 k hk))⟩
                show (u2 (u2 (u2 (u2 (u2 S1 g 3 (zor (S1 g 3) 4)) t 1 3) t 2 (S1 h 0)) t 3 (S1 g 0)) g 3 (zor (zor (S1 g 3) 4) 1)) g 3 = rFl 0 (S g 2) x (S g 0) 1 (zor (S g 3) 4)
                unfold rFl; rw [u2_eq, if_pos ⟨rfl, rfl⟩, if_pos (by decide), if_neg (fun e => e.2.1 hgr0), fg3]
              · have eD : rD (S t 0) (S g 0) (S g 1) (S g 2) 0 (S h 0) mode x (S h 3) (V (h + 1)) q u ch (S g 3) = (2, 0, 0, -1, zor (S g 3) 4) := by unfold rD; rw [if_neg (fun e => absurd e.2.2 (Int.not_lt.mpr hov)), if_neg hq0, if_pos ⟨rfl, hgr0, hun⟩, if_neg (by rw [hf]; decide)]
                refine st_u0 hR hg hk ht (kd_ne ht hk (by decide)) (kd_ne ht hg (by decide)) (kd_ne hg hk (by decide)) (by rw [fh0]; exact hs) (by rw [fg2]; exact hgr) (by rw [fg0]; omega) (by rw [fg1]; omega) hxb hcb (by rw [b3.1]; omega) (by rw [ft0]; exact hp) hmo (by rw [fh3]; exact hmo3) (by rw [fV]; exact hm0) (by rw [fV]; exact hmb) (by rw [fh2]; exact hsc2) (by rw [fV, fh2, fg0, ← hx]; exact hxl) b1 (by rw [b3.1, fg1]; omega) (by rw [fg2]; exact hgr0) (by rw [b3.1, fg0]; omega) (by rw [fV, fh2, fg0, fh3, fh0, ← hx]; exact hf) l0 l1 l2 l3 l4 l7 (fun w' z hX hz => ?_)
                rw [rnd_eq hx hu hq hch eD]
                refine ⟨congrArg (fun z : Int => Sum.inl (some (Value.int (Int32.ofInt z)))) (show z = (if S h 0 = 0 then -1 else -(-1)) by rw [hz, fh0]), _, _, hX, ?_⟩
                refine ⟨by rw [u2_eq, if_neg (fun e => absurd e.2 (by decide)), u2_eq, if_neg (fun e => absurd e.2 (by decide)), u2_eq, if_pos ⟨rfl, rfl⟩], by rw [u2_eq, if_neg (fun e => absurd e.2 (by decide)), u2_eq, if_pos ⟨rfl, rfl⟩]; exact fh0, fun e => absurd (show (2 : Int) = 3 from e) (by decide), ?_, fun b j h1 h2 => by rw [u2_eq, if_neg h2, u2_eq, if_neg (fun e => h1 ⟨e.1, by rw [e.2]; decide⟩), u2_eq, if_neg (fun e => h1 ⟨e.1, by rw [e.2]; decide⟩), u2_eq, if_neg h2]; exact b4 b j h1, fun k hk => (b5 k hk)⟩
                show (u2 (u2 (u2 (u2 S1 g 3 (zor (S1 g 3) 4)) t 1 2) t 2 (S1 h 0)) g 3 (zor (zor (S1 g 3) 4) 1)) g 3 = rFl 0 (S g 2) x (S g 0) (-1) (zor (S g 3) 4)
                unfold rFl; rw [u2_eq, if_pos ⟨rfl, rfl⟩, if_pos (by decide), if_neg (fun e => e.2.1 hgr0), fg3]
            · replace hun := Int.not_lt.mp hun
              have eD : rD (S t 0) (S g 0) (S g 1) (S g 2) 0 (S h 0) mode x (S h 3) (V (h + 1)) q u ch (S g 3) = (3, (xbl q : Int) + u, nrm q (S t 0), ch, S g 3) := by unfold rD; rw [if_neg (fun e => absurd e.2.2 (Int.not_lt.mpr hov)), if_neg hq0, if_neg (fun e => absurd e.2.2 (Int.not_lt.mpr hun))]
              refine st_n2 hR hg hk ht (kd_ne ht hk (by decide)) (kd_ne ht hg (by decide)) (kd_ne hg hk (by decide)) (by rw [fh0]; exact hs) (by rw [fg2]; exact hgr) (by rw [fg0]; omega) (by rw [fg1]; omega) hxb hcb (by rw [b3.1]; omega) b1 (by rw [b3.1, fg1]; omega) (by rw [fg2]; exact hgr0) (by rw [b3.1, fg0]; omega) l0 l1 l2 l3 l4 l7 (fun w' z hX hz => ?_)
              rw [rnd_eq hx hu hq hch eD]
              refine ⟨congrArg (fun z : Int => Sum.inl (some (Value.int (Int32.ofInt z)))) (show z = (if S h 0 = 0 then ch else -ch) by rw [hz, fh0]), _, _, hX, ?_⟩
              refine ⟨by rw [u2_eq, if_neg (fun e => absurd e.2 (by decide))]; exact b1, by rw [u2_eq, if_neg (fun e => absurd e.2 (by decide))]; exact b2, fun _ => ⟨by rw [u2_eq, if_neg (fun e => (kd_ne ht hg (by decide)) e.1)]; exact b3.1, b3.2⟩, ?_, fun b j h1 h2 => by rw [u2_eq, if_neg h2]; exact b4 b j h1, fun k hk => (b5 k hk)⟩
              show (u2 S1 g 3 (rFl 0 (S1 g 2) x (S1 g 0) ch (S1 g 3))) g 3 = rFl 0 (S g 2) x (S g 0) ch (S g 3)
              rw [u2_eq, if_pos ⟨rfl, rfl⟩, fg2, fg0, fg3]
          · have eD : rD (S t 0) (S g 0) (S g 1) (S g 2) 0 (S h 0) mode x (S h 3) (V (h + 1)) q u ch (S g 3) = (3, (xbl q : Int) + u, nrm q (S t 0), ch, S g 3) := by unfold rD; rw [if_neg (fun e => absurd e.2.2 (Int.not_lt.mpr hov)), if_neg hq0, if_neg (fun e => hgr0 e.2.1)]
            refine st_n1 hR hg hk ht (kd_ne ht hk (by decide)) (kd_ne ht hg (by decide)) (kd_ne hg hk (by decide)) (by rw [fh0]; exact hs) (by rw [fg2]; exact hgr) (by rw [fg0]; omega) (by rw [fg1]; omega) hxb hcb (by rw [b3.1]; omega) b1 (by rw [b3.1, fg1]; omega) (by rw [fg2]; exact hgr0) l0 l1 l2 l3 l4 l7 (fun w' z hX hz => ?_)
            rw [rnd_eq hx hu hq hch eD]
            refine ⟨congrArg (fun z : Int => Sum.inl (some (Value.int (Int32.ofInt z)))) (show z = (if S h 0 = 0 then ch else -ch) by rw [hz, fh0]), _, _, hX, ?_⟩
            refine ⟨by rw [u2_eq, if_neg (fun e => absurd e.2 (by decide))]; exact b1, by rw [u2_eq, if_neg (fun e => absurd e.2 (by decide))]; exact b2, fun _ => ⟨by rw [u2_eq, if_neg (fun e => (kd_ne ht hg (by decide)) e.1)]; exact b3.1, b3.2⟩, ?_, fun b j h1 h2 => by rw [u2_eq, if_neg h2]; exact b4 b j h1, fun k hk => (b5 k hk)⟩
            show (u2 S1 g 3 (rFl 0 (S1 g 2) x (S1 g 0) ch (S1 g 3))) g 3 = rFl 0 (S g 2) x (S g 0) ch (S g 3)
            rw [u2_eq, if_pos ⟨rfl, rfl⟩, fg2, fg0, fg3]
    refine i_27_16 rfl ?_
    refine lgen1 (i := 5) (v := Value.int (Int32.ofInt u)) (fun lv lg ls => ?_)
    replace l4 := lg 4 _ rfl rfl l4
    replace l0 := lg 0 _ rfl rfl l0
    replace l1 := lg 1 _ rfl rfl l1
    replace l2 := lg 2 _ rfl rfl l2
    replace l3 := lg 3 _ rfl rfl l3
    have l5 := ls
    refine i_27_18 (x := h) l2 ?_
    refine i_27_19 (x := Int32.ofInt u) l5 ?_
    refine i_27_21 (x := Int32.ofInt mode) l3 ?_
    have hobj := hR.k4 hk
    have hrun := x_rO (d := d + 4) (h := h) (unit := u) (mode := mode) hR hk hub2 hsc2 hmo3 hs hmo
    rw [gU_rG hmc] at hrun
    refine i_27_22 hobj (Nat.le_of_ble_eq_true rfl) hrun ?_
    refine i_27_25 rfl ?_
    refine lgen1 (i := 6) (v := Value.int (Int32.ofInt (bb (rG (V (h + 1)) (u - S h 2) (S h 3) (S h 0) mode)))) (fun lv lg ls => ?_)
    replace l5 := lg 5 _ rfl rfl l5
    replace l4 := lg 4 _ rfl rfl l4
    replace l0 := lg 0 _ rfl rfl l0
    replace l1 := lg 1 _ rfl rfl l1
    replace l2 := lg 2 _ rfl rfl l2
    replace l3 := lg 3 _ rfl rfl l3
    have l6 := ls
    refine i_27_27 (x := h) l2 ?_
    refine i_27_28 (x := Int32.ofInt u) l5 ?_
    have hobj := hR.k4 hk
    have hrun := x_isM (d := d + 5) (h := h) (unit := u) hR hk hub2 hsc2 hmo3
    rw [isM_rE] at hrun
    refine i_27_30 hobj (Nat.le_of_ble_eq_true rfl) hrun ?_
    refine i_27_33 (zb_f fun c10 => ?_) (zb_t fun c10 => ?_)
    · refine i_27_40 (x := Int32.ofInt (bb (rG (V (h + 1)) (u - S h 2) (S h 3) (S h 0) mode))) l6 ?_
      refine i_27_42 (zb_f fun c11 => ?_) (zb_t fun c11 => ?_)
      · refine i_27_49 ?_
        exact tail (-1) lv (by rw [c10, c11]; rfl) l0 l1 l2 l3 l4 l5 l6
      · refine i_27_45 ?_
        refine i_27_46 ?_
        exact tail 1 lv (by rw [c10, c11]; rfl) l0 l1 l2 l3 l4 l5 l6
    · refine i_27_36 ?_
      refine i_27_37 ?_
      exact tail 0 lv (by rw [c10]; rfl) l0 l1 l2 l3 l4 l5 l6
  obtain ⟨o, w', h1, rfl, h2⟩ := (key (lv_args 0 [Value.ref g, Value.ref t, Value.ref h, Value.int (Int32.ofInt mode)]) rfl rfl rfl rfl).run
  exact ⟨w', h1, h2⟩
end
section
variable {w0 w : xW} {L Z : Nat} {S : Nat → Nat → Int} {V : Nat → Nat} {d hv p : Nat}
set_option maxHeartbeats 4000000 in
theorem x_inv0 (hR : cX w0 L Z S V w) (e0 : S 79 0 = (hv : Int)) (hd : hv = 80 ∨ hv = 82) (hG0 : V hv ≠ 0) (bG : xbl (V hv) ≤ 150000) (hp : p ≤ 4096) (hcu : S 79 4 = 0) : ∃ w', xRun (d + 5) 104 [Value.ref 93, Value.int (Int32.ofInt (p : Int))] w (.inl none) w' ∧ ∃ S' V', cX w0 L Z S' V' w' ∧ (∀ b j, ¬ (b = 94 ∧ (j = 2 ∨ j = 3)) → S' b j = S b j) ∧ S' 94 2 = (if xbl (V hv) = 1 then -(S 79 3) - 0 else -(S 79 3) - ((xbl (V hv) + (p + 3) : Nat) : Int)) ∧ S' 94 3 = (if xbl (V hv) = 1 then 0 else 1) ∧ V' 95 = (if xbl (V hv) = 1 then 2 ^ 0 / V hv else 2 ^ (xbl (V hv) + (p + 3)) / V hv) ∧ (∀ i, i ≠ 87 → i ≠ 89 → i ≠ 91 → i ≠ 95 → i ≠ 97 → V' i = V i) := by
  have key : ∀ lv, xld lv 0 = some (Value.ref 93) → xld lv 1 = some (Value.int (Int32.ofInt (p : Int))) → xEv (d + 5) 104 0 lv [] w (fun o w' => o = .inl none ∧ ∃ S' V', cX w0 L Z S' V' w' ∧ (∀ b j, ¬ (b = 94 ∧ (j = 2 ∨ j = 3)) → S' b j = S b j) ∧ S' 94 2 = (if xbl (V hv) = 1 then -(S 79 3) - 0 else -(S 79 3) - ((xbl (V hv) + (p + 3) : Nat) : Int)) ∧ S' 94 3 = (if xbl (V hv) = 1 then 0 else 1) ∧ V' 95 = (if xbl (V hv) = 1 then 2 ^ 0 / V hv else 2 ^ (xbl (V hv) + (p + 3)) / V hv) ∧ (∀ i, i ≠ 87 → i ≠ 89 → i ≠ 91 → i ≠ 95 → i ≠ 97 → V' i = V i)) := by
    intro lv l0 l1
    have khv : kd hv = 3 := by rcases hd with rfl | rfl <;> decide +kernel
    refine i_104_0 (x := 93) l0 ?_
    refine i_104_1 (v := Value.ref 79) (hR.k8 kq_93) rfl ?_
    refine i_104_4 (v := Value.ref (S 79 0).toNat) (hR.k6 kq_79) rfl ?_
    rw [show (S 79 0).toNat = hv by rw [e0]; rfl]
    obtain ⟨fs, hobj⟩ := hR.nat khv
    have hrun := X_bits (d := d + 3) (h := hv) (u := V hv) hR khv (rfl)
    refine i_104_7 hobj (Nat.le_of_ble_eq_true rfl) hrun ?_
    refine i_104_10 rfl ?_
    refine lgen1 (i := 2) (v := Value.int (Int32.ofInt (xbl (V hv) : Int))) (fun lv lg ls => ?_)
    replace l0 := lg 0 _ rfl rfl l0
    replace l1 := lg 1 _ rfl rfl l1
    have l2 := ls
    refine i_104_11 (x := Int32.ofInt (xbl (V hv) : Int)) l2 ?_
    refine i_104_12 ?_
    refine i_104_13 (b_ne (a := (xbl (V hv) : Int)) (b := 1) ⟨by omega, by omega⟩ ⟨by decide, by decide⟩ fun c0 => ?_) (b_eq (a := (xbl (V hv) : Int)) (b := 1) ⟨by omega, by omega⟩ ⟨by decide, by decide⟩ fun c0 => ?_)
    · refine i_104_20 ?_
      refine i_104_21 rfl ?_
      refine lgen1 (i := 3) (v := Value.int 0) (fun lv lg ls => ?_)
      replace l2 := lg 2 _ rfl rfl l2
      replace l0 := lg 0 _ rfl rfl l0
      replace l1 := lg 1 _ rfl rfl l1
      have l3 := ls
      refine i_104_22 (x := 0) l3 ?_
      refine i_104_23 (fun _ => ?_) (fun c => absurd c (by decide))
      refine i_104_30 (x := Int32.ofInt (xbl (V hv) : Int)) l2 ?_
      refine i_104_31 (x := 93) l0 ?_
      refine i_104_32 (v := Value.ref 79) (hR.k8 kq_93) rfl ?_
      refine i_104_35 (v := Value.int (Int32.ofInt (S 79 4))) (hR.k6 kq_79) rfl ?_
      refine i_104_38 (z_eq (a := S 79 4) ⟨by omega, by omega⟩ fun c1 => ?_) (z_ne (a := S 79 4) ⟨by omega, by omega⟩ fun c1 => absurd c1 (by omega))
      refine i_104_45 (x := Int32.ofInt (p : Int)) l1 ?_
      refine i_104_46 ?_
      refine i_104_47 (c := Int32.ofInt ((p : Int) + 3)) (o_add (p : Int) 3) ?_
      refine i_104_48 (c := Int32.ofInt ((xbl (V hv) : Int) + ((p : Int) + 3))) (o_add (xbl (V hv) : Int) ((p : Int) + 3)) ?_
      refine i_104_49 rfl ?_
      refine lgen1 (i := 4) (v := Value.int (Int32.ofInt ((xbl (V hv) : Int) + ((p : Int) + 3)))) (fun lv lg ls => ?_)
      replace l3 := lg 3 _ rfl rfl l3
      replace l2 := lg 2 _ rfl rfl l2
      replace l0 := lg 0 _ rfl rfl l0
      replace l1 := lg 1 _ rfl rfl l1
      have l4 := ls
      refine i_104_51 (x := 93) l0 ?_
      refine i_104_52 (v := Value.ref 97) (hR.k8 kq_93) rfl ?_
      refine i_104_55 (x := Int32.ofInt ((xbl (V hv) : Int) + ((p : Int) + 3))) l4 ?_
      obtain ⟨fs, hobj⟩ := hR.nat kq_97
      obtain ⟨w, hrun, hR⟩ := X_pow (d := d + 1) (h := 97) (p := xbl (V hv) + (p + 3)) hR kq_97 (by omega)
      rw [show ((xbl (V hv) + (p + 3) : Nat) : Int) = (xbl (V hv) : Int) + ((p : Int) + 3) by omega] at hrun
      have hqb : xbl (2 ^ (xbl (V hv) + (p + 3)) / V hv) ≤ 600000 := Nat.le_trans (xbl_mono (Nat.div_le_self _ _)) (by rw [xbl_2pow]; omega)
      refine i_104_57 hobj (Nat.le_of_ble_eq_true rfl) hrun ?_
      refine i_104_60 (x := 93) l0 ?_
      refine i_104_61 (v := Value.ref 86) (hR.k8 kq_93) rfl ?_
      refine i_104_64 (x := 93) l0 ?_
      refine i_104_65 (v := Value.ref 97) (hR.k8 kq_93) rfl ?_
      refine i_104_68 (x := 93) l0 ?_
      refine i_104_69 (v := Value.ref 79) (hR.k8 kq_93) rfl ?_
      refine i_104_72 (v := Value.ref (S 79 0).toNat) (hR.k6 kq_79) rfl ?_
      rw [show (S 79 0).toNat = hv by rw [e0]; rfl]
      have exx : (uv V 97 (2 ^ (xbl (V hv) + (p + 3)))) 97 = 2 ^ (xbl (V hv) + (p + 3)) := uv_s
      have eyy : (uv V 97 (2 ^ (xbl (V hv) + (p + 3)))) hv = V hv := (uv_n (by omega)).trans (rfl)
      have hobj := hR.k7 kq_86
      obtain ⟨w, hrun, z3, hR⟩ := X_divide (d := d) (hx := 97) (hy := hv) hR kq_97 khv (by decide) (by decide) (by decide) (by omega) (by omega) (by omega) (by rw [eyy]; exact hG0) (by rw [exx]; rw [xbl_2pow]; omega) (by rw [eyy]; omega)
      rw [exx, eyy] at hR
      refine i_104_75 hobj (Nat.le_of_ble_eq_true rfl) hrun ?_
      refine i_104_78 (x := 93) l0 ?_
      refine i_104_79 (v := Value.ref 94) (hR.k8 kq_93) rfl ?_
      refine i_104_82 (v := Value.ref 95) (hR.k4 kq_94) rfl ?_
      refine i_104_85 (x := 93) l0 ?_
      refine i_104_86 (v := Value.ref 86) (hR.k8 kq_93) rfl ?_
      refine i_104_89 (v := Value.ref 87) (hR.k7 kq_86) rfl ?_
      obtain ⟨fs, hobj⟩ := hR.nat kq_95
      obtain ⟨w, hrun, hR⟩ := X_set (d := d + 1) (h := 95) (h2 := 87) (u := (2 ^ (xbl (V hv) + (p + 3))) / (V hv)) hR kq_95 kq_87 (by decide) ((uv_n (by omega)).trans ((uv_n (by omega)).trans (uv_s))) (by omega)
      refine i_104_92 hobj (Nat.le_of_ble_eq_true rfl) hrun ?_
      refine i_104_95 (x := 93) l0 ?_
      refine i_104_96 (v := Value.ref 94) (hR.k8 kq_93) rfl ?_
      refine i_104_99 (x := 93) l0 ?_
      refine i_104_100 (v := Value.ref 79) (hR.k8 kq_93) rfl ?_
      refine i_104_103 (v := Value.int (Int32.ofInt (S 79 3))) (hR.k6 kq_79) rfl ?_
      refine i_104_106 (c := Int32.ofInt (-(S 79 3))) (o_neg (S 79 3)) ?_
      refine i_104_107 (x := Int32.ofInt ((xbl (V hv) : Int) + ((p : Int) + 3))) l4 ?_
      refine i_104_109 (c := Int32.ofInt ((-(S 79 3)) - ((xbl (V hv) : Int) + ((p : Int) + 3)))) (o_sub (-(S 79 3)) ((xbl (V hv) : Int) + ((p : Int) + 3))) ?_
      refine i_104_110 (fs2 := f4 94 (u1 (S 94) 2 ((-(S 79 3)) - ((xbl (V hv) : Int) + ((p : Int) + 3))))) (hR.k4 kq_94) (Nat.le_of_ble_eq_true rfl) rfl (h7k kq_94 (by decide)) ?_
      refine xgen (P := cX w0 L Z (u2 S 94 2 ((-(S 79 3)) - ((xbl (V hv) : Int) + ((p : Int) + 3)))) (uv (uv (uv (uv (uv V 97 (2 ^ (xbl (V hv) + (p + 3)))) 87 ((2 ^ (xbl (V hv) + (p + 3))) / (V hv))) 91 z3) 89 ((2 ^ (xbl (V hv) + (p + 3))) % (V hv))) 95 ((2 ^ (xbl (V hv) + (p + 3))) / (V hv)))) (hR.p4 kq_94) (fun w hR => ?_)
      refine i_104_113 (x := 93) l0 ?_
      refine i_104_114 (v := Value.ref 94) (hR.k8 kq_93) rfl ?_
      refine i_104_117 (x := 0) l3 ?_
      refine i_104_118 (fun c => absurd c (by decide)) (fun _ => ?_)
      refine i_104_121 ?_
      refine i_104_122 ?_
      refine i_104_126 (fs2 := f4 94 (u1 ((u2 S 94 2 ((-(S 79 3)) - ((xbl (V hv) : Int) + ((p : Int) + 3)))) 94) 3 1)) (hR.k4 kq_94) rfl (Nat.le_of_ble_eq_true rfl) rfl (h7k kq_94 (by decide)) ?_
      refine xgen (P := cX w0 L Z (u2 (u2 S 94 2 ((-(S 79 3)) - ((xbl (V hv) : Int) + ((p : Int) + 3)))) 94 3 1) (uv (uv (uv (uv (uv V 97 (2 ^ (xbl (V hv) + (p + 3)))) 87 ((2 ^ (xbl (V hv) + (p + 3))) / (V hv))) 91 z3) 89 ((2 ^ (xbl (V hv) + (p + 3))) % (V hv))) 95 ((2 ^ (xbl (V hv) + (p + 3))) / (V hv)))) (hR.p4 kq_94) (fun w hR => ?_)
      refine i_104_129 (x := 93) l0 ?_
      refine i_104_130 (v := Value.ref 79) (hR.k8 kq_93) rfl ?_
      refine i_104_133 (v := Value.int (Int32.ofInt ((u2 (u2 S 94 2 ((-(S 79 3)) - ((xbl (V hv) : Int) + ((p : Int) + 3)))) 94 3 1) 79 4))) (hR.k6 kq_79) rfl ?_
      rw [show Int32.ofInt ((u2 (u2 S 94 2 ((-(S 79 3)) - ((xbl (V hv) : Int) + ((p : Int) + 3)))) 94 3 1) 79 4) = Int32.ofInt (S 79 4) by rw [u2_eq, if_neg (fun e => absurd e.2 (by decide)), u2_eq, if_neg (fun e => absurd e.2 (by decide))]]
      refine i_104_136 (z_eq (a := S 79 4) ⟨by omega, by omega⟩ fun c3 => ?_) (z_ne (a := S 79 4) ⟨by omega, by omega⟩ fun c3 => absurd c3 (by omega))
      refine i_104_162 ?_
      refine ⟨rfl, _, _, hR, fun b j hb => by rw [u2_eq, if_neg (by omega), u2_eq, if_neg (by omega)], ?_, ?_, ?_, fun i i1 i2 i3 i4 i5 => (uv_n (by omega)).trans ((uv_n (by omega)).trans ((uv_n (by omega)).trans ((uv_n (by omega)).trans ((uv_n (by omega)).trans (rfl)))))⟩
      · rw [u2_eq, if_neg (fun e => absurd e.2 (by decide)), u2_eq, if_pos ⟨rfl, rfl⟩, if_neg (by omega)] <;> omega
      · rw [u2_eq, if_pos ⟨rfl, rfl⟩, if_neg (by omega)]
      · rw [if_neg (by omega)]; exact uv_s
    · refine i_104_16 ?_
      refine i_104_17 ?_
      refine i_104_21 rfl ?_
      refine lgen1 (i := 3) (v := Value.int 1) (fun lv lg ls => ?_)
      replace l2 := lg 2 _ rfl rfl l2
      replace l0 := lg 0 _ rfl rfl l0
      replace l1 := lg 1 _ rfl rfl l1
      have l3 := ls
      refine i_104_22 (x := 1) l3 ?_
      refine i_104_23 (fun c => absurd c (by decide)) (fun _ => ?_)
      refine i_104_26 ?_
      refine i_104_27 ?_
      refine i_104_49 rfl ?_
      refine lgen1 (i := 4) (v := Value.int 0) (fun lv lg ls => ?_)
      replace l3 := lg 3 _ rfl rfl l3
      replace l2 := lg 2 _ rfl rfl l2
      replace l0 := lg 0 _ rfl rfl l0
      replace l1 := lg 1 _ rfl rfl l1
      have l4 := ls
      refine i_104_51 (x := 93) l0 ?_
      refine i_104_52 (v := Value.ref 97) (hR.k8 kq_93) rfl ?_
      refine i_104_55 (x := 0) l4 ?_
      obtain ⟨fs, hobj⟩ := hR.nat kq_97
      obtain ⟨w, hrun, hR⟩ := X_pow (d := d + 1) (h := 97) (p := 0) hR kq_97 (by decide)
      rw [show Int32.ofInt ((0 : Nat) : Int) = 0 from rfl] at hrun
      have hqb : xbl (2 ^ (0) / V hv) ≤ 600000 := Nat.le_trans (xbl_mono (Nat.div_le_self _ _)) (by rw [xbl_2pow]; omega)
      refine i_104_57 hobj (Nat.le_of_ble_eq_true rfl) hrun ?_
      refine i_104_60 (x := 93) l0 ?_
      refine i_104_61 (v := Value.ref 86) (hR.k8 kq_93) rfl ?_
      refine i_104_64 (x := 93) l0 ?_
      refine i_104_65 (v := Value.ref 97) (hR.k8 kq_93) rfl ?_
      refine i_104_68 (x := 93) l0 ?_
      refine i_104_69 (v := Value.ref 79) (hR.k8 kq_93) rfl ?_
      refine i_104_72 (v := Value.ref (S 79 0).toNat) (hR.k6 kq_79) rfl ?_
      rw [show (S 79 0).toNat = hv by rw [e0]; rfl]
      have exx : (uv V 97 (2 ^ (0))) 97 = 2 ^ (0) := uv_s
      have eyy : (uv V 97 (2 ^ (0))) hv = V hv := (uv_n (by omega)).trans (rfl)
      have hobj := hR.k7 kq_86
      obtain ⟨w, hrun, z5, hR⟩ := X_divide (d := d) (hx := 97) (hy := hv) hR kq_97 khv (by decide) (by decide) (by decide) (by omega) (by omega) (by omega) (by rw [eyy]; exact hG0) (by rw [exx]; rw [xbl_2pow]; omega) (by rw [eyy]; omega)
      rw [exx, eyy] at hR
      refine i_104_75 hobj (Nat.le_of_ble_eq_true rfl) hrun ?_
      refine i_104_78 (x := 93) l0 ?_
      refine i_104_79 (v := Value.ref 94) (hR.k8 kq_93) rfl ?_
      refine i_104_82 (v := Value.ref 95) (hR.k4 kq_94) rfl ?_
      refine i_104_85 (x := 93) l0 ?_
      refine i_104_86 (v := Value.ref 86) (hR.k8 kq_93) rfl ?_
      refine i_104_89 (v := Value.ref 87) (hR.k7 kq_86) rfl ?_
      obtain ⟨fs, hobj⟩ := hR.nat kq_95
      obtain ⟨w, hrun, hR⟩ := X_set (d := d + 1) (h := 95) (h2 := 87) (u := (2 ^ (0)) / (V hv)) hR kq_95 kq_87 (by decide) ((uv_n (by omega)).trans ((uv_n (by omega)).trans (uv_s))) (by omega)
      refine i_104_92 hobj (Nat.le_of_ble_eq_true rfl) hrun ?_
      refine i_104_95 (x := 93) l0 ?_
      refine i_104_96 (v := Value.ref 94) (hR.k8 kq_93) rfl ?_
      refine i_104_99 (x := 93) l0 ?_
      refine i_104_100 (v := Value.ref 79) (hR.k8 kq_93) rfl ?_
      refine i_104_103 (v := Value.int (Int32.ofInt (S 79 3))) (hR.k6 kq_79) rfl ?_
      refine i_104_106 (c := Int32.ofInt (-(S 79 3))) (o_neg (S 79 3)) ?_
      refine i_104_107 (x := 0) l4 ?_
      refine i_104_109 (c := Int32.ofInt ((-(S 79 3)) - 0)) (o_sub (-(S 79 3)) 0) ?_
      refine i_104_110 (fs2 := f4 94 (u1 (S 94) 2 ((-(S 79 3)) - 0))) (hR.k4 kq_94) (Nat.le_of_ble_eq_true rfl) rfl (h7k kq_94 (by decide)) ?_
      refine xgen (P := cX w0 L Z (u2 S 94 2 ((-(S 79 3)) - 0)) (uv (uv (uv (uv (uv V 97 (2 ^ (0))) 87 ((2 ^ (0)) / (V hv))) 91 z5) 89 ((2 ^ (0)) % (V hv))) 95 ((2 ^ (0)) / (V hv)))) (hR.p4 kq_94) (fun w hR => ?_)
      refine i_104_113 (x := 93) l0 ?_
      refine i_104_114 (v := Value.ref 94) (hR.k8 kq_93) rfl ?_
      refine i_104_117 (x := 1) l3 ?_
      refine i_104_118 (fun _ => ?_) (fun c => absurd c (by decide))
      refine i_104_125 ?_
      refine i_104_126 (fs2 := f4 94 (u1 ((u2 S 94 2 ((-(S 79 3)) - 0)) 94) 3 0)) (hR.k4 kq_94) rfl (Nat.le_of_ble_eq_true rfl) rfl (h7k kq_94 (by decide)) ?_
      refine xgen (P := cX w0 L Z (u2 (u2 S 94 2 ((-(S 79 3)) - 0)) 94 3 0) (uv (uv (uv (uv (uv V 97 (2 ^ (0))) 87 ((2 ^ (0)) / (V hv))) 91 z5) 89 ((2 ^ (0)) % (V hv))) 95 ((2 ^ (0)) / (V hv)))) (hR.p4 kq_94) (fun w hR => ?_)
      refine i_104_129 (x := 93) l0 ?_
      refine i_104_130 (v := Value.ref 79) (hR.k8 kq_93) rfl ?_
      refine i_104_133 (v := Value.int (Int32.ofInt ((u2 (u2 S 94 2 ((-(S 79 3)) - 0)) 94 3 0) 79 4))) (hR.k6 kq_79) rfl ?_
      rw [show Int32.ofInt ((u2 (u2 S 94 2 ((-(S 79 3)) - 0)) 94 3 0) 79 4) = Int32.ofInt (S 79 4) by rw [u2_eq, if_neg (fun e => absurd e.2 (by decide)), u2_eq, if_neg (fun e => absurd e.2 (by decide))]]
      refine i_104_136 (z_eq (a := S 79 4) ⟨by omega, by omega⟩ fun c5 => ?_) (z_ne (a := S 79 4) ⟨by omega, by omega⟩ fun c5 => absurd c5 (by omega))
      refine i_104_162 ?_
      refine ⟨rfl, _, _, hR, fun b j hb => by rw [u2_eq, if_neg (by omega), u2_eq, if_neg (by omega)], ?_, ?_, ?_, fun i i1 i2 i3 i4 i5 => (uv_n (by omega)).trans ((uv_n (by omega)).trans ((uv_n (by omega)).trans ((uv_n (by omega)).trans ((uv_n (by omega)).trans (rfl)))))⟩
      · rw [u2_eq, if_neg (fun e => absurd e.2 (by decide)), u2_eq, if_pos ⟨rfl, rfl⟩, if_pos (by omega)] <;> omega
      · rw [u2_eq, if_pos ⟨rfl, rfl⟩, if_pos (by omega)]
      · rw [if_pos (by omega)]; exact uv_s
  obtain ⟨o, w', h1, rfl, h2⟩ := (key (lv_args 0 [Value.ref 93, Value.int (Int32.ofInt (p : Int))]) rfl rfl).run
  exact ⟨w', h1, h2⟩
set_option maxHeartbeats 4000000 in
theorem x_inv1 (hR : cX w0 L Z S V w) (e0 : S 79 0 = (hv : Int)) (hd : hv = 80 ∨ hv = 82) (hG0 : V hv ≠ 0) (bG : xbl (V hv) ≤ 150000) (hp : p ≤ 4096) (hcu : S 79 4 = 1) (hw : 64 ≤ xbl (V hv)) (hw40 : 2 ^ 40 ≤ 2 ^ (xbl (V hv) + xbl (V hv)) / V hv) : ∃ w', xRun (d + 5) 104 [Value.ref 93, Value.int (Int32.ofInt (p : Int))] w (.inl none) w' ∧ ∃ S' V', cX w0 L Z S' V' w' ∧ (∀ b j, ¬ (b = 94 ∧ (j = 2 ∨ j = 3)) → S' b j = S b j) ∧ S' 94 2 = -(S 79 3) - (((xbl (V hv) + xbl (V hv) : Nat)) : Int) ∧ S' 94 3 = 1 ∧ V' 95 = 2 ^ (xbl (V hv) + xbl (V hv)) / V hv - 2 ^ 40 ∧ (∀ i, i ≠ 87 → i ≠ 89 → i ≠ 91 → i ≠ 95 → i ≠ 97 → V' i = V i) := by
  have key : ∀ lv, xld lv 0 = some (Value.ref 93) → xld lv 1 = some (Value.int (Int32.ofInt (p : Int))) → xEv (d + 5) 104 0 lv [] w (fun o w' => o = .inl none ∧ ∃ S' V', cX w0 L Z S' V' w' ∧ (∀ b j, ¬ (b = 94 ∧ (j = 2 ∨ j = 3)) → S' b j = S b j) ∧ S' 94 2 = -(S 79 3) - (((xbl (V hv) + xbl (V hv) : Nat)) : Int) ∧ S' 94 3 = 1 ∧ V' 95 = 2 ^ (xbl (V hv) + xbl (V hv)) / V hv - 2 ^ 40 ∧ (∀ i, i ≠ 87 → i ≠ 89 → i ≠ 91 → i ≠ 95 → i ≠ 97 → V' i = V i)) := by
    intro lv l0 l1
    have khv : kd hv = 3 := by rcases hd with rfl | rfl <;> decide +kernel
    refine i_104_0 (x := 93) l0 ?_
    refine i_104_1 (v := Value.ref 79) (hR.k8 kq_93) rfl ?_
    refine i_104_4 (v := Value.ref (S 79 0).toNat) (hR.k6 kq_79) rfl ?_
    rw [show (S 79 0).toNat = hv by rw [e0]; rfl]
    obtain ⟨fs, hobj⟩ := hR.nat khv
    have hrun := X_bits (d := d + 3) (h := hv) (u := V hv) hR khv (rfl)
    refine i_104_7 hobj (Nat.le_of_ble_eq_true rfl) hrun ?_
    refine i_104_10 rfl ?_
    refine lgen1 (i := 2) (v := Value.int (Int32.ofInt (xbl (V hv) : Int))) (fun lv lg ls => ?_)
    replace l0 := lg 0 _ rfl rfl l0
    replace l1 := lg 1 _ rfl rfl l1
    have l2 := ls
    refine i_104_11 (x := Int32.ofInt (xbl (V hv) : Int)) l2 ?_
    refine i_104_12 ?_
    refine i_104_13 (b_ne (a := (xbl (V hv) : Int)) (b := 1) ⟨by omega, by omega⟩ ⟨by decide, by decide⟩ fun c0 => ?_) (b_eq (a := (xbl (V hv) : Int)) (b := 1) ⟨by omega, by omega⟩ ⟨by decide, by decide⟩ fun c0 => absurd c0 (by omega))
    refine i_104_20 ?_
    refine i_104_21 rfl ?_
    refine lgen1 (i := 3) (v := Value.int 0) (fun lv lg ls => ?_)
    replace l2 := lg 2 _ rfl rfl l2
    replace l0 := lg 0 _ rfl rfl l0
    replace l1 := lg 1 _ rfl rfl l1
    have l3 := ls
    refine i_104_22 (x := 0) l3 ?_
    refine i_104_23 (fun _ => ?_) (fun c => absurd c (by decide))
    refine i_104_30 (x := Int32.ofInt (xbl (V hv) : Int)) l2 ?_
    refine i_104_31 (x := 93) l0 ?_
    refine i_104_32 (v := Value.ref 79) (hR.k8 kq_93) rfl ?_
    refine i_104_35 (v := Value.int (Int32.ofInt (S 79 4))) (hR.k6 kq_79) rfl ?_
    refine i_104_38 (z_eq (a := S 79 4) ⟨by omega, by omega⟩ fun c1 => absurd c1 (by omega)) (z_ne (a := S 79 4) ⟨by omega, by omega⟩ fun c1 => ?_)
    refine i_104_41 (x := Int32.ofInt (xbl (V hv) : Int)) l2 ?_
    refine i_104_42 ?_
    refine i_104_48 (c := Int32.ofInt ((xbl (V hv) : Int) + (xbl (V hv) : Int))) (o_add (xbl (V hv) : Int) (xbl (V hv) : Int)) ?_
    refine i_104_49 rfl ?_
    refine lgen1 (i := 4) (v := Value.int (Int32.ofInt ((xbl (V hv) : Int) + (xbl (V hv) : Int)))) (fun lv lg ls => ?_)
    replace l3 := lg 3 _ rfl rfl l3
    replace l2 := lg 2 _ rfl rfl l2
    replace l0 := lg 0 _ rfl rfl l0
    replace l1 := lg 1 _ rfl rfl l1
    have l4 := ls
    refine i_104_51 (x := 93) l0 ?_
    refine i_104_52 (v := Value.ref 97) (hR.k8 kq_93) rfl ?_
    refine i_104_55 (x := Int32.ofInt ((xbl (V hv) : Int) + (xbl (V hv) : Int))) l4 ?_
    obtain ⟨fs, hobj⟩ := hR.nat kq_97
    obtain ⟨w, hrun, hR⟩ := X_pow (d := d + 1) (h := 97) (p := xbl (V hv) + xbl (V hv)) hR kq_97 (by omega)
    rw [show ((xbl (V hv) + xbl (V hv) : Nat) : Int) = (xbl (V hv) : Int) + (xbl (V hv) : Int) by omega] at hrun
    have hqb : xbl (2 ^ (xbl (V hv) + xbl (V hv)) / V hv) ≤ 600000 := Nat.le_trans (xbl_mono (Nat.div_le_self _ _)) (by rw [xbl_2pow]; omega)
    refine i_104_57 hobj (Nat.le_of_ble_eq_true rfl) hrun ?_
    refine i_104_60 (x := 93) l0 ?_
    refine i_104_61 (v := Value.ref 86) (hR.k8 kq_93) rfl ?_
    refine i_104_64 (x := 93) l0 ?_
    refine i_104_65 (v := Value.ref 97) (hR.k8 kq_93) rfl ?_
    refine i_104_68 (x := 93) l0 ?_
    refine i_104_69 (v := Value.ref 79) (hR.k8 kq_93) rfl ?_
    refine i_104_72 (v := Value.ref (S 79 0).toNat) (hR.k6 kq_79) rfl ?_
    rw [show (S 79 0).toNat = hv by rw [e0]; rfl]
    have exx : (uv V 97 (2 ^ (xbl (V hv) + xbl (V hv)))) 97 = 2 ^ (xbl (V hv) + xbl (V hv)) := uv_s
    have eyy : (uv V 97 (2 ^ (xbl (V hv) + xbl (V hv)))) hv = V hv := (uv_n (by omega)).trans (rfl)
    have hobj := hR.k7 kq_86
    obtain ⟨w, hrun, z3, hR⟩ := X_divide (d := d) (hx := 97) (hy := hv) hR kq_97 khv (by decide) (by decide) (by decide) (by omega) (by omega) (by omega) (by rw [eyy]; exact hG0) (by rw [exx]; rw [xbl_2pow]; omega) (by rw [eyy]; omega)
    rw [exx, eyy] at hR
    refine i_104_75 hobj (Nat.le_of_ble_eq_true rfl) hrun ?_
    refine i_104_78 (x := 93) l0 ?_
    refine i_104_79 (v := Value.ref 94) (hR.k8 kq_93) rfl ?_
    refine i_104_82 (v := Value.ref 95) (hR.k4 kq_94) rfl ?_
    refine i_104_85 (x := 93) l0 ?_
    refine i_104_86 (v := Value.ref 86) (hR.k8 kq_93) rfl ?_
    refine i_104_89 (v := Value.ref 87) (hR.k7 kq_86) rfl ?_
    obtain ⟨fs, hobj⟩ := hR.nat kq_95
    obtain ⟨w, hrun, hR⟩ := X_set (d := d + 1) (h := 95) (h2 := 87) (u := (2 ^ (xbl (V hv) + xbl (V hv))) / (V hv)) hR kq_95 kq_87 (by decide) ((uv_n (by omega)).trans ((uv_n (by omega)).trans (uv_s))) (by omega)
    refine i_104_92 hobj (Nat.le_of_ble_eq_true rfl) hrun ?_
    refine i_104_95 (x := 93) l0 ?_
    refine i_104_96 (v := Value.ref 94) (hR.k8 kq_93) rfl ?_
    refine i_104_99 (x := 93) l0 ?_
    refine i_104_100 (v := Value.ref 79) (hR.k8 kq_93) rfl ?_
    refine i_104_103 (v := Value.int (Int32.ofInt (S 79 3))) (hR.k6 kq_79) rfl ?_
    refine i_104_106 (c := Int32.ofInt (-(S 79 3))) (o_neg (S 79 3)) ?_
    refine i_104_107 (x := Int32.ofInt ((xbl (V hv) : Int) + (xbl (V hv) : Int))) l4 ?_
    refine i_104_109 (c := Int32.ofInt ((-(S 79 3)) - ((xbl (V hv) : Int) + (xbl (V hv) : Int)))) (o_sub (-(S 79 3)) ((xbl (V hv) : Int) + (xbl (V hv) : Int))) ?_
    refine i_104_110 (fs2 := f4 94 (u1 (S 94) 2 ((-(S 79 3)) - ((xbl (V hv) : Int) + (xbl (V hv) : Int))))) (hR.k4 kq_94) (Nat.le_of_ble_eq_true rfl) rfl (h7k kq_94 (by decide)) ?_
    refine xgen (P := cX w0 L Z (u2 S 94 2 ((-(S 79 3)) - ((xbl (V hv) : Int) + (xbl (V hv) : Int)))) (uv (uv (uv (uv (uv V 97 (2 ^ (xbl (V hv) + xbl (V hv)))) 87 ((2 ^ (xbl (V hv) + xbl (V hv))) / (V hv))) 91 z3) 89 ((2 ^ (xbl (V hv) + xbl (V hv))) % (V hv))) 95 ((2 ^ (xbl (V hv) + xbl (V hv))) / (V hv)))) (hR.p4 kq_94) (fun w hR => ?_)
    refine i_104_113 (x := 93) l0 ?_
    refine i_104_114 (v := Value.ref 94) (hR.k8 kq_93) rfl ?_
    refine i_104_117 (x := 0) l3 ?_
    refine i_104_118 (fun c => absurd c (by decide)) (fun _ => ?_)
    refine i_104_121 ?_
    refine i_104_122 ?_
    refine i_104_126 (fs2 := f4 94 (u1 ((u2 S 94 2 ((-(S 79 3)) - ((xbl (V hv) : Int) + (xbl (V hv) : Int)))) 94) 3 1)) (hR.k4 kq_94) rfl (Nat.le_of_ble_eq_true rfl) rfl (h7k kq_94 (by decide)) ?_
    refine xgen (P := cX w0 L Z (u2 (u2 S 94 2 ((-(S 79 3)) - ((xbl (V hv) : Int) + (xbl (V hv) : Int)))) 94 3 1) (uv (uv (uv (uv (uv V 97 (2 ^ (xbl (V hv) + xbl (V hv)))) 87 ((2 ^ (xbl (V hv) + xbl (V hv))) / (V hv))) 91 z3) 89 ((2 ^ (xbl (V hv) + xbl (V hv))) % (V hv))) 95 ((2 ^ (xbl (V hv) + xbl (V hv))) / (V hv)))) (hR.p4 kq_94) (fun w hR => ?_)
    refine i_104_129 (x := 93) l0 ?_
    refine i_104_130 (v := Value.ref 79) (hR.k8 kq_93) rfl ?_
    refine i_104_133 (v := Value.int (Int32.ofInt ((u2 (u2 S 94 2 ((-(S 79 3)) - ((xbl (V hv) : Int) + (xbl (V hv) : Int)))) 94 3 1) 79 4))) (hR.k6 kq_79) rfl ?_
    rw [show Int32.ofInt ((u2 (u2 S 94 2 ((-(S 79 3)) - ((xbl (V hv) : Int) + (xbl (V hv) : Int)))) 94 3 1) 79 4) = Int32.ofInt (S 79 4) by rw [u2_eq, if_neg (fun e => absurd e.2 (by decide)), u2_eq, if_neg (fun e => absurd e.2 (by decide))]]
    refine i_104_136 (z_eq (a := S 79 4) ⟨by omega, by omega⟩ fun c3 => absurd c3 (by omega)) (z_ne (a := S 79 4) ⟨by omega, by omega⟩ fun c3 => ?_)
    refine i_104_139 (x := 93) l0 ?_
    refine i_104_140 (v := Value.ref 97) (hR.k8 kq_93) rfl ?_
    refine i_104_143 ?_
    obtain ⟨fs, hobj⟩ := hR.nat kq_97
    obtain ⟨w, hrun, hR⟩ := X_pow (d := d + 1) (h := 97) (p := 40) hR kq_97 (by decide)
    rw [show Int32.ofInt ((40 : Nat) : Int) = 40 from rfl] at hrun
    refine i_104_145 hobj (Nat.le_of_ble_eq_true rfl) hrun ?_
    refine i_104_148 (x := 93) l0 ?_
    refine i_104_149 (v := Value.ref 94) (hR.k8 kq_93) rfl ?_
    refine i_104_152 (v := Value.ref 95) (hR.k4 kq_94) rfl ?_
    refine i_104_155 (x := 93) l0 ?_
    refine i_104_156 (v := Value.ref 97) (hR.k8 kq_93) rfl ?_
    obtain ⟨fs, hobj⟩ := hR.nat kq_95
    obtain ⟨w, hrun, hR⟩ := X_sub (d := d + 3) (h := 95) (h2 := 97) (u := (2 ^ (xbl (V hv) + xbl (V hv))) / (V hv)) (u2 := 2 ^ (40)) hR kq_95 kq_97 (by decide) ((uv_n (by omega)).trans (uv_s)) (uv_s) hw40
    refine i_104_159 hobj (Nat.le_of_ble_eq_true rfl) hrun ?_
    refine i_104_162 ?_
    refine ⟨rfl, _, _, hR, fun b j hb => by rw [u2_eq, if_neg (by omega), u2_eq, if_neg (by omega)], ?_, ?_, ?_, fun i i1 i2 i3 i4 i5 => (uv_n (by omega)).trans ((uv_n (by omega)).trans ((uv_n (by omega)).trans ((uv_n (by omega)).trans ((uv_n (by omega)).trans ((uv_n (by omega)).trans ((uv_n (by omega)).trans (rfl)))))))⟩
    · rw [u2_eq, if_neg (fun e => absurd e.2 (by decide)), u2_eq, if_pos ⟨rfl, rfl⟩]; omega
    · rw [u2_eq, if_pos ⟨rfl, rfl⟩]
    · exact uv_s
  obtain ⟨o, w', h1, rfl, h2⟩ := (key (lv_args 0 [Value.ref 93, Value.int (Int32.ofInt (p : Int))]) rfl rfl).run
  exact ⟨w', h1, h2⟩
end
