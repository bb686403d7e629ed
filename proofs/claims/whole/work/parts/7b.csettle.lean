/-! settle of the class is rnd -/
theorem over_ng {p least greatest gradual x u : Int} {q : Nat} (hu : u = rU p least gradual 0 x) (hqx : (xbl q : Int) ≤ max 0 (x - u) + 1) (ho : greatest < (xbl q : Int) + u) (hl : least ≤ greatest) (hp : 1 ≤ p) : ¬ ((0 : Int) = 0 ∧ gradual ≠ 0 ∧ x < least) := by
  intro h
  unfold rU at hu
  rw [if_pos h] at hu
  have := h.2.2
  omega
theorem rq1_ge {m : Nat} {cut more sg mode : Int} (hm : m ≠ 0) : (xbl m : Int) - cut ≤ xbl (rq1 m cut more sg mode) := by
  have h1 : (xbl m : Int) - cut ≤ xbl (rq m cut) := by
    unfold rq
    split
    · rw [xbl_div]; omega
    · rw [xbl_pow _ _ hm]; omega
  have h2 := xbl_mono (show rq m cut ≤ rq1 m cut more sg mode from Nat.le_add_right _ _)
  omega
theorem und_x {p least gradual x u : Int} {q : Nat} (hu : u = rU p least gradual 0 x) (hg : gradual = 0) (hq : x - u ≤ (xbl q : Int)) (hx : True) (h : (xbl q : Int) + u < least) : x ≤ least - 1 := by omega
section
variable {w0 w : xW} {L Z : Nat} {S : Nat → Nat → Int} {V : Nat → Nat} {d h t r g : Nat}
set_option maxHeartbeats 8000000 in
theorem x_settle {mode : Int} (hR : cX w0 L Z S V w) (hg : kd g = 1) (ht : kd t = 2) (hk : kd h = 4) (hp : 1 ≤ S t 0 ∧ S t 0 ≤ 4096) (hs : S h 0 = 0 ∨ S h 0 = 1) (hmo3 : S h 3 = 0 ∨ S h 3 = 1) (hmo : 0 ≤ mode ∧ mode ≤ 4) (hm0 : V (h + 1) ≠ 0) (hmb : xbl (V (h + 1)) ≤ 600000) (hsc : -300000 ≤ S h 2 ∧ S h 2 ≤ 300000) (hl : -50000 ≤ S g 0 ∧ S g 0 ≤ S g 1 ∧ S g 1 ≤ 50000) (hgr : S g 2 = 0 ∨ S g 2 = 1) (hmc : ∀ u, u = rU (S t 0) (S g 0) (S g 2) 0 ((xbl (V (h + 1)) : Int) + S h 2) → S h 3 = 0 ∨ 0 < u - S h 2) : ∃ w', xRun (d + 9) 27 [Value.ref g, Value.ref t, Value.ref h, Value.int (Int32.ofInt mode)] w (.inl (some (.int (Int32.ofInt (rnd (S t 0) (S g 0) (S g 1) (S g 2) 0 (S h 0) mode (S h 3) (V (h + 1)) (S h 2) (S g 3)).2.2.2.1)))) w' ∧ ∃ S' V', cX w0 L Z S' V' w' ∧ sP S S' V V' g t (S h 0) (rnd (S t 0) (S g 0) (S g 1) (S g 2) 0 (S h 0) mode (S h 3) (V (h + 1)) (S h 2) (S g 3)) := by
  have key : ∀ lv, xld lv 0 = some (Value.ref g) → xld lv 1 = some (Value.ref t) → xld lv 2 = some (Value.ref h) → xld lv 3 = some (Value.int (Int32.ofInt mode)) → xEv (d + 9) 27 0 lv [] w (fun o w' => o = .inl (some (.int (Int32.ofInt (rnd (S t 0) (S g 0) (S g 1) (S g 2) 0 (S h 0) mode (S h 3) (V (h + 1)) (S h 2) (S g 3)).2.2.2.1))) ∧ ∃ S' V', cX w0 L Z S' V' w' ∧ sP S S' V V' g t (S h 0) (rnd (S t 0) (S g 0) (S g 1) (S g 2) 0 (S h 0) mode (S h 3) (V (h + 1)) (S h 2) (S g 3))) := by
    intro lv l0 l1 l2 l3
    refine i_27_0 (x := h) l2 ?_
    have hobj := hR.k4 hk
    have hrun := x_exp (d := d + 6) (h := h) hR hk
    refine i_27_1 hobj (Nat.le_of_ble_eq_true rfl) hrun ?_
    obtain ⟨x, hx⟩ : ∃ x : Int, x = (xbl (V (h + 1)) : Int) + S h 2 := ⟨_, rfl⟩
    rw [← hx]
    refine i_27_4 rfl ?_
    refine lgen1 (i := 4) (v := Value.int (Int32.ofInt x)) (fun lv lg ls => ?_)
    replace l0 := lg 0 _ rfl rfl l0
    replace l1 := lg 1 _ rfl rfl l1
    replace l2 := lg 2 _ rfl rfl l2
    replace l3 := lg 3 _ rfl rfl l3
    have l4 := ls
    refine i_27_6 (x := g) l0 ?_
    refine i_27_7 (x := Int32.ofInt x) l4 ?_
    refine i_27_9 (x := t) l1 ?_
    refine i_27_10 (v := Value.int (Int32.ofInt (S t 0))) (hR.k2 ht) rfl ?_
    have hobj := hR.k1 hg
    have hrun := x_unit (d := d + 8) (g := g) (x := x) (p := S t 0) hR hg ⟨by omega, by omega⟩ ⟨by omega, by omega⟩ hgr
    refine i_27_13 hobj (Nat.le_of_ble_eq_true rfl) hrun ?_
    have hub := rU_b (p := S t 0) (least := S g 0) (gradual := S g 2) (free := 0) (x := x)
    obtain ⟨u, hu⟩ : ∃ u : Int, u = rU (S t 0) (S g 0) (S g 2) 0 x := ⟨_, rfl⟩
    rw [← hu] at hub ⊢
    replace hmc := hmc u (by rw [hu, hx])
    have hub2 : -1000000 ≤ u ∧ u ≤ 1000000 := by omega
    have hsc2 : -1000000 ≤ S h 2 ∧ S h 2 ≤ 1000000 := by omega
    have hxb : -2000000 ≤ x ∧ x ≤ 2000000 := by omega
    have hxu : x - u ≤ S t 0 := hub.1
    clear hub
    obtain ⟨q, hq⟩ : ∃ q, q = rq1 (V (h + 1)) (u - S h 2) (S h 3) (S h 0) mode := ⟨_, rfl⟩
    have hqx := rq1_bl (m := V (h + 1)) (cut := u - S h 2) (more := S h 3) (sg := S h 0) (mode := mode)
    rw [← hq, show (xbl (V (h + 1)) : Int) - (u - S h 2) = x - u by omega] at hqx
    have hqk : x - u ≤ (xbl q : Int) := by have := rq1_ge (m := V (h + 1)) (cut := u - S h 2) (more := S h 3) (sg := S h 0) (mode := mode) hm0; rw [← hq] at this; omega
    have hqb : (xbl q : Int) ≤ 5000 := by omega
    have tail : ∀ ch lv, ch = rway (rE (V (h + 1)) (u - S h 2) (S h 3)) (rG (V (h + 1)) (u - S h 2) (S h 3) (S h 0) mode) → xld lv 0 = some (Value.ref g) → xld lv 1 = some (Value.ref t) → xld lv 2 = some (Value.ref h) → xld lv 3 = some (Value.int (Int32.ofInt mode)) → xld lv 4 = some (Value.int (Int32.ofInt x)) → xld lv 5 = some (Value.int (Int32.ofInt u)) → xld lv 6 = some (Value.int (Int32.ofInt (bb (rG (V (h + 1)) (u - S h 2) (S h 3) (S h 0) mode)))) → xEv (d + 9) 27 50 lv [.int (Int32.ofInt ch)] w (fun o w' => o = .inl (some (.int (Int32.ofInt (rnd (S t 0) (S g 0) (S g 1) (S g 2) 0 (S h 0) mode (S h 3) (V (h + 1)) (S h 2) (S g 3)).2.2.2.1))) ∧ ∃ S' V', cX w0 L Z S' V' w' ∧ sP S S' V V' g t (S h 0) (rnd (S t 0) (S g 0) (S g 1) (S g 2) 0 (S h 0) mode (S h 3) (V (h + 1)) (S h 2) (S g 3))) := by
      intro ch lv hch l0 l1 l2 l3 l4 l5 l6
      have hcb : -1 ≤ ch ∧ ch ≤ 1 := by rw [hch]; exact rway_b _ _
      refine i_27_50 rfl ?_
      refine lgen1 (i := 7) (v := Value.int (Int32.ofInt ch)) (fun lv lg ls => ?_)
      replace l0 := lg 0 _ rfl rfl l0
      replace l1 := lg 1 _ rfl rfl l1
      replace l2 := lg 2 _ rfl rfl l2
      replace l3 := lg 3 _ rfl rfl l3
      replace l4 := lg 4 _ rfl rfl l4
      replace l5 := lg 5 _ rfl rfl l5
      replace l6 := lg 6 _ rfl rfl l6
      have l7 := ls
      refine i_27_52 (x := t) l1 ?_
      refine i_27_53 (x := h) l2 ?_
      refine i_27_54 (x := Int32.ofInt u) l5 ?_
      refine i_27_56 (x := Int32.ofInt (bb (rG (V (h + 1)) (u - S h 2) (S h 3) (S h 0) mode))) l6 ?_
      have hobj := hR.k2 ht
      obtain ⟨w, hrun, S1, V1, hR, hB⟩ := x_mult (d := d + 3) (t := t) (h := h) (unit := u) (og := bb (rG (V (h + 1)) (u - S h 2) (S h 3) (S h 0) mode)) hR ht hk (kd_ne ht hk (by decide)) (kd_ne ht (kd_rl hk) (by decide)) (kd_ne (kd_rg ht) hk (by decide)) hp hs (bb_01 _) hm0 hmb hsc2 hub2 (by rw [← hx]; exact hxu)
      rw [show rq (V (h + 1)) (u - S h 2) + (bb (rG (V (h + 1)) (u - S h 2) (S h 3) (S h 0) mode)).toNat = q from hq.symm] at hB
      obtain ⟨b1, b2, b3, b4, b5⟩ := hB
      have fg0 : S1 g 0 = S g 0 := b4 g 0 (fun e => (kd_ne ht hg (by decide)).symm e.1)
      have fg1 : S1 g 1 = S g 1 := b4 g 1 (fun e => (kd_ne ht hg (by decide)).symm e.1)
      have fg2 : S1 g 2 = S g 2 := b4 g 2 (fun e => (kd_ne ht hg (by decide)).symm e.1)
      have fg3 : S1 g 3 = S g 3 := b4 g 3 (fun e => (kd_ne ht hg (by decide)).symm e.1)
      have fh0 : S1 h 0 = S h 0 := b4 h 0 (fun e => (kd_ne ht hk (by decide)).symm e.1)
      have fh2 : S1 h 2 = S h 2 := b4 h 2 (fun e => (kd_ne ht hk (by decide)).symm e.1)
      have fh3 : S1 h 3 = S h 3 := b4 h 3 (fun e => (kd_ne ht hk (by decide)).symm e.1)
      have ft0 : S1 t 0 = S t 0 := b4 t 0 (fun e => by have := e.2; omega)
      have fV : V1 (h + 1) = V (h + 1) := b5 _ (fun e => (kd_ne ht hk (by decide)) (by omega))
      refine i_27_58 hobj (Nat.le_of_ble_eq_true rfl) hrun ?_
      by_cases hq0 : q = 0
      · rw [if_pos hq0] at b1
        have hch1 : ch = -1 := by rw [hch]; exact q0_way hm0 (by rw [← hq]; exact hq0)
        have eD : rD (S t 0) (S g 0) (S g 1) (S g 2) 0 (S h 0) mode x (S h 3) (V (h + 1)) q u ch (S g 3) = (2, 0, 0, -1, S g 3) := by unfold rD; rw [if_neg (fun e => e.2.1 hq0), if_pos hq0]
        refine st_q0 hR hg hk ht (kd_ne ht hk (by decide)) (kd_ne ht hg (by decide)) (kd_ne hg hk (by decide)) (by rw [fh0]; exact hs) (by rw [fg2]; exact hgr) (by rw [fg0]; omega) (by rw [fg1]; omega) hxb hcb b1 l0 l1 l2 l3 l4 l7 (fun w' z hX hz => ?_)
        rw [rnd_eq hx hu hq hch eD]
        refine ⟨congrArg (fun z : Int => Sum.inl (some (Value.int (Int32.ofInt z)))) (show z = (if S h 0 = 0 then -1 else -(-1)) by rw [hz, fh0, hch1]), _, _, hX, ?_⟩
        refine ⟨by rw [u2_eq, if_neg (fun e => absurd e.2 (by decide))]; exact b1, by rw [u2_eq, if_neg (fun e => absurd e.2 (by decide))]; exact b2, fun e => absurd (show (2 : Int) = 3 from e) (by decide), ?_, fun b j h1 h2 => by rw [u2_eq, if_neg h2]; exact b4 b j h1, fun k hk => (b5 k hk)⟩
        show (u2 S1 g 3 (rFl 0 (S1 g 2) x (S1 g 0) ch (S1 g 3))) g 3 = rFl 0 (S g 2) x (S g 0) (-1) (S g 3)
        rw [u2_eq, if_pos ⟨rfl, rfl⟩, fg2, fg0, fg3, hch1]
      · rw [if_neg hq0] at b1
        replace b3 := b3 hq0
        by_cases hov : S g 1 < (xbl q : Int) + u
        · have hng := over_ng hu hqx hov hl.2.1 hp.1
          rcases Bool.eq_false_or_eq_true (far mode (S h 0)) with hf | hf
          · have eD : rD (S t 0) (S g 0) (S g 1) (S g 2) 0 (S h 0) mode x (S h 3) (V (h + 1)) q u ch (S g 3) = (1, 0, 0, 1, zor (S g 3) 2) := by unfold rD; rw [if_pos ⟨rfl, hq0, hov⟩, if_pos hf]
            refine st_o1 hR hg hk ht (kd_ne ht hk (by decide)) (kd_ne ht hg (by decide)) (kd_ne hg hk (by decide)) (by rw [fh0]; exact hs) (by rw [fg2]; exact hgr) (by rw [fg0]; omega) (by rw [fg1]; omega) hxb hcb (by rw [b3.1]; omega) (by rw [ft0]; exact hp) hmo b1 (by rw [b3.1, fg1]; omega) (by rw [fh0]; exact hf) l0 l1 l2 l3 l4 l7 (fun w' z hX hz => ?_)
            rw [rnd_eq hx hu hq hch eD]
            refine ⟨congrArg (fun z : Int => Sum.inl (some (Value.int (Int32.ofInt z)))) (show z = (if S h 0 = 0 then 1 else -1) by rw [hz, fh0]), _, _, hX, ?_⟩
            refine ⟨by rw [u2_eq, if_neg (fun e => absurd e.2 (by decide)), u2_eq, if_neg (fun e => absurd e.2 (by decide)), u2_eq, if_pos ⟨rfl, rfl⟩], by rw [u2_eq, if_neg (fun e => absurd e.2 (by decide)), u2_eq, if_pos ⟨rfl, rfl⟩]; exact fh0, fun e => absurd (show (1 : Int) = 3 from e) (by decide), ?_, fun b j h1 h2 => by rw [u2_eq, if_neg h2, u2_eq, if_neg (fun e => h1 ⟨e.1, by rw [e.2]; decide⟩), u2_eq, if_neg (fun e => h1 ⟨e.1, by rw [e.2]; decide⟩), u2_eq, if_neg h2]; exact b4 b j h1, fun k hk => (b5 k hk)⟩
            show (u2 (u2 (u2 (u2 S1 g 3 (zor (S1 g 3) 2)) t 1 1) t 2 (S1 h 0)) g 3 (zor (zor (S1 g 3) 2) 1)) g 3 = rFl 0 (S g 2) x (S g 0) 1 (zor (S g 3) 2)
            unfold rFl; rw [u2_eq, if_pos ⟨rfl, rfl⟩, if_pos (by decide), if_neg hng, fg3]
          · have eD : rD (S t 0) (S g 0) (S g 1) (S g 2) 0 (S h 0) mode x (S h 3) (V (h + 1)) q u ch (S g 3) = (3, xbl (2 ^ (S t 0).toNat - 1) + (S g 1 - S t 0), nrm (2 ^ (S t 0).toNat - 1) (S t 0), -1, zor (S g 3) 2) := by unfold rD; rw [if_pos ⟨rfl, hq0, hov⟩, if_neg (by rw [hf]; decide)]
            refine st_o0 hR hg hk ht (kd_ne ht hk (by decide)) (kd_ne ht hg (by decide)) (kd_ne hg hk (by decide)) (by rw [fh0]; exact hs) (by rw [fg2]; exact hgr) (by rw [fg0]; omega) (by rw [fg1]; omega) hxb hcb (by rw [b3.1]; omega) (by rw [ft0]; exact hp) hmo b1 (by rw [b3.1, fg1]; omega) (by rw [fh0]; exact hf) l0 l1 l2 l3 l4 l7 (fun w' z hX hz => ?_)
            rw [rnd_eq hx hu hq hch eD]
            refine ⟨congrArg (fun z : Int => Sum.inl (some (Value.int (Int32.ofInt z)))) (show z = (if S h 0 = 0 then -1 else -(-1)) by rw [hz, fh0]), _, _, hX, ?_⟩
            refine ⟨by rw [u2_eq, if_neg (fun e => absurd e.2 (by decide)), u2_eq, if_neg (fun e => absurd e.2 (by decide)), u2_eq, if_neg (fun e => absurd e.2 (by decide)), u2_eq, if_pos ⟨rfl, rfl⟩], by rw [u2_eq, if_neg (fun e => absurd e.2 (by decide)), u2_eq, if_neg (fun e => absurd e.2 (by decide)), u2_eq, if_pos ⟨rfl, rfl⟩]; exact fh0, fun _ => ⟨show (u2 (u2 (u2 (u2 (u2 S1 g 3 (zor (S1 g 3) 2)) t 1 3) t 2 (S1 h 0)) t 3 (S1 g 1)) g 3 (zor (zor (S1 g 3) 2) 1)) t 3 = xbl (2 ^ (S t 0).toNat - 1) + (S g 1 - S t 0) from by rw [u2_eq, if_neg (fun e => (kd_ne ht hg (by decide)) e.1), u2_eq, if_pos ⟨rfl, rfl⟩, fg1, xbl_ones]; omega, by rw [uv_s, ft0, nrm_ones hp.1]⟩, ?_, fun b j h1 h2 => by rw [u2_eq, if_neg h2, u2_eq, if_neg (fun e => h1 ⟨e.1, by rw [e.2]; decide⟩), u2_eq, if_neg (fun e => h1 ⟨e.1, by rw [e.2]; decide⟩), u2_eq, if_neg (fun e => h1 ⟨e.1, by rw [e.2]; decide⟩), u2_eq, if_neg h2]; exact b4 b j h1, fun k hk => (uv_n hk).trans ((b5 k hk))⟩
            show (u2 (u2 (u2 (u2 (u2 S1 g 3 (zor (S1 g 3) 2)) t 1 3) t 2 (S1 h 0)) t 3 (S1 g 1)) g 3 (zor (zor (S1 g 3) 2) 1)) g 3 = rFl 0 (S g 2) x (S g 0) (-1) (zor (S g 3) 2)
            unfold rFl; rw [u2_eq, if_pos ⟨rfl, rfl⟩, if_pos (by decide), if_neg hng, fg3]
        · replace hov := Int.not_lt.mp hov
          by_cases hgr0 : S g 2 = 0
          · by_cases hun : (xbl q : Int) + u < S g 0
            · have hxl : x ≤ S g 0 - 1 := und_x hu hgr0 hqk trivial hun
              rcases Bool.eq_false_or_eq_true (upU (V (h + 1)) x (S g 0) (S h 3) (S h 0) mode) with hf | hf
              · have eD : rD (S t 0) (S g 0) (S g 1) (S g 2) 0 (S h 0) mode x (S h 3) (V (h + 1)) q u ch (S g 3) = (3, xbl 1 + (S g 0 - 1), nrm 1 (S t 0), 1, zor (S g 3) 4) := by unfold rD; rw [if_neg (fun e => absurd e.2.2 (Int.not_lt.mpr hov)), if_neg hq0, if_pos ⟨rfl, hgr0, hun⟩, if_pos hf]
                refine st_u1 hR hg hk ht (kd_ne ht hk (by decide)) (kd_ne ht hg (by decide)) (kd_ne hg hk (by decide)) (by rw [fh0]; exact hs) (by rw [fg2]; exact hgr) (by rw [fg0]; omega) (by rw [fg1]; omega) hxb hcb (by rw [b3.1]; omega) (by rw [ft0]; exact hp) hmo (by rw [fh3]; exact hmo3) (by rw [fV]; exact hm0) (by rw [fV]; exact hmb) (by rw [fh2]; exact hsc2) (by rw [fV, fh2, fg0, ← hx]; exact hxl) b1 (by rw [b3.1, fg1]; omega) (by rw [fg2]; exact hgr0) (by rw [b3.1, fg0]; omega) (by rw [fV, fh2, fg0, fh3, fh0, ← hx]; exact hf) l0 l1 l2 l3 l4 l7 (fun w' z hX hz => ?_)
                rw [rnd_eq hx hu hq hch eD]
                refine ⟨congrArg (fun z : Int => Sum.inl (some (Value.int (Int32.ofInt z)))) (show z = (if S h 0 = 0 then 1 else -1) by rw [hz, fh0]), _, _, hX, ?_⟩
                refine ⟨by rw [u2_eq, if_neg (fun e => absurd e.2 (by decide)), u2_eq, if_neg (fun e => absurd e.2 (by decide)), u2_eq, if_neg (fun e => absurd e.2 (by decide)), u2_eq, if_pos ⟨rfl, rfl⟩], by rw [u2_eq, if_neg (fun e => absurd e.2 (by decide)), u2_eq, if_neg (fun e => absurd e.2 (by decide)), u2_eq, if_pos ⟨rfl, rfl⟩]; exact fh0, fun _ => ⟨show (u2 (u2 (u2 (u2 (u2 S1 g 3 (zor (S1 g 3) 4)) t 1 3) t 2 (S1 h 0)) t 3 (S1 g 0)) g 3 (zor (zor (S1 g 3) 4) 1)) t 3 = xbl 1 + (S g 0 - 1) from by rw [u2_eq, if_neg (fun e => (kd_ne ht hg (by decide)) e.1), u2_eq, if_pos ⟨rfl, rfl⟩, fg0, show xbl 1 = 1 from rfl]; omega, by rw [uv_s, ft0, show (1 : Nat) = 2 ^ 0 from rfl, nrm_pow hp.1 (by omega)]⟩, ?_, fun b j h1 h2 => by rw [u2_eq, if_neg h2, u2_eq, if_neg (fun e => h1 ⟨e.1, by rw [e.2]; decide⟩), u2_eq, if_neg (fun e => h1 ⟨e.1, by rw [e.2]; decide⟩), u2_eq, if_neg (fun e => h1 ⟨e.1, by rw [e.2]; decide⟩), u2_eq, if_neg h2]; exact b4 b j h1, fun k hk => (uv_n hk).trans ((b5 k hk))⟩
                show (u2 (u2 (u2 (u2 (u2 S1 g 3 (zor (S1 g 3) 4)) t 1 3) t 2 (S1 h 0)) t 3 (S1 g 0)) g 3 (zor (zor (S1 g 3) 4) 1)) g 3 = rFl 0 (S g 2) x (S g 0) 1 (zor (S g 3) 4)
                unfold rFl; rw [u2_eq, if_pos ⟨rfl, rfl⟩, if_pos (by decide), if_neg (fun e => e.2.1 hgr0), fg3]
              · have eD : rD (S t 0) (S g 0) (S g 1) (S g 2) 0 (S h 0) mode x (S h 3) (V (h + 1)) q u ch (S g 3) = (2, 0, 0, -1, zor (S g 3) 4) := by unfold rD; rw [if_neg (fun e => absurd e.2.2 (Int.not_lt.mpr hov)), if_neg hq0, if_pos ⟨rfl, hgr0, hun⟩, if_neg (by rw [hf]; decide)]
                refine st_u0 hR hg hk ht (kd_ne ht hk (by decide)) (kd_ne ht hg (by decide)) (kd_ne hg hk (by decide)) (by rw [fh0]; exact hs) (by rw [fg2]; exact hgr) (by rw [fg0]; omega) (by rw [fg1]; omega) hxb hcb (by rw [b3.1]; omega) (by rw [ft0]; exact hp) hmo (by rw [fh3]; exact hmo3) (by rw [fV]; exact hm0) (by rw [fV]; exact hmb) (by rw [fh2]; exact hsc2) (by rw [fV, fh2, fg0, ← hx]; exact hxl) b1 (by rw [b3.1, fg1]; omega) (by rw [fg2]; exact hgr0) (by rw [b3.1, fg0]; omega) (by rw [fV, fh2, fg0, fh3, fh0, ← hx]; exact hf) l0 l1 l2 l3 l4 l7 (fun w' z hX hz => ?_)
                rw [rnd_eq hx hu hq hch eD]
                refine ⟨congrArg (fun z : Int => Sum.inl (some (Value.int (Int32.ofInt z)))) (show z = (if S h 0 = 0 then -1 else -(-1)) by rw [hz, fh0]), _, _, hX, ?_⟩
                refine ⟨by rw [u2_eq, if_neg (fun e => absurd e.2 (by decide)), u2_eq, if_neg (fun e => absurd e.2 (by decide)), u2_eq, if_pos ⟨rfl, rfl⟩], by rw [u2_eq, if_neg (fun e => absurd e.2 (by decide)), u2_eq, if_pos ⟨rfl, rfl⟩]; exact fh0, fun e => absurd (show (2 : Int) = 3 from e) (by decide), ?_, fun b j h1 h2 => by rw [u2_eq, if_neg h2, u2_eq, if_neg (fun e => h1 ⟨e.1, by rw [e.2]; decide⟩), u2_eq, if_neg (fun e => h1 ⟨e.1, by rw [e.2]; decide⟩), u2_eq, if_neg h2]; exact b4 b j h1, fun k hk => (b5 k hk)⟩
                show (u2 (u2 (u2 (u2 S1 g 3 (zor (S1 g 3) 4)) t 1 2) t 2 (S1 h 0)) g 3 (zor (zor (S1 g 3) 4) 1)) g 3 = rFl 0 (S g 2) x (S g 0) (-1) (zor (S g 3) 4)
                unfold rFl; rw [u2_eq, if_pos ⟨rfl, rfl⟩, if_pos (by decide), if_neg (fun e => e.2.1 hgr0), fg3]
            · replace hun := Int.not_lt.mp hun
              have eD : rD (S t 0) (S g 0) (S g 1) (S g 2) 0 (S h 0) mode x (S h 3) (V (h + 1)) q u ch (S g 3) = (3, (xbl q : Int) + u, nrm q (S t 0), ch, S g 3) := by unfold rD; rw [if_neg (fun e => absurd e.2.2 (Int.not_lt.mpr hov)), if_neg hq0, if_neg (fun e => absurd e.2.2 (Int.not_lt.mpr hun))]
              refine st_n2 hR hg hk ht (kd_ne ht hk (by decide)) (kd_ne ht hg (by decide)) (kd_ne hg hk (by decide)) (by rw [fh0]; exact hs) (by rw [fg2]; exact hgr) (by rw [fg0]; omega) (by rw [fg1]; omega) hxb hcb (by rw [b3.1]; omega) b1 (by rw [b3.1, fg1]; omega) (by rw [fg2]; exact hgr0) (by rw [b3.1, fg0]; omega) l0 l1 l2 l3 l4 l7 (fun w' z hX hz => ?_)
              rw [rnd_eq hx hu hq hch eD]
              refine ⟨congrArg (fun z : Int => Sum.inl (some (Value.int (Int32.ofInt z)))) (show z = (if S h 0 = 0 then ch else -ch) by rw [hz, fh0]), _, _, hX, ?_⟩
              refine ⟨by rw [u2_eq, if_neg (fun e => absurd e.2 (by decide))]; exact b1, by rw [u2_eq, if_neg (fun e => absurd e.2 (by decide))]; exact b2, fun _ => ⟨by rw [u2_eq, if_neg (fun e => (kd_ne ht hg (by decide)) e.1)]; exact b3.1, b3.2⟩, ?_, fun b j h1 h2 => by rw [u2_eq, if_neg h2]; exact b4 b j h1, fun k hk => (b5 k hk)⟩
              show (u2 S1 g 3 (rFl 0 (S1 g 2) x (S1 g 0) ch (S1 g 3))) g 3 = rFl 0 (S g 2) x (S g 0) ch (S g 3)
              rw [u2_eq, if_pos ⟨rfl, rfl⟩, fg2, fg0, fg3]
          · have eD : rD (S t 0) (S g 0) (S g 1) (S g 2) 0 (S h 0) mode x (S h 3) (V (h + 1)) q u ch (S g 3) = (3, (xbl q : Int) + u, nrm q (S t 0), ch, S g 3) := by unfold rD; rw [if_neg (fun e => absurd e.2.2 (Int.not_lt.mpr hov)), if_neg hq0, if_neg (fun e => hgr0 e.2.1)]
            refine st_n1 hR hg hk ht (kd_ne ht hk (by decide)) (kd_ne ht hg (by decide)) (kd_ne hg hk (by decide)) (by rw [fh0]; exact hs) (by rw [fg2]; exact hgr) (by rw [fg0]; omega) (by rw [fg1]; omega) hxb hcb (by rw [b3.1]; omega) b1 (by rw [b3.1, fg1]; omega) (by rw [fg2]; exact hgr0) l0 l1 l2 l3 l4 l7 (fun w' z hX hz => ?_)
            rw [rnd_eq hx hu hq hch eD]
            refine ⟨congrArg (fun z : Int => Sum.inl (some (Value.int (Int32.ofInt z)))) (show z = (if S h 0 = 0 then ch else -ch) by rw [hz, fh0]), _, _, hX, ?_⟩
            refine ⟨by rw [u2_eq, if_neg (fun e => absurd e.2 (by decide))]; exact b1, by rw [u2_eq, if_neg (fun e => absurd e.2 (by decide))]; exact b2, fun _ => ⟨by rw [u2_eq, if_neg (fun e => (kd_ne ht hg (by decide)) e.1)]; exact b3.1, b3.2⟩, ?_, fun b j h1 h2 => by rw [u2_eq, if_neg h2]; exact b4 b j h1, fun k hk => (b5 k hk)⟩
            show (u2 S1 g 3 (rFl 0 (S1 g 2) x (S1 g 0) ch (S1 g 3))) g 3 = rFl 0 (S g 2) x (S g 0) ch (S g 3)
            rw [u2_eq, if_pos ⟨rfl, rfl⟩, fg2, fg0, fg3]
    refine i_27_16 rfl ?_
    refine lgen1 (i := 5) (v := Value.int (Int32.ofInt u)) (fun lv lg ls => ?_)
    replace l4 := lg 4 _ rfl rfl l4
    replace l0 := lg 0 _ rfl rfl l0
    replace l1 := lg 1 _ rfl rfl l1
    replace l2 := lg 2 _ rfl rfl l2
    replace l3 := lg 3 _ rfl rfl l3
    have l5 := ls
    refine i_27_18 (x := h) l2 ?_
    refine i_27_19 (x := Int32.ofInt u) l5 ?_
    refine i_27_21 (x := Int32.ofInt mode) l3 ?_
    have hobj := hR.k4 hk
    have hrun := x_rO (d := d + 4) (h := h) (unit := u) (mode := mode) hR hk hub2 hsc2 hmo3 hs hmo
    rw [gU_rG hmc] at hrun
    refine i_27_22 hobj (Nat.le_of_ble_eq_true rfl) hrun ?_
    refine i_27_25 rfl ?_
    refine lgen1 (i := 6) (v := Value.int (Int32.ofInt (bb (rG (V (h + 1)) (u - S h 2) (S h 3) (S h 0) mode)))) (fun lv lg ls => ?_)
    replace l5 := lg 5 _ rfl rfl l5
    replace l4 := lg 4 _ rfl rfl l4
    replace l0 := lg 0 _ rfl rfl l0
    replace l1 := lg 1 _ rfl rfl l1
    replace l2 := lg 2 _ rfl rfl l2
    replace l3 := lg 3 _ rfl rfl l3
    have l6 := ls
    refine i_27_27 (x := h) l2 ?_
    refine i_27_28 (x := Int32.ofInt u) l5 ?_
    have hobj := hR.k4 hk
    have hrun := x_isM (d := d + 5) (h := h) (unit := u) hR hk hub2 hsc2 hmo3
    rw [isM_rE] at hrun
    refine i_27_30 hobj (Nat.le_of_ble_eq_true rfl) hrun ?_
    refine i_27_33 (zb_f fun c10 => ?_) (zb_t fun c10 => ?_)
    · refine i_27_40 (x := Int32.ofInt (bb (rG (V (h + 1)) (u - S h 2) (S h 3) (S h 0) mode))) l6 ?_
      refine i_27_42 (zb_f fun c11 => ?_) (zb_t fun c11 => ?_)
      · refine i_27_49 ?_
        exact tail (-1) lv (by rw [c10, c11]; rfl) l0 l1 l2 l3 l4 l5 l6
      · refine i_27_45 ?_
        refine i_27_46 ?_
        exact tail 1 lv (by rw [c10, c11]; rfl) l0 l1 l2 l3 l4 l5 l6
    · refine i_27_36 ?_
      refine i_27_37 ?_
      exact tail 0 lv (by rw [c10]; rfl) l0 l1 l2 l3 l4 l5 l6
  obtain ⟨o, w', h1, rfl, h2⟩ := (key (lv_args 0 [Value.ref g, Value.ref t, Value.ref h, Value.int (Int32.ofInt mode)]) rfl rfl rfl rfl).run
  exact ⟨w', h1, h2⟩
end
