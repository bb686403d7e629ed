/-! rooted of the reference; checks -/
def rMo (p n e : Int) (v : Nat) : Int := max 0 (n * (p + 3) - xbl v) + (e - max 0 (n * (p + 3) - xbl v)) % n
def rtX (p n e : Int) (v : Nat) : Nat := v * 2 ^ (rMo p n e v).toNat
def oRt (S : Nat → Nat → Int) (r : Nat) (e n sg mode : Int) (v g : Nat) : OO := oR (S 153 r) (S 128 17) (S 128 18) (S 128 20) sg mode (if g ^ n.toNat = rtX (S 153 r) n e v then 0 else 1) g ((e - rMo (S 153 r) n e v) / n) (S 128 19)
theorem o_ddiv {a b : Int} (ha : -2147483648 ≤ a ∧ a < 2147483648) (hb : 0 < b ∧ b < 2147483648) (hd : a % b = 0) : Int32.ofInt a / Int32.ofInt b = Int32.ofInt (a / b) := by
  rw [o_tdiv ha hb, Int.tdiv_eq_ediv_of_dvd (Int.dvd_of_emod_eq_zero hd)]
theorem isRt.le {v n g : Nat} (h : isRt v n g) (hn : 1 ≤ n) : g ≤ v := by
  rcases Nat.eq_zero_or_pos g with e | e
  · omega
  · have h1 : g ^ 1 ≤ g ^ n := Nat.pow_le_pow_right e hn
    rw [Nat.pow_one] at h1
    exact Nat.le_trans h1 h.1
theorem isRt.nz {v n g : Nat} (h : isRt v n g) (hv : v ≠ 0) : g ≠ 0 := by
  rintro rfl
  have := h.2
  rw [Nat.zero_add, Nat.one_pow] at this
  omega
set_option maxHeartbeats 8000000 in
theorem s_rooted {d : Nat} {w0 w : xW} {S : Nat → Nat → Int} {V : Nat → Nat} {r e n sg mode : Int} {v : Nat} (hR : mR w0 S V w) (hI : mI S V) (hv : V 129 = v) (hv0 : v ≠ 0) (hr : 0 ≤ r ∧ r < 16) (hn : 1 ≤ n ∧ n ≤ 32) (hs : sg = 0 ∨ sg = 1) (hmode : 0 ≤ mode ∧ mode ≤ 4) (he : -200000 ≤ e ∧ e ≤ 200000) (hvb : xbl v ≤ 100000) : ∃ w' g, isRt (rtX (S 153 r.toNat) n e v) n.toNat g ∧ xRun (d + 5) 204 [Value.ref 128, Value.int (Int32.ofInt r), Value.int (Int32.ofInt e), Value.int (Int32.ofInt n), Value.int (Int32.ofInt sg), Value.int (Int32.ofInt mode)] w (.inl (some (.int (Int32.ofInt (oRt S r.toNat e n sg mode v g).2.2.2.2.1)))) w' ∧ ∃ S' V', mR w0 S' V' w' ∧ oP S S' V V' r.toNat (oRt S r.toNat e n sg mode v g) := by
  obtain ⟨hp_r, -⟩ := hI.1 r.toNat (by omega)
  have hi_l := hI.2.1
  have hi_g := hI.2.2.1
  have hi_f := hI.2.2.2
  have hnp : 0 ≤ n * (S 153 r.toNat + 3) ∧ n * (S 153 r.toNat + 3) ≤ 32 * 4099 := ⟨Int.mul_nonneg (by omega) (by omega), Int.mul_le_mul (by omega) (by omega) (by omega) (by decide)⟩
  have key : xEv (d + 5) 204 0 (lv_args 0 [Value.ref 128, Value.int (Int32.ofInt r), Value.int (Int32.ofInt e), Value.int (Int32.ofInt n), Value.int (Int32.ofInt sg), Value.int (Int32.ofInt mode)]) [] w (fun o w' => ∃ g, isRt (rtX (S 153 r.toNat) n e v) n.toNat g ∧ o = .inl (some (.int (Int32.ofInt (oRt S r.toNat e n sg mode v g).2.2.2.2.1))) ∧ ∃ S' V', mR w0 S' V' w' ∧ oP S S' V V' r.toNat (oRt S r.toNat e n sg mode v g)) := by
    generalize hlv : lv_args 0 [Value.ref 128, Value.int (Int32.ofInt r), Value.int (Int32.ofInt e), Value.int (Int32.ofInt n), Value.int (Int32.ofInt sg), Value.int (Int32.ofInt mode)] = lv
    have l0 : xld lv 0 = some (Value.ref 128) := by subst hlv; rfl
    have l1 : xld lv 1 = some (Value.int (Int32.ofInt r)) := by subst hlv; rfl
    have l2 : xld lv 2 = some (Value.int (Int32.ofInt e)) := by subst hlv; rfl
    have l3 : xld lv 3 = some (Value.int (Int32.ofInt n)) := by subst hlv; rfl
    have l4 : xld lv 4 = some (Value.int (Int32.ofInt sg)) := by subst hlv; rfl
    have l5 : xld lv 5 = some (Value.int (Int32.ofInt mode)) := by subst hlv; rfl
    clear hlv
    refine i_204_0 ?_
    refine i_204_1 (x := Int32.ofInt n) l3 ?_
    refine i_204_2 (x := 128) l0 ?_
    refine i_204_3 (v := Value.ref 153) hR.c128 rfl ?_
    refine i_204_6 (x := Int32.ofInt r) l1 ?_
    refine i_204_7 (v := Value.int (Int32.ofInt (S 153 ((r).toNat)))) (hR.row a153) (ix0 (T := r) (by omega) (by omega)) (ix1 (T := r) (by omega) (by omega) (by omega)) (ra (T := r) (by omega) (by omega) rfl) ?_
    refine i_204_8 ?_
    refine i_204_9 (c := Int32.ofInt ((S 153 ((r).toNat)) + 3)) (o_add (S 153 ((r).toNat)) 3) ?_
    refine i_204_10 (c := Int32.ofInt (n * ((S 153 ((r).toNat)) + 3))) (o_mul n ((S 153 ((r).toNat)) + 3)) ?_
    refine i_204_11 (x := 128) l0 ?_
    refine i_204_12 (v := Value.ref 129) hR.c128 rfl ?_
    obtain ⟨fs, hobj⟩ := hR.obj (h := 129) (iNw (h := 129) (by decide) (by decide) (by decide))
    have hrun := r_bits (d := d + 2) (v := v) hR (iNw (h := 129) (by decide) (by decide) (by decide)) (hv)
    refine i_204_15 hobj (Nat.le_of_ble_eq_true rfl) hrun ?_
    refine i_204_18 (c := Int32.ofInt ((n * ((S 153 ((r).toNat)) + 3)) - (xbl v : Int))) (o_sub (n * ((S 153 ((r).toNat)) + 3)) (xbl v : Int)) ?_
    have hrun := s_max (d := d + 3) (w := w) (a := 0) (b := (n * ((S 153 ((r).toNat)) + 3)) - (xbl v : Int)) ⟨by decide, by decide⟩ ⟨by omega, by omega⟩
    refine i_204_19 (Nat.le_of_ble_eq_true rfl) hrun ?_
    refine i_204_22 rfl ?_
    refine lgen1 (i := 6) (v := Value.int (Int32.ofInt (max 0 ((n * ((S 153 ((r).toNat)) + 3)) - (xbl v : Int))))) (fun lv lg ls => ?_)
    replace l0 := lg 0 _ rfl rfl l0
    replace l1 := lg 1 _ rfl rfl l1
    replace l2 := lg 2 _ rfl rfl l2
    replace l3 := lg 3 _ rfl rfl l3
    replace l4 := lg 4 _ rfl rfl l4
    replace l5 := lg 5 _ rfl rfl l5
    have l6 := ls
    have hk := Int.emod_nonneg (e - (max 0 ((n * ((S 153 ((r).toNat)) + 3)) - (xbl v : Int)))) (show n ≠ 0 by omega)
    have hk2 := Int.emod_lt_of_pos (e - (max 0 ((n * ((S 153 ((r).toNat)) + 3)) - (xbl v : Int)))) (show 0 < n by omega)
    obtain ⟨k, hkk⟩ : ∃ k : Nat, (k : Int) = (e - (max 0 ((n * ((S 153 ((r).toNat)) + 3)) - (xbl v : Int)))) % n := ⟨((e - (max 0 ((n * ((S 153 ((r).toNat)) + 3)) - (xbl v : Int)))) % n).toNat, by omega⟩
    refine ro_more (by omega) hn k (max 0 ((n * ((S 153 ((r).toNat)) + 3)) - (xbl v : Int))) _ (by omega) (by omega) hkk.symm l0 l1 l2 l3 l4 l5 l6 ?_
    intro lv l0 l1 l2 l3 l4 l5 l6
    obtain ⟨mo, hmo⟩ : ∃ mo, mo = rMo (S 153 r.toNat) n e v := ⟨_, rfl⟩
    have hmo2 : max 0 ((n * ((S 153 ((r).toNat)) + 3)) - (xbl v : Int)) + (k : Int) = mo := by rw [hmo, hkk]; rfl
    rw [hmo2] at l6
    have hdiv : (e - mo) % n = 0 := by
      have h1 := Int.emod_add_mul_ediv (e - (max 0 ((n * ((S 153 ((r).toNat)) + 3)) - (xbl v : Int)))) n
      have h2 : e - mo = n * ((e - (max 0 ((n * ((S 153 ((r).toNat)) + 3)) - (xbl v : Int)))) / n) := by omega
      rw [h2]; exact Int.mul_emod_right _ _
    obtain ⟨X, hXp⟩ : ∃ X, v * 2 ^ (mo : Int).toNat = X := ⟨_, rfl⟩
    have hXe : X = rtX (S 153 r.toNat) n e v := by rw [← hXp, hmo]; rfl
    have hXb : xbl X ≤ 131300 := by rw [← hXp]; exact Nat.le_trans (xbl_powle _ _) (by omega)
    have hX0 : X ≠ 0 := by rw [← hXp]; exact Nat.mul_ne_zero hv0 (Nat.pos_iff_ne_zero.mp (Nat.two_pow_pos _))
    have hmb : (0 ≤ mo ∧ mo ≤ 140000) ∧ (xbl v : Int) + mo ≤ 131300 := by omega
    clear hmo2
    refine i_204_41 (x := 128) l0 ?_
    refine i_204_42 (v := Value.ref 129) hR.c128 rfl ?_
    refine i_204_45 (x := Int32.ofInt mo) l6 ?_
    obtain ⟨fs, hobj⟩ := hR.obj (h := 129) (iNw (h := 129) (by decide) (by decide) (by decide))
    obtain ⟨w, hrun, hR⟩ := r_up (d := d + 2) (v := v) (c := 4700) (k := mo) hR (iNw (h := 129) (by decide) (by decide) (by decide)) (hv) rfl (by omega) (by omega)
    rw [hXp] at hR
    refine i_204_47 hobj (Nat.le_of_ble_eq_true rfl) hrun ?_
    refine i_204_50 (x := 128) l0 ?_
    refine i_204_51 (x := Int32.ofInt n) l3 ?_
    have hobj := hR.c128
    obtain ⟨w, b, hrun, hb01, V1, g, hR, hnV, hV145, hrt, hbe⟩ := s_rootOf (d := d) (n := n) (v := X) hR (uv_s) hX0 (by omega) (by omega)
    have hgl := xbl_mono (hrt.le (by omega))
    have hq1 : (e - mo) / n ≤ 1000000 ∧ -1000000 ≤ (e - mo) / n := by
      have := Int.emod_add_mul_ediv (e - mo) n
      constructor
      · rcases Int.lt_or_le 1000000 ((e - mo) / n) with h | h
        · have := mulP (P := (e - mo) / n) (a := 1) (b := n) (by omega) (by omega)
          rw [Int.one_mul] at this; omega
        · exact h
      · rcases Int.lt_or_le ((e - mo) / n) (-1000000) with h | h
        · have := mulP (P := -((e - mo) / n)) (a := 1) (b := n) (by omega) (by omega)
          rw [Int.one_mul, Int.mul_neg] at this; omega
        · exact h
    refine i_204_52 hobj (Nat.le_of_ble_eq_true rfl) hrun ?_
    refine i_204_55 rfl ?_
    refine lgen1 (i := 7) (v := Value.int (Int32.ofInt b)) (fun lv lg ls => ?_)
    replace l0 := lg 0 _ rfl rfl l0
    replace l1 := lg 1 _ rfl rfl l1
    replace l2 := lg 2 _ rfl rfl l2
    replace l3 := lg 3 _ rfl rfl l3
    replace l4 := lg 4 _ rfl rfl l4
    replace l5 := lg 5 _ rfl rfl l5
    replace l6 := lg 6 _ rfl rfl l6
    have l7 := ls
    refine i_204_57 (x := 128) l0 ?_
    refine i_204_58 (v := Value.ref 129) hR.c128 rfl ?_
    refine i_204_61 (x := 128) l0 ?_
    refine i_204_62 (v := Value.ref 145) hR.c128 rfl ?_
    obtain ⟨fs, hobj⟩ := hR.obj (h := 129) (iNw (h := 129) (by decide) (by decide) (by decide))
    obtain ⟨w, hrun, hR⟩ := r_setn (d := d + 2) (v := g) (c := 4700) hR (iNw (h := 129) (by decide) (by decide) (by decide)) (iNw (h := 145) (by decide) (by decide) (by decide)) (hV145) rfl (by omega)
    refine i_204_65 hobj (Nat.le_of_ble_eq_true rfl) hrun ?_
    refine i_204_68 (x := 128) l0 ?_
    refine i_204_69 (x := Int32.ofInt r) l1 ?_
    refine i_204_70 (x := 128) l0 ?_
    refine i_204_71 (v := Value.ref 129) hR.c128 rfl ?_
    refine i_204_74 (x := Int32.ofInt e) l2 ?_
    refine i_204_75 (x := Int32.ofInt mo) l6 ?_
    refine i_204_77 (c := Int32.ofInt (e - mo)) (o_sub e mo) ?_
    refine i_204_78 (x := Int32.ofInt n) l3 ?_
    refine i_204_79 (c := Int32.ofInt ((e - mo) / n)) (o_nz (b := n) ⟨by omega, by omega⟩) (o_ddiv (a := e - mo) (b := n) ⟨by omega, by omega⟩ ⟨by omega, by omega⟩ hdiv) ?_
    refine i_204_80 (x := Int32.ofInt b) l7 ?_
    refine i_204_82 (x := Int32.ofInt sg) l4 ?_
    refine i_204_84 (x := Int32.ofInt mode) l5 ?_
    have hobj := hR.c128
    have hx : (uv V1 129 g) 129 = g := uv_s
    obtain ⟨w, S1, V1, hrun, hR, hP⟩ := s_round (d := d) (h := 129) (r := r) (e := (e - mo) / n) (more := b) (sg := sg) (mode := mode) hR (iNw (h := 129) (by decide) (by decide) (by decide)) (by omega) (by omega) (by omega) (by omega) (by omega) (by omega) (by omega) (hp_r.1) (hp_r.2) (⟨hi_l.1, Int.le_trans hi_l.2.1 hi_l.2.2⟩) (⟨Int.le_trans hi_l.1 hi_l.2.1, hi_l.2.2⟩) (hi_g) (Or.inl hi_f) (by rw [hx]; omega)
    rw [hx] at hrun hP
    rw [hi_f] at hrun hP
    refine i_204_86 hobj (Nat.le_of_ble_eq_true rfl) hrun ?_
    refine i_204_89 ?_
    refine ⟨g, by rw [← hXe]; exact hrt, ?_⟩
    have eo : oRt S r.toNat e n sg mode v g = oR (S 153 r.toNat) (S 128 17) (S 128 18) (S 128 20) sg mode b g ((e - mo) / n) (S 128 19) := by unfold oRt; rw [← hXe, ← hmo, hbe]
    rw [eo]
    exact ⟨rfl, _, _, hR, oP_round hP (by omega) nS.refl (((nV.up nV.refl (by omega)).trans hnV).up (by decide))⟩
  obtain ⟨o, w', h1, g, h2, rfl, h3⟩ := key.run
  exact ⟨w', g, h2, h1, h3⟩
