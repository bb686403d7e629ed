/-! ratio, quotient, remainder of the reference -/
def moreOf (p : Int) (m dd : Nat) : Int := max 0 (p + 3 + xbl dd - xbl m)
def ratX (p : Int) (m dd : Nat) : Nat := m * 2 ^ (moreOf p m dd).toNat
def sRat (S : Nat → Nat → Int) (r : Nat) (m : Nat) (e : Int) (dd : Nat) (f sg mode : Int) : OO := oR (S 153 r) (S 128 17) (S 128 18) (S 128 20) sg mode (if ratX (S 153 r) m dd % dd = 0 then 0 else 1) (ratX (S 153 r) m dd / dd) (e - moreOf (S 153 r) m dd - f) (S 128 19)
def sQuo (S : Nat → Nat → Int) (V : Nat → Nat) (r a b : Nat) (mode : Int) : OO :=
  if S 154 a = S 154 b ∧ S 154 a ≠ 3 then oS 0 0 (zor (S 128 19) 8)
  else if S 154 b = 2 then oS 1 (xorI (S 156 a) (S 156 b)) (if S 154 a = 3 then zor (S 128 19) 16 else S 128 19)
  else if S 154 a = 1 then oS 1 (xorI (S 156 a) (S 156 b)) (S 128 19)
  else if S 154 a = 2 ∨ S 154 b = 1 then oS 2 (xorI (S 156 a) (S 156 b)) (S 128 19)
  else sRat S r (V (160 + 2 * a)) (ex S a) (V (160 + 2 * b)) (ex S b) (xorI (S 156 a) (S 156 b)) mode
def remX (S : Nat → Nat → Int) (V : Nat → Nat) (a b : Nat) : Nat := V (160 + 2 * a) * 2 ^ (ex S a - min (ex S a) (ex S b)).toNat
def remB (near : Int) (X Y : Nat) : Bool := !decide (near = 0) && (decide (Y < X % Y * 2 ^ (1 : Int).toNat) || (decide (X % Y * 2 ^ (1 : Int).toNat = Y) && nbit (X / Y) 0))
def sRem1 (p least greatest gradual f sg near mode : Int) (X Y : Nat) (e : Int) : OO :=
  if remB near X Y = true then oR p least greatest gradual (1 - sg) mode 0 (Y - X % Y) e f
  else if X % Y = 0 then oS 2 sg f else oR p least greatest gradual sg mode 0 (X % Y) e f
def sRem (S : Nat → Nat → Int) (V : Nat → Nat) (r a b : Nat) (near mode : Int) : OO :=
  if S 154 a = 1 ∨ S 154 b = 2 then oS 0 0 (zor (S 128 19) 8)
  else if S 154 a = 2 ∨ S 154 b = 1 then sMove S V r a (S 156 a) mode
  else sRem1 (S 153 r) (S 128 17) (S 128 18) (S 128 20) (S 128 19) (S 156 a) near mode (remX S V a b) (remX S V b a) (min (ex S a) (ex S b))
theorem remX_comm {S : Nat → Nat → Int} {V : Nat → Nat} {a b : Nat} : remX S V b a = V (160 + 2 * b) * 2 ^ (ex S b - min (ex S a) (ex S b)).toNat := by unfold remX; rw [Int.min_comm]
set_option maxHeartbeats 8000000 in
theorem s_ratio {d : Nat} {w0 w : xW} {S : Nat → Nat → Int} {V : Nat → Nat} {h m dd : Nat} {r e f sg mode : Int} (hR : mR w0 S V w) (hI : mI S V) (hh : isN h) (h131 : h ≠ 131) (hvm : V h = m) (hvd : V 141 = dd) (hd0 : dd ≠ 0) (hr : 0 ≤ r ∧ r < 16) (hs : sg = 0 ∨ sg = 1) (hmo : 0 ≤ mode ∧ mode ≤ 4) (hbm : xbl m ≤ 60000) (hbd : xbl dd ≤ 135000) (hef : -800000 ≤ e - f ∧ e - f ≤ 800000) (he : -1000000 ≤ e ∧ e ≤ 1000000) (hf : -1000000 ≤ f ∧ f ≤ 1000000) : ∃ w', xRun (d + 5) 218 [Value.ref 128, Value.int (Int32.ofInt r), Value.ref h, Value.int (Int32.ofInt e), Value.ref 141, Value.int (Int32.ofInt f), Value.int (Int32.ofInt sg), Value.int (Int32.ofInt mode)] w (.inl (some (.int (Int32.ofInt (sRat S r.toNat m e dd f sg mode).2.2.2.2.1)))) w' ∧ ∃ S' V', mR w0 S' V' w' ∧ oP S S' V V' r.toNat (sRat S r.toNat m e dd f sg mode) := by
  obtain ⟨hp_r, -⟩ := hI.1 r.toNat (by omega)
  have hi_l := hI.2.1
  have hi_g := hI.2.2.1
  have hi_f := hI.2.2.2
  have key : xEv (d + 5) 218 0 (lv_args 0 [Value.ref 128, Value.int (Int32.ofInt r), Value.ref h, Value.int (Int32.ofInt e), Value.ref 141, Value.int (Int32.ofInt f), Value.int (Int32.ofInt sg), Value.int (Int32.ofInt mode)]) [] w (fun o w' => o = .inl (some (.int (Int32.ofInt (sRat S r.toNat m e dd f sg mode).2.2.2.2.1))) ∧ ∃ S' V', mR w0 S' V' w' ∧ oP S S' V V' r.toNat (sRat S r.toNat m e dd f sg mode)) := by
    refine i_218_0 ?_
    refine i_218_1 (x := 128) rfl ?_
    refine i_218_2 (v := Value.ref 153) hR.c128 rfl ?_
    refine i_218_5 (x := Int32.ofInt r) rfl ?_
    refine i_218_6 (v := Value.int (Int32.ofInt (S 153 ((r).toNat)))) (hR.row a153) (ix0 (T := r) (by omega) (by omega)) (ix1 (T := r) (by omega) (by omega) (by omega)) (ra (T := r) (by omega) (by omega) rfl) ?_
    refine i_218_7 ?_
    refine i_218_8 (c := Int32.ofInt ((S 153 ((r).toNat)) + 3)) (o_add (S 153 ((r).toNat)) 3) ?_
    refine i_218_9 (x := 141) rfl ?_
    obtain ⟨fs, hobj⟩ := hR.obj (h := 141) (iNw (h := 141) (by decide) (by decide) (by decide))
    have hrun := r_bits (d := d + 2) (v := dd) hR (iNw (h := 141) (by decide) (by decide) (by decide)) (hvd)
    refine i_218_11 hobj (Nat.le_of_ble_eq_true rfl) hrun ?_
    refine i_218_14 (c := Int32.ofInt (((S 153 ((r).toNat)) + 3) + (xbl dd : Int))) (o_add ((S 153 ((r).toNat)) + 3) (xbl dd : Int)) ?_
    refine i_218_15 (x := h) rfl ?_
    obtain ⟨fs, hobj⟩ := hR.obj (h := h) hh
    have hrun := r_bits (d := d + 2) (v := m) hR hh (hvm)
    refine i_218_16 hobj (Nat.le_of_ble_eq_true rfl) hrun ?_
    refine i_218_19 (c := Int32.ofInt ((((S 153 ((r).toNat)) + 3) + (xbl dd : Int)) - (xbl m : Int))) (o_sub (((S 153 ((r).toNat)) + 3) + (xbl dd : Int)) (xbl m : Int)) ?_
    have hrun := s_max (d := d + 3) (w := w) (a := 0) (b := (((S 153 ((r).toNat)) + 3) + (xbl dd : Int)) - (xbl m : Int)) ⟨by decide, by decide⟩ ⟨by omega, by omega⟩
    refine i_218_20 (Nat.le_of_ble_eq_true rfl) hrun ?_
    refine i_218_23 (lv2 := [(8, Value.int (Int32.ofInt (max 0 ((((S 153 ((r).toNat)) + 3) + (xbl dd : Int)) - (xbl m : Int))))), (0, Value.ref 128), (1, Value.int (Int32.ofInt r)), (2, Value.ref h), (3, Value.int (Int32.ofInt e)), (4, Value.ref 141), (5, Value.int (Int32.ofInt f)), (6, Value.int (Int32.ofInt sg)), (7, Value.int (Int32.ofInt mode))]) rfl ?_
    refine i_218_25 (x := 128) rfl ?_
    refine i_218_26 (v := Value.ref 131) hR.c128 rfl ?_
    refine i_218_29 (x := h) rfl ?_
    obtain ⟨fs, hobj⟩ := hR.obj (h := 131) (iNw (h := 131) (by decide) (by decide) (by decide))
    obtain ⟨w, hrun, hR⟩ := r_setn (d := d + 2) (v := m) (c := 4700) hR (iNw (h := 131) (by decide) (by decide) (by decide)) hh (hvm) rfl (by omega)
    refine i_218_30 hobj (Nat.le_of_ble_eq_true rfl) hrun ?_
    refine i_218_33 (x := 128) rfl ?_
    refine i_218_34 (v := Value.ref 131) hR.c128 rfl ?_
    refine i_218_37 (x := Int32.ofInt (max 0 ((((S 153 ((r).toNat)) + 3) + (xbl dd : Int)) - (xbl m : Int)))) rfl ?_
    obtain ⟨fs, hobj⟩ := hR.obj (h := 131) (iNw (h := 131) (by decide) (by decide) (by decide))
    obtain ⟨w, hrun, hR⟩ := r_up (d := d + 2) (v := m) (c := 4700) (k := max 0 ((((S 153 ((r).toNat)) + 3) + (xbl dd : Int)) - (xbl m : Int))) hR (iNw (h := 131) (by decide) (by decide) (by decide)) (uv_s) rfl (by omega) (by omega)
    rw [uvv] at hR
    refine i_218_39 hobj (Nat.le_of_ble_eq_true rfl) hrun ?_
    refine i_218_42 (x := 128) rfl ?_
    refine i_218_43 (x := 128) rfl ?_
    refine i_218_44 (v := Value.ref 131) hR.c128 rfl ?_
    refine i_218_47 (x := 141) rfl ?_
    refine i_218_49 (x := 128) rfl ?_
    refine i_218_50 (v := Value.ref 129) hR.c128 rfl ?_
    have hobj := hR.c128
    obtain ⟨w, z1, hrun, hR⟩ := s_divide (d := d + 1) (hx := 131) (hy := 141) (t := 129) (x := m * 2 ^ (max 0 ((((S 153 ((r).toNat)) + 3) + (xbl dd : Int)) - (xbl m : Int)) : Int).toNat) (y := dd) hR (iNw (h := 131) (by decide) (by decide) (by decide)) (iNw (h := 141) (by decide) (by decide) (by decide)) (by omega) (by omega) (by omega) (by omega) (by omega) (by omega) (by omega) (uv_s) ((uv_n (by omega)).trans (hvd)) (by exact hd0) (by exact Nat.le_trans (xbl_powle _ _) (by omega)) (by omega)
    refine i_218_53 hobj (Nat.le_of_ble_eq_true rfl) hrun ?_
    refine i_218_56 (x := 128) rfl ?_
    refine i_218_57 (v := Value.ref 137) hR.c128 rfl ?_
    obtain ⟨n2, hsz, hn2, hz2⟩ := hR.size (h := 137) (v := (m * 2 ^ (max 0 ((((S 153 ((r).toNat)) + 3) + (xbl dd : Int)) - (xbl m : Int)) : Int).toNat) % dd) (iNw (h := 137) (by decide) (by decide) (by decide)) (uv_s)
    refine i_218_60 (v := Value.int (Int32.ofInt (n2 : Int))) hsz rfl ?_
    refine i_218_63 (z_le (a := (n2 : Int)) ⟨by omega, by omega⟩ fun c2 => ?_) (z_gt (a := (n2 : Int)) ⟨by omega, by omega⟩ fun c2 => ?_)
    · refine i_218_70 ?_
      refine i_218_71 (lv2 := [(9, Value.int 0), (8, Value.int (Int32.ofInt (max 0 ((((S 153 ((r).toNat)) + 3) + (xbl dd : Int)) - (xbl m : Int))))), (0, Value.ref 128), (1, Value.int (Int32.ofInt r)), (2, Value.ref h), (3, Value.int (Int32.ofInt e)), (4, Value.ref 141), (5, Value.int (Int32.ofInt f)), (6, Value.int (Int32.ofInt sg)), (7, Value.int (Int32.ofInt mode))]) rfl ?_
      refine i_218_73 (x := 128) rfl ?_
      refine i_218_74 (x := Int32.ofInt r) rfl ?_
      refine i_218_75 (x := 128) rfl ?_
      refine i_218_76 (v := Value.ref 129) hR.c128 rfl ?_
      refine i_218_79 (x := Int32.ofInt e) rfl ?_
      refine i_218_80 (x := Int32.ofInt (max 0 ((((S 153 ((r).toNat)) + 3) + (xbl dd : Int)) - (xbl m : Int)))) rfl ?_
      refine i_218_82 (c := Int32.ofInt (e - (max 0 ((((S 153 ((r).toNat)) + 3) + (xbl dd : Int)) - (xbl m : Int))))) (o_sub e (max 0 ((((S 153 ((r).toNat)) + 3) + (xbl dd : Int)) - (xbl m : Int)))) ?_
      refine i_218_83 (x := Int32.ofInt f) rfl ?_
      refine i_218_85 (c := Int32.ofInt ((e - (max 0 ((((S 153 ((r).toNat)) + 3) + (xbl dd : Int)) - (xbl m : Int)))) - f)) (o_sub (e - (max 0 ((((S 153 ((r).toNat)) + 3) + (xbl dd : Int)) - (xbl m : Int)))) f) ?_
      refine i_218_86 (x := 0) rfl ?_
      refine i_218_88 (x := Int32.ofInt sg) rfl ?_
      refine i_218_90 (x := Int32.ofInt mode) rfl ?_
      have hobj := hR.c128
      have hx : (uv (uv (uv (uv V 131 (m * 2 ^ (max 0 ((((S 153 ((r).toNat)) + 3) + (xbl dd : Int)) - (xbl m : Int)) : Int).toNat)) 139 z1) 129 ((m * 2 ^ (max 0 ((((S 153 ((r).toNat)) + 3) + (xbl dd : Int)) - (xbl m : Int)) : Int).toNat) / dd)) 137 ((m * 2 ^ (max 0 ((((S 153 ((r).toNat)) + 3) + (xbl dd : Int)) - (xbl m : Int)) : Int).toNat) % dd)) 129 = (m * 2 ^ (max 0 ((((S 153 ((r).toNat)) + 3) + (xbl dd : Int)) - (xbl m : Int)) : Int).toNat) / dd := (uv_n (by omega)).trans (uv_s)
      obtain ⟨w, S4, V4, hrun, hR, hP⟩ := s_round (d := d) (h := 129) (r := r) (e := (e - (max 0 ((((S 153 ((r).toNat)) + 3) + (xbl dd : Int)) - (xbl m : Int)))) - f) (more := 0) (sg := sg) (mode := mode) hR (iNw (h := 129) (by decide) (by decide) (by decide)) (by omega) (by omega) (by omega) (by omega) (by omega) (by omega) (by omega) (hp_r.1) (hp_r.2) (⟨hi_l.1, Int.le_trans hi_l.2.1 hi_l.2.2⟩) (⟨Int.le_trans hi_l.1 hi_l.2.1, hi_l.2.2⟩) (hi_g) (Or.inl hi_f) (by rw [hx]; exact Nat.le_trans (xbl_mono (Nat.div_le_self _ _)) (Nat.le_trans (xbl_powle _ _) (by omega)))
      rw [hx] at hrun hP
      rw [hi_f] at hrun hP
      refine i_218_92 hobj (Nat.le_of_ble_eq_true rfl) hrun ?_
      refine i_218_95 ?_
      have eo : sRat S r.toNat m e dd f sg mode = oR (S 153 r.toNat) (S 128 17) (S 128 18) (S 128 20) sg mode 0 ((m * 2 ^ (max 0 ((((S 153 ((r).toNat)) + 3) + (xbl dd : Int)) - (xbl m : Int)) : Int).toNat) / dd) ((e - (max 0 ((((S 153 ((r).toNat)) + 3) + (xbl dd : Int)) - (xbl m : Int)))) - f) (S 128 19) := by clear hR hrun hP; unfold sRat ratX moreOf; first | (rw [if_pos (by omega)]; done) | (rw [if_neg (by omega)]; done)
      rw [eo]
      exact ⟨rfl, _, _, hR, oP_round hP (by omega) nS.refl (nV.up (nV.up (nV.up (nV.up nV.refl (by omega)) (by omega)) (by omega)) (by omega))⟩
    · refine i_218_66 ?_
      refine i_218_67 ?_
      refine i_218_71 (lv2 := [(9, Value.int 1), (8, Value.int (Int32.ofInt (max 0 ((((S 153 ((r).toNat)) + 3) + (xbl dd : Int)) - (xbl m : Int))))), (0, Value.ref 128), (1, Value.int (Int32.ofInt r)), (2, Value.ref h), (3, Value.int (Int32.ofInt e)), (4, Value.ref 141), (5, Value.int (Int32.ofInt f)), (6, Value.int (Int32.ofInt sg)), (7, Value.int (Int32.ofInt mode))]) rfl ?_
      refine i_218_73 (x := 128) rfl ?_
      refine i_218_74 (x := Int32.ofInt r) rfl ?_
      refine i_218_75 (x := 128) rfl ?_
      refine i_218_76 (v := Value.ref 129) hR.c128 rfl ?_
      refine i_218_79 (x := Int32.ofInt e) rfl ?_
      refine i_218_80 (x := Int32.ofInt (max 0 ((((S 153 ((r).toNat)) + 3) + (xbl dd : Int)) - (xbl m : Int)))) rfl ?_
      refine i_218_82 (c := Int32.ofInt (e - (max 0 ((((S 153 ((r).toNat)) + 3) + (xbl dd : Int)) - (xbl m : Int))))) (o_sub e (max 0 ((((S 153 ((r).toNat)) + 3) + (xbl dd : Int)) - (xbl m : Int)))) ?_
      refine i_218_83 (x := Int32.ofInt f) rfl ?_
      refine i_218_85 (c := Int32.ofInt ((e - (max 0 ((((S 153 ((r).toNat)) + 3) + (xbl dd : Int)) - (xbl m : Int)))) - f)) (o_sub (e - (max 0 ((((S 153 ((r).toNat)) + 3) + (xbl dd : Int)) - (xbl m : Int)))) f) ?_
      refine i_218_86 (x := 1) rfl ?_
      refine i_218_88 (x := Int32.ofInt sg) rfl ?_
      refine i_218_90 (x := Int32.ofInt mode) rfl ?_
      have hobj := hR.c128
      have hx : (uv (uv (uv (uv V 131 (m * 2 ^ (max 0 ((((S 153 ((r).toNat)) + 3) + (xbl dd : Int)) - (xbl m : Int)) : Int).toNat)) 139 z1) 129 ((m * 2 ^ (max 0 ((((S 153 ((r).toNat)) + 3) + (xbl dd : Int)) - (xbl m : Int)) : Int).toNat) / dd)) 137 ((m * 2 ^ (max 0 ((((S 153 ((r).toNat)) + 3) + (xbl dd : Int)) - (xbl m : Int)) : Int).toNat) % dd)) 129 = (m * 2 ^ (max 0 ((((S 153 ((r).toNat)) + 3) + (xbl dd : Int)) - (xbl m : Int)) : Int).toNat) / dd := (uv_n (by omega)).trans (uv_s)
      obtain ⟨w, S5, V5, hrun, hR, hP⟩ := s_round (d := d) (h := 129) (r := r) (e := (e - (max 0 ((((S 153 ((r).toNat)) + 3) + (xbl dd : Int)) - (xbl m : Int)))) - f) (more := 1) (sg := sg) (mode := mode) hR (iNw (h := 129) (by decide) (by decide) (by decide)) (by omega) (by omega) (by omega) (by omega) (by omega) (by omega) (by omega) (hp_r.1) (hp_r.2) (⟨hi_l.1, Int.le_trans hi_l.2.1 hi_l.2.2⟩) (⟨Int.le_trans hi_l.1 hi_l.2.1, hi_l.2.2⟩) (hi_g) (Or.inl hi_f) (by rw [hx]; exact Nat.le_trans (xbl_mono (Nat.div_le_self _ _)) (Nat.le_trans (xbl_powle _ _) (by omega)))
      rw [hx] at hrun hP
      rw [hi_f] at hrun hP
      refine i_218_92 hobj (Nat.le_of_ble_eq_true rfl) hrun ?_
      refine i_218_95 ?_
      have eo : sRat S r.toNat m e dd f sg mode = oR (S 153 r.toNat) (S 128 17) (S 128 18) (S 128 20) sg mode 1 ((m * 2 ^ (max 0 ((((S 153 ((r).toNat)) + 3) + (xbl dd : Int)) - (xbl m : Int)) : Int).toNat) / dd) ((e - (max 0 ((((S 153 ((r).toNat)) + 3) + (xbl dd : Int)) - (xbl m : Int)))) - f) (S 128 19) := by clear hR hrun hP; unfold sRat ratX moreOf; first | (rw [if_pos (by omega)]; done) | (rw [if_neg (by omega)]; done)
      rw [eo]
      exact ⟨rfl, _, _, hR, oP_round hP (by omega) nS.refl (nV.up (nV.up (nV.up (nV.up nV.refl (by omega)) (by omega)) (by omega)) (by omega))⟩
  obtain ⟨o, w', h1, rfl, h2⟩ := key.run
  exact ⟨w', h1, h2⟩
