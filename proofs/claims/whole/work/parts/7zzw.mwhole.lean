/-! whole of the reference -/
/-- how the twice rounded number lies beside the operand -/
def whC (T p : Int) (m : Nat) (e : Int) (M : Nat) : Int := ncmp (m * 2 ^ (T - p - min (T - p) e).toNat) (M * 2 ^ (e - min (T - p) e).toNat)
def whR (o : OO) (cut : Bool) (sg f e : Int) (M : Nat) (p : Int) : OO :=
  if cut = false then o
  else if o.1 = 2 then (2, sg, o.2.2.1, o.2.2.2.1, if sg = 0 then -1 else 1, zor o.2.2.2.2.2 1)
  else if o.1 = 1 then (1, sg, o.2.2.1, o.2.2.2.1, if sg = 0 then 1 else -1, zor o.2.2.2.2.2 1)
  else (o.1, sg, o.2.2.1, o.2.2.2.1, if sg = 0 then whC o.2.2.1 p o.2.2.2.1 e M else -whC o.2.2.1 p o.2.2.2.1 e M, if whC o.2.2.1 p o.2.2.2.1 e M = 0 ∧ zand f 1 = 0 then zand (zor o.2.2.2.2.2 1) (-2) else zor o.2.2.2.2.2 1)
def whQ (p least greatest gradual f mode sg : Int) (X : Nat) (E : Int) (cut : Bool) (e : Int) (M : Nat) : OO :=
  if X = 0 then (2, sg, 0, 0, if sg = 0 then -1 else 1, zor f 1) else whR (oR p least greatest gradual sg mode 0 X E f) cut sg f e M p
def sWhR (S : Nat → Nat → Int) (V : Nat → Nat) (r a : Nat) (way mode : Int) : OO :=
  if S 154 a ≠ 3 then oS (S 154 a) (if S 154 a = 0 then 0 else S 156 a) (S 128 19)
  else whQ (S 153 r) (S 128 17) (S 128 18) (S 128 20) (S 128 19) mode (S 156 a) (whM (V (160 + 2 * a)) (S 155 a - S 153 a) (S 156 a) way) (rtiS (S 155 a - S 153 a)) (decide (S 155 a - S 153 a < 0) && nany (V (160 + 2 * a)) (-(S 155 a - S 153 a))) (S 155 a - S 153 a) (V (160 + 2 * a))
theorem i32_b (x : Int32) : -2147483648 ≤ x.toInt ∧ x.toInt < 2147483648 := ⟨Int32.le_toInt x, Int32.toInt_lt x⟩
theorem zand_b {a k : Int} : -2147483648 ≤ zand a k ∧ zand a k < 2147483648 := i32_b _
section
variable {d : Nat} {w0 w : xW} {S S' S1 : Nat → Nat → Int} {V V' V1 : Nat → Nat} {r a way mode e : Int} {lv : xLv} {Q : Option Value ⊕ Nat → xW → Prop}
theorem oP_v {r k v : Nat} {o : OO} (h : oP S S' V V' r o) (hk : k < 160) : oP S S' V (uv V' k v) r o := by
  obtain ⟨g1, g2, g3, g4, g5, g6, g7, g8⟩ := h
  have n : ∀ j, 160 ≤ j → uv V' k v j = V' j := fun j hj => uv_n (by omega)
  exact ⟨g1, g2, g3, ⟨by rw [n _ (by omega)]; exact g4.1, fun c hb => mB_eq rfl (n _ (by omega)) (g4.2 c hb)⟩, g5, g6, g7, fun j j1 j2 => (n j j1).trans (g8 j j1 j2)⟩
theorem oP_fl {r : Nat} {o o' : OO} {f' : Int} (h : oP S S' V V' r o) (h1 : o'.1 = o.1) (h2 : o'.2.1 = o.2.1) (h3 : o'.2.2.1 = o.2.2.1) (h4 : o'.2.2.2.1 = o.2.2.2.1) (h5 : o'.2.2.2.2.2 = f') : oP S (u2 S' 128 19 f') V V' r o' := by
  obtain ⟨g1, g2, g3, g4, g5, g6, g7, g8⟩ := h
  have n : ∀ b j, b ≠ 128 → u2 S' 128 19 f' b j = S' b j := fun b j hb => by rw [u2_e, if_neg (fun c => hb c.1)]
  refine ⟨by rw [n _ _ (by decide), h1]; exact g1, by rw [n _ _ (by decide), h1, h2]; exact g2, by rw [n _ _ (by decide)]; exact g3, ⟨by rw [n _ _ (by decide), h1, h3, h4]; exact g4.1, fun c hb => mB_eq (n _ _ (by decide)) rfl (g4.2 (by rw [← h1]; exact c) hb)⟩, by rw [u2_e, if_pos ⟨rfl, rfl⟩, h5], fun b j hb c1 c2 c3 => (n b j hb).trans (g6 b j hb c1 c2 c3), fun j c1 c2 => ?_, g8⟩
  rw [u2_e, if_neg (fun c => c1 c.2)]
  exact g7 j c1 c2
theorem rnd_t {p least greatest gradual free sg mode more e f : Int} {m : Nat} : -1 ≤ (rnd p least greatest gradual free sg mode more m e f).2.2.2.1 ∧ (rnd p least greatest gradual free sg mode more m e f).2.2.2.1 ≤ 1 := by
  have h := rD_way (p := p) (least := least) (greatest := greatest) (gradual := gradual) (free := free) (sg := sg) (mode := mode) (x := xbl m + e) (more := more) (m := m) (q := rq1 m (rU p least gradual free (xbl m + e) - e) more sg mode) (u := rU p least gradual free (xbl m + e)) (way := rway (rE m (rU p least gradual free (xbl m + e) - e) more) (rG m (rU p least gradual free (xbl m + e) - e) more sg mode)) (f := f) (by unfold rway; cases rE m (rU p least gradual free (xbl m + e) - e) more <;> cases rG m (rU p least gradual free (xbl m + e) - e) more sg mode <;> decide)
  unfold rnd
  dsimp only
  split <;> omega
set_option maxHeartbeats 8000000 in
theorem wh_T {sg E kp : Int} {X M : Nat} {cut : Bool} (hR : mR w0 S V1 w) (hI : mI S V) (hnV : nV V V1) (h129 : V1 129 = X) (h131 : V1 131 = M) (hr : 0 ≤ r ∧ r ≤ 15) (ha : 0 ≤ a ∧ a ≤ 15) (hmo : 0 ≤ mode ∧ mode ≤ 4) (hsg : sg = 0 ∨ sg = 1) (hE : -30000 ≤ E ∧ E ≤ 30000) (hX : xbl X ≤ 4100) (hM : xbl M ≤ 4096) (hkp : (kp = 1 ∧ cut = false) ∨ (kp = 0 ∧ cut = true)) (l0 : xld lv 0 = some (Value.ref 128)) (l1 : xld lv 1 = some (Value.int (Int32.ofInt r))) (l2 : xld lv 2 = some (Value.int (Int32.ofInt a))) (l3 : xld lv 3 = some (Value.int (Int32.ofInt way))) (l4 : xld lv 4 = some (Value.int (Int32.ofInt mode))) (l5 : xld lv 5 = some (Value.int (Int32.ofInt sg))) (l6 : xld lv 6 = some (Value.int (Int32.ofInt E))) (l7 : xld lv 7 = some (Value.int (Int32.ofInt kp))) : xEv (d + 8) 227 206 lv [] w (fun o w' => o = .inl (some (.int (Int32.ofInt (whQ (S 153 r.toNat) (S 128 17) (S 128 18) (S 128 20) (S 128 19) mode sg X E cut (S 155 a.toNat - S 153 a.toNat) M).2.2.2.2.1))) ∧ ∃ S' V', mR w0 S' V' w' ∧ oP S S' V V' r.toNat (whQ (S 153 r.toNat) (S 128 17) (S 128 18) (S 128 20) (S 128 19) mode sg X E cut (S 155 a.toNat - S 153 a.toNat) M)) := by
  obtain ⟨hp_r, -⟩ := hI.1 r.toNat (by omega)
  have hi_l := hI.2.1
  have hi_g := hI.2.2.1
  have hi_f := hI.2.2.2
  obtain ⟨hp_a, hk_a, hn_a, ht_a, hx_a, -⟩ := hI.1 a.toNat (by omega)
  have hzb := zand_b (a := S 128 19) (k := 1)
  refine i_227_206 (x := 128) l0 ?_
  refine i_227_207 (x := Int32.ofInt a) l2 ?_
  have hobj := hR.c128
  obtain ⟨w, hrun, hR⟩ := s_exponent (d := d + 6) (r := a) hR (by omega) (by omega)
  refine i_227_208 hobj (Nat.le_of_ble_eq_true rfl) hrun ?_
  refine i_227_211 rfl ?_
  refine lgen1 (i := 8) (v := Value.int (Int32.ofInt (S 155 a.toNat - S 153 a.toNat))) (fun lv lg ls => ?_)
  replace l0 := lg 0 _ rfl rfl l0
  replace l1 := lg 1 _ rfl rfl l1
  replace l2 := lg 2 _ rfl rfl l2
  replace l3 := lg 3 _ rfl rfl l3
  replace l4 := lg 4 _ rfl rfl l4
  replace l5 := lg 5 _ rfl rfl l5
  replace l6 := lg 6 _ rfl rfl l6
  replace l7 := lg 7 _ rfl rfl l7
  have l8 := ls
  refine i_227_213 (x := 128) l0 ?_
  refine i_227_214 (v := Value.int (Int32.ofInt (S 128 19))) hR.c128 rfl ?_
  refine i_227_217 ?_
  refine i_227_218 (c := Int32.ofInt (zand (S 128 19) 1)) (o_and (S 128 19) 1) ?_
  refine i_227_219 rfl ?_
  refine lgen1 (i := 9) (v := Value.int (Int32.ofInt (zand (S 128 19) 1))) (fun lv lg ls => ?_)
  replace l8 := lg 8 _ rfl rfl l8
  replace l0 := lg 0 _ rfl rfl l0
  replace l1 := lg 1 _ rfl rfl l1
  replace l2 := lg 2 _ rfl rfl l2
  replace l3 := lg 3 _ rfl rfl l3
  replace l4 := lg 4 _ rfl rfl l4
  replace l5 := lg 5 _ rfl rfl l5
  replace l6 := lg 6 _ rfl rfl l6
  replace l7 := lg 7 _ rfl rfl l7
  have l9 := ls
  refine i_227_221 (x := 128) l0 ?_
  refine i_227_222 (v := Value.ref 129) hR.c128 rfl ?_
  obtain ⟨n1, hsz, hn1, hz1⟩ := hR.size (h := 129) (v := X) (iNw (h := 129) (by decide) (by decide) (by decide)) (h129)
  refine i_227_225 (v := Value.int (Int32.ofInt (n1 : Int))) hsz rfl ?_
  refine i_227_228 (z_ne (a := (n1 : Int)) ⟨by omega, by omega⟩ fun c1 => ?_) (z_eq (a := (n1 : Int)) ⟨by omega, by omega⟩ fun c1 => ?_)
  · refine i_227_261 (x := 128) l0 ?_
    refine i_227_262 (v := Value.ref 149) hR.c128 rfl ?_
    refine i_227_265 (x := 128) l0 ?_
    refine i_227_266 (v := Value.ref 131) hR.c128 rfl ?_
    obtain ⟨fs, hobj⟩ := hR.obj (h := 149) (iNw (h := 149) (by decide) (by decide) (by decide))
    obtain ⟨w, hrun, hR⟩ := r_setn (d := d + 5) (v := M) (c := 4700) hR (iNw (h := 149) (by decide) (by decide) (by decide)) (iNw (h := 131) (by decide) (by decide) (by decide)) (h131) rfl (by omega)
    refine i_227_269 hobj (Nat.le_of_ble_eq_true rfl) hrun ?_
    refine i_227_272 (x := 128) l0 ?_
    refine i_227_273 (x := Int32.ofInt r) l1 ?_
    refine i_227_274 (x := 128) l0 ?_
    refine i_227_275 (v := Value.ref 129) hR.c128 rfl ?_
    refine i_227_278 (x := Int32.ofInt E) l6 ?_
    refine i_227_280 ?_
    refine i_227_281 (x := Int32.ofInt sg) l5 ?_
    refine i_227_283 (x := Int32.ofInt mode) l4 ?_
    have hobj := hR.c128
    have hx : (uv V1 149 M) 129 = X := (uv_n (by omega)).trans (h129)
    obtain ⟨w, S9, V9, hrun, hR, hP⟩ := s_round (d := d + 3) (h := 129) (r := r) (e := E) (more := 0) (sg := sg) (mode := mode) hR (iNw (h := 129) (by decide) (by decide) (by decide)) (by decide) (by omega) (by omega) (by omega) (by omega) (by omega) (by omega) hp_r.1 hp_r.2 ⟨hi_l.1, Int.le_trans hi_l.2.1 hi_l.2.2⟩ ⟨Int.le_trans hi_l.1 hi_l.2.1, hi_l.2.2⟩ hi_g (Or.inl hi_f) (by rw [hx]; omega)
    rw [hx, hi_f] at hrun hP
    have hO : oP S S9 V V9 r.toNat (oR (S 153 r.toNat) (S 128 17) (S 128 18) (S 128 20) sg mode 0 X E (S 128 19)) := oP_round hP (by omega) nS.refl (nV.up hnV (by omega))
    have hok := rnd_ok (gradual := S 128 20) (sg := sg) (mode := mode) (more := 0) (e := E) (f := S 128 19) (m := X) hp_r hi_l
    have hway := rnd_t (p := S 153 r.toNat) (least := S 128 17) (greatest := S 128 18) (gradual := S 128 20) (free := 0) (sg := sg) (mode := mode) (more := 0) (e := E) (f := S 128 19) (m := X)
    unfold oR at hO
    generalize hR9 : rnd (S 153 r.toNat) (S 128 17) (S 128 18) (S 128 20) 0 sg mode 0 X E (S 128 19) = R9 at hrun hP hO hok hway
    obtain ⟨K, T, m9, t9, F⟩ := R9
    obtain ⟨g1, g2, ⟨g3, -⟩, g4, g5, g6⟩ := hP
    have g1 : S9 154 r.toNat = K := g1
    have g4 : S9 128 19 = F := g4
    have g53 : S9 153 r.toNat = S 153 r.toNat := g5 _ _ (by omega) (by omega) (by omega) (by omega)
    have hok : okO (S 153 r.toNat) K T m9 := hok
    obtain ⟨hK, hT, hm9⟩ := hok
    have hway : -1 ≤ t9 ∧ t9 ≤ 1 := hway
    have g149 : V9 149 = M := (g6 149 (by decide) (by decide) (by decide) (by decide) (by omega)).trans (uv_s)
    have hg3 : hid (K = 3 → S9 155 r.toNat = T ∧ V9 (160 + 2 * r.toNat) = m9) := g3
    have hm9h : hid (K = 3 → (xbl m9 : Int) = S 153 r.toNat) := hm9
    clear g3 hm9 g5 g6
    refine i_227_285 hobj (Nat.le_of_ble_eq_true rfl) hrun ?_
    refine i_227_288 rfl ?_
    refine lgen1 (i := 10) (v := Value.int (Int32.ofInt t9)) (fun lv lg ls => ?_)
    replace l9 := lg 9 _ rfl rfl l9
    replace l8 := lg 8 _ rfl rfl l8
    replace l0 := lg 0 _ rfl rfl l0
    replace l1 := lg 1 _ rfl rfl l1
    replace l2 := lg 2 _ rfl rfl l2
    replace l3 := lg 3 _ rfl rfl l3
    replace l4 := lg 4 _ rfl rfl l4
    replace l5 := lg 5 _ rfl rfl l5
    replace l6 := lg 6 _ rfl rfl l6
    replace l7 := lg 7 _ rfl rfl l7
    have l10 := ls
    refine i_227_290 (x := Int32.ofInt kp) l7 ?_
    refine i_227_292 (z_eq (a := kp) ⟨by omega, by omega⟩ fun c2 => ?_) (z_ne (a := kp) ⟨by omega, by omega⟩ fun c2 => ?_)
    · refine i_227_298 (x := 128) l0 ?_
      refine i_227_299 rfl ?_
      refine i_227_300 (v := Value.int (Int32.ofInt (S9 128 19))) hR.c128 rfl ?_
      refine i_227_303 ?_
      refine i_227_304 (c := Int32.ofInt (zor (S9 128 19) 1)) (o_or (S9 128 19) 1) ?_
      refine i_227_305 (fs2 := mf (u1 (S9 128) 19 (zor (S9 128 19) 1))) hR.c128 (Nat.le_of_ble_eq_true rfl) (mfs_19 (v := zor (S9 128 19) 1)) (by decide) ?_
      refine xgen (P := mR w0 (u2 S9 128 19 (zor (S9 128 19) 1)) V9) hR.fld2 (fun w hR => ?_)
      refine i_227_308 (x := 128) l0 ?_
      refine i_227_309 (v := Value.ref 154) hR.c128 rfl ?_
      refine i_227_312 (x := Int32.ofInt r) l1 ?_
      refine i_227_313 (v := Value.int (Int32.ofInt (S9 154 ((r).toNat)))) (hR.row a154) (ix0 (T := r) (by omega) (by omega)) (ix1 (T := r) (by omega) (by omega) (by omega)) (ra (T := r) (by omega) (by omega) rfl) ?_
      refine i_227_314 ?_
      refine i_227_315 (b_ne (a := S9 154 ((r).toNat)) (b := 2) ⟨by omega, by omega⟩ ⟨by decide, by decide⟩ fun c3 => ?_) (b_eq (a := S9 154 ((r).toNat)) (b := 2) ⟨by omega, by omega⟩ ⟨by decide, by decide⟩ fun c3 => ?_)
      · refine i_227_329 (x := 128) l0 ?_
        refine i_227_330 (v := Value.ref 154) hR.c128 rfl ?_
        refine i_227_333 (x := Int32.ofInt r) l1 ?_
        refine i_227_334 (v := Value.int (Int32.ofInt (S9 154 ((r).toNat)))) (hR.row a154) (ix0 (T := r) (by omega) (by omega)) (ix1 (T := r) (by omega) (by omega) (by omega)) (ra (T := r) (by omega) (by omega) rfl) ?_
        refine i_227_335 ?_
        refine i_227_336 (b_ne (a := S9 154 ((r).toNat)) (b := 1) ⟨by omega, by omega⟩ ⟨by decide, by decide⟩ fun c4 => ?_) (b_eq (a := S9 154 ((r).toNat)) (b := 1) ⟨by omega, by omega⟩ ⟨by decide, by decide⟩ fun c4 => ?_)
        · have hK3 : K = 3 := by omega
          obtain ⟨g155, gV⟩ := hid.o hg3 hK3
          have hm9 := hid.o hm9h hK3
          have hT := hT.resolve_left (by omega)
          refine i_227_350 (x := 128) l0 ?_
          refine i_227_351 (v := Value.ref 147) hR.c128 rfl ?_
          refine i_227_354 (x := 128) l0 ?_
          refine i_227_355 (v := Value.ref 157) hR.c128 rfl ?_
          refine i_227_358 (x := Int32.ofInt r) l1 ?_
          obtain ⟨gp, hgp, hgr⟩ := hR.part (j := (r).toNat) (by omega)
          refine i_227_359 (v := Value.ref (160 + 2 * r.toNat)) hgp (ix0 (by omega) (by omega)) (ix1 (by omega) (by omega) (by omega)) (by rw [ixn (by omega) (by omega)]; exact hgr) ?_
          obtain ⟨fs, hobj⟩ := hR.obj (h := 147) (iNw (h := 147) (by decide) (by decide) (by decide))
          obtain ⟨w, hrun, hR⟩ := r_setn (d := d + 5) (v := m9) (c := 4700) hR (iNw (h := 147) (by decide) (by decide) (by decide)) (iNp (r := r) (by omega) (by omega)) (gV) rfl (by omega)
          refine i_227_360 hobj (Nat.le_of_ble_eq_true rfl) hrun ?_
          refine i_227_363 (x := 128) l0 ?_
          refine i_227_364 (x := Int32.ofInt r) l1 ?_
          have hobj := hR.c128
          obtain ⟨w, hrun, hR⟩ := s_exponent (d := d + 6) (r := r) hR (by omega) (by omega)
          rw [show (u2 S9 128 19 (zor (S9 128 19) 1)) 155 r.toNat = S9 155 r.toNat by rw [u2_e, if_neg (by omega)], show (u2 S9 128 19 (zor (S9 128 19) 1)) 153 r.toNat = S9 153 r.toNat by rw [u2_e, if_neg (by omega)]] at hrun
          rw [g155, g53] at hrun
          refine i_227_365 hobj (Nat.le_of_ble_eq_true rfl) hrun ?_
          refine i_227_368 (x := Int32.ofInt (S 155 a.toNat - S 153 a.toNat)) l8 ?_
          have hrun := s_min (d := d + 6) (w := w) (a := T - S 153 r.toNat) (b := S 155 a.toNat - S 153 a.toNat) ⟨by omega, by omega⟩ ⟨by omega, by omega⟩
          refine i_227_370 (Nat.le_of_ble_eq_true rfl) hrun ?_
          refine i_227_373 rfl ?_
          refine lgen1 (i := 11) (v := Value.int (Int32.ofInt (min (T - S 153 r.toNat) (S 155 a.toNat - S 153 a.toNat)))) (fun lv lg ls => ?_)
          replace l10 := lg 10 _ rfl rfl l10
          replace l9 := lg 9 _ rfl rfl l9
          replace l8 := lg 8 _ rfl rfl l8
          replace l0 := lg 0 _ rfl rfl l0
          replace l1 := lg 1 _ rfl rfl l1
          replace l2 := lg 2 _ rfl rfl l2
          replace l3 := lg 3 _ rfl rfl l3
          replace l4 := lg 4 _ rfl rfl l4
          replace l5 := lg 5 _ rfl rfl l5
          replace l6 := lg 6 _ rfl rfl l6
          replace l7 := lg 7 _ rfl rfl l7
          have l11 := ls
          refine i_227_375 (x := 128) l0 ?_
          refine i_227_376 (v := Value.ref 147) hR.c128 rfl ?_
          refine i_227_379 (x := 128) l0 ?_
          refine i_227_380 (x := Int32.ofInt r) l1 ?_
          have hobj := hR.c128
          obtain ⟨w, hrun, hR⟩ := s_exponent (d := d + 6) (r := r) hR (by omega) (by omega)
          rw [show (u2 S9 128 19 (zor (S9 128 19) 1)) 155 r.toNat = S9 155 r.toNat by rw [u2_e, if_neg (by omega)], show (u2 S9 128 19 (zor (S9 128 19) 1)) 153 r.toNat = S9 153 r.toNat by rw [u2_e, if_neg (by omega)]] at hrun
          rw [g155, g53] at hrun
          refine i_227_381 hobj (Nat.le_of_ble_eq_true rfl) hrun ?_
          refine i_227_384 (x := Int32.ofInt (min (T - S 153 r.toNat) (S 155 a.toNat - S 153 a.toNat))) l11 ?_
          refine i_227_386 (c := Int32.ofInt ((T - S 153 r.toNat) - (min (T - S 153 r.toNat) (S 155 a.toNat - S 153 a.toNat)))) (o_sub (T - S 153 r.toNat) (min (T - S 153 r.toNat) (S 155 a.toNat - S 153 a.toNat))) ?_
          obtain ⟨fs, hobj⟩ := hR.obj (h := 147) (iNw (h := 147) (by decide) (by decide) (by decide))
          obtain ⟨w, hrun, hR⟩ := r_up (d := d + 5) (v := m9) (c := 4700) (k := (T - S 153 r.toNat) - (min (T - S 153 r.toNat) (S 155 a.toNat - S 153 a.toNat))) hR (iNw (h := 147) (by decide) (by decide) (by decide)) (uv_s) rfl (by omega) (by omega)
          rw [uvv] at hR
          refine i_227_387 hobj (Nat.le_of_ble_eq_true rfl) hrun ?_
          refine i_227_390 (x := 128) l0 ?_
          refine i_227_391 (v := Value.ref 149) hR.c128 rfl ?_
          refine i_227_394 (x := Int32.ofInt (S 155 a.toNat - S 153 a.toNat)) l8 ?_
          refine i_227_396 (x := Int32.ofInt (min (T - S 153 r.toNat) (S 155 a.toNat - S 153 a.toNat))) l11 ?_
          refine i_227_398 (c := Int32.ofInt ((S 155 a.toNat - S 153 a.toNat) - (min (T - S 153 r.toNat) (S 155 a.toNat - S 153 a.toNat)))) (o_sub (S 155 a.toNat - S 153 a.toNat) (min (T - S 153 r.toNat) (S 155 a.toNat - S 153 a.toNat))) ?_
          obtain ⟨fs, hobj⟩ := hR.obj (h := 149) (iNw (h := 149) (by decide) (by decide) (by decide))
          obtain ⟨w, hrun, hR⟩ := r_up (d := d + 5) (v := M) (c := 4700) (k := (S 155 a.toNat - S 153 a.toNat) - (min (T - S 153 r.toNat) (S 155 a.toNat - S 153 a.toNat))) hR (iNw (h := 149) (by decide) (by decide) (by decide)) ((uv_n (by omega)).trans (g149)) rfl (by omega) (by omega)
          refine i_227_399 hobj (Nat.le_of_ble_eq_true rfl) hrun ?_
          refine i_227_402 (x := 128) l0 ?_
          refine i_227_403 (v := Value.ref 147) hR.c128 rfl ?_
          refine i_227_406 (x := 128) l0 ?_
          refine i_227_407 (v := Value.ref 149) hR.c128 rfl ?_
          obtain ⟨fs, hobj⟩ := hR.obj (h := 147) (iNw (h := 147) (by decide) (by decide) (by decide))
          have hrun := r_cmp (d := d + 5) (v := m9 * 2 ^ ((T - S 153 r.toNat) - (min (T - S 153 r.toNat) (S 155 a.toNat - S 153 a.toNat)) : Int).toNat) (v2 := M * 2 ^ ((S 155 a.toNat - S 153 a.toNat) - (min (T - S 153 r.toNat) (S 155 a.toNat - S 153 a.toNat)) : Int).toNat) hR (iNw (h := 147) (by decide) (by decide) (by decide)) (iNw (h := 149) (by decide) (by decide) (by decide)) ((uv_n (by omega)).trans (uv_s)) (uv_s)
          have hcb := ncmp_1 (m9 * 2 ^ ((T - S 153 r.toNat) - (min (T - S 153 r.toNat) (S 155 a.toNat - S 153 a.toNat)) : Int).toNat) (M * 2 ^ ((S 155 a.toNat - S 153 a.toNat) - (min (T - S 153 r.toNat) (S 155 a.toNat - S 153 a.toNat)) : Int).toNat)
          refine i_227_410 hobj (Nat.le_of_ble_eq_true rfl) hrun ?_
          refine i_227_413 rfl ?_
          refine lgen1 (i := 12) (v := Value.int (Int32.ofInt (ncmp (m9 * 2 ^ ((T - S 153 r.toNat) - (min (T - S 153 r.toNat) (S 155 a.toNat - S 153 a.toNat)) : Int).toNat) (M * 2 ^ ((S 155 a.toNat - S 153 a.toNat) - (min (T - S 153 r.toNat) (S 155 a.toNat - S 153 a.toNat)) : Int).toNat)))) (fun lv lg ls => ?_)
          replace l11 := lg 11 _ rfl rfl l11
          replace l10 := lg 10 _ rfl rfl l10
          replace l9 := lg 9 _ rfl rfl l9
          replace l8 := lg 8 _ rfl rfl l8
          replace l0 := lg 0 _ rfl rfl l0
          replace l1 := lg 1 _ rfl rfl l1
          replace l2 := lg 2 _ rfl rfl l2
          replace l3 := lg 3 _ rfl rfl l3
          replace l4 := lg 4 _ rfl rfl l4
          replace l5 := lg 5 _ rfl rfl l5
          replace l6 := lg 6 _ rfl rfl l6
          replace l7 := lg 7 _ rfl rfl l7
          have l12 := ls
          refine i_227_415 (x := Int32.ofInt (ncmp (m9 * 2 ^ ((T - S 153 r.toNat) - (min (T - S 153 r.toNat) (S 155 a.toNat - S 153 a.toNat)) : Int).toNat) (M * 2 ^ ((S 155 a.toNat - S 153 a.toNat) - (min (T - S 153 r.toNat) (S 155 a.toNat - S 153 a.toNat)) : Int).toNat))) l12 ?_
          refine i_227_417 (z_ne (a := ncmp (m9 * 2 ^ ((T - S 153 r.toNat) - (min (T - S 153 r.toNat) (S 155 a.toNat - S 153 a.toNat)) : Int).toNat) (M * 2 ^ ((S 155 a.toNat - S 153 a.toNat) - (min (T - S 153 r.toNat) (S 155 a.toNat - S 153 a.toNat)) : Int).toNat)) ⟨by omega, by omega⟩ fun c5 => ?_) (z_eq (a := ncmp (m9 * 2 ^ ((T - S 153 r.toNat) - (min (T - S 153 r.toNat) (S 155 a.toNat - S 153 a.toNat)) : Int).toNat) (M * 2 ^ ((S 155 a.toNat - S 153 a.toNat) - (min (T - S 153 r.toNat) (S 155 a.toNat - S 153 a.toNat)) : Int).toNat)) ⟨by omega, by omega⟩ fun c5 => ?_)
          · refine i_227_436 (x := Int32.ofInt sg) l5 ?_
            refine i_227_438 (z_eq (a := sg) ⟨by omega, by omega⟩ fun c6 => ?_) (z_ne (a := sg) ⟨by omega, by omega⟩ fun c6 => ?_)
            · refine i_227_447 (x := Int32.ofInt (ncmp (m9 * 2 ^ ((T - S 153 r.toNat) - (min (T - S 153 r.toNat) (S 155 a.toNat - S 153 a.toNat)) : Int).toNat) (M * 2 ^ ((S 155 a.toNat - S 153 a.toNat) - (min (T - S 153 r.toNat) (S 155 a.toNat - S 153 a.toNat)) : Int).toNat))) l12 ?_
              refine i_227_449 ?_
              have hcut : cut = true := hkp.elim (fun h => absurd h.1 (by omega)) And.right
              have eo : whQ (S 153 r.toNat) (S 128 17) (S 128 18) (S 128 20) (S 128 19) mode sg X E cut (S 155 a.toNat - S 153 a.toNat) M = (K, sg, T, m9, ncmp (m9 * 2 ^ ((T - S 153 r.toNat) - (min (T - S 153 r.toNat) (S 155 a.toNat - S 153 a.toNat)) : Int).toNat) (M * 2 ^ ((S 155 a.toNat - S 153 a.toNat) - (min (T - S 153 r.toNat) (S 155 a.toNat - S 153 a.toNat)) : Int).toNat), zor (S9 128 19) 1) := by
                rw [g4]
                unfold whQ
                rw [if_neg (by omega)]
                unfold whR oR whC
                rw [hR9, if_neg (by rw [hcut]; decide)]
                dsimp only
                rw [if_neg (by omega), if_neg (by omega), if_pos (by omega), if_neg (by omega)]
              rw [eo]
              exact ⟨rfl, _, _, hR, oP_fl (oP_v (oP_v hO (by decide)) (by decide)) rfl rfl rfl rfl rfl⟩
            · refine i_227_441 (x := Int32.ofInt (ncmp (m9 * 2 ^ ((T - S 153 r.toNat) - (min (T - S 153 r.toNat) (S 155 a.toNat - S 153 a.toNat)) : Int).toNat) (M * 2 ^ ((S 155 a.toNat - S 153 a.toNat) - (min (T - S 153 r.toNat) (S 155 a.toNat - S 153 a.toNat)) : Int).toNat))) l12 ?_
              refine i_227_443 (c := Int32.ofInt (-(ncmp (m9 * 2 ^ ((T - S 153 r.toNat) - (min (T - S 153 r.toNat) (S 155 a.toNat - S 153 a.toNat)) : Int).toNat) (M * 2 ^ ((S 155 a.toNat - S 153 a.toNat) - (min (T - S 153 r.toNat) (S 155 a.toNat - S 153 a.toNat)) : Int).toNat)))) (o_neg (ncmp (m9 * 2 ^ ((T - S 153 r.toNat) - (min (T - S 153 r.toNat) (S 155 a.toNat - S 153 a.toNat)) : Int).toNat) (M * 2 ^ ((S 155 a.toNat - S 153 a.toNat) - (min (T - S 153 r.toNat) (S 155 a.toNat - S 153 a.toNat)) : Int).toNat))) ?_
              refine i_227_444 ?_
              refine i_227_449 ?_
              have hcut : cut = true := hkp.elim (fun h => absurd h.1 (by omega)) And.right
              have eo : whQ (S 153 r.toNat) (S 128 17) (S 128 18) (S 128 20) (S 128 19) mode sg X E cut (S 155 a.toNat - S 153 a.toNat) M = (K, sg, T, m9, -(ncmp (m9 * 2 ^ ((T - S 153 r.toNat) - (min (T - S 153 r.toNat) (S 155 a.toNat - S 153 a.toNat)) : Int).toNat) (M * 2 ^ ((S 155 a.toNat - S 153 a.toNat) - (min (T - S 153 r.toNat) (S 155 a.toNat - S 153 a.toNat)) : Int).toNat)), zor (S9 128 19) 1) := by
                rw [g4]
                unfold whQ
                rw [if_neg (by omega)]
                unfold whR oR whC
                rw [hR9, if_neg (by rw [hcut]; decide)]
                dsimp only
                rw [if_neg (by omega), if_neg (by omega), if_neg (by omega), if_neg (by omega)]
              rw [eo]
              exact ⟨rfl, _, _, hR, oP_fl (oP_v (oP_v hO (by decide)) (by decide)) rfl rfl rfl rfl rfl⟩
          · refine i_227_420 (x := Int32.ofInt (zand (S 128 19) 1)) l9 ?_
            refine i_227_422 (z_ne (a := zand (S 128 19) 1) ⟨by omega, by omega⟩ fun c7 => ?_) (z_eq (a := zand (S 128 19) 1) ⟨by omega, by omega⟩ fun c7 => ?_)
            · refine i_227_436 (x := Int32.ofInt sg) l5 ?_
              refine i_227_438 (z_eq (a := sg) ⟨by omega, by omega⟩ fun c8 => ?_) (z_ne (a := sg) ⟨by omega, by omega⟩ fun c8 => ?_)
              · refine i_227_447 (x := Int32.ofInt (ncmp (m9 * 2 ^ ((T - S 153 r.toNat) - (min (T - S 153 r.toNat) (S 155 a.toNat - S 153 a.toNat)) : Int).toNat) (M * 2 ^ ((S 155 a.toNat - S 153 a.toNat) - (min (T - S 153 r.toNat) (S 155 a.toNat - S 153 a.toNat)) : Int).toNat))) l12 ?_
                refine i_227_449 ?_
                have hcut : cut = true := hkp.elim (fun h => absurd h.1 (by omega)) And.right
                have eo : whQ (S 153 r.toNat) (S 128 17) (S 128 18) (S 128 20) (S 128 19) mode sg X E cut (S 155 a.toNat - S 153 a.toNat) M = (K, sg, T, m9, ncmp (m9 * 2 ^ ((T - S 153 r.toNat) - (min (T - S 153 r.toNat) (S 155 a.toNat - S 153 a.toNat)) : Int).toNat) (M * 2 ^ ((S 155 a.toNat - S 153 a.toNat) - (min (T - S 153 r.toNat) (S 155 a.toNat - S 153 a.toNat)) : Int).toNat), zor (S9 128 19) 1) := by
                  rw [g4]
                  unfold whQ
                  rw [if_neg (by omega)]
                  unfold whR oR whC
                  rw [hR9, if_neg (by rw [hcut]; decide)]
                  dsimp only
                  rw [if_neg (by omega), if_neg (by omega), if_pos (by omega), if_neg (by omega)]
                rw [eo]
                exact ⟨rfl, _, _, hR, oP_fl (oP_v (oP_v hO (by decide)) (by decide)) rfl rfl rfl rfl rfl⟩
              · refine i_227_441 (x := Int32.ofInt (ncmp (m9 * 2 ^ ((T - S 153 r.toNat) - (min (T - S 153 r.toNat) (S 155 a.toNat - S 153 a.toNat)) : Int).toNat) (M * 2 ^ ((S 155 a.toNat - S 153 a.toNat) - (min (T - S 153 r.toNat) (S 155 a.toNat - S 153 a.toNat)) : Int).toNat))) l12 ?_
                refine i_227_443 (c := Int32.ofInt (-(ncmp (m9 * 2 ^ ((T - S 153 r.toNat) - (min (T - S 153 r.toNat) (S 155 a.toNat - S 153 a.toNat)) : Int).toNat) (M * 2 ^ ((S 155 a.toNat - S 153 a.toNat) - (min (T - S 153 r.toNat) (S 155 a.toNat - S 153 a.toNat)) : Int).toNat)))) (o_neg (ncmp (m9 * 2 ^ ((T - S 153 r.toNat) - (min (T - S 153 r.toNat) (S 155 a.toNat - S 153 a.toNat)) : Int).toNat) (M * 2 ^ ((S 155 a.toNat - S 153 a.toNat) - (min (T - S 153 r.toNat) (S 155 a.toNat - S 153 a.toNat)) : Int).toNat))) ?_
                refine i_227_444 ?_
                refine i_227_449 ?_
                have hcut : cut = true := hkp.elim (fun h => absurd h.1 (by omega)) And.right
                have eo : whQ (S 153 r.toNat) (S 128 17) (S 128 18) (S 128 20) (S 128 19) mode sg X E cut (S 155 a.toNat - S 153 a.toNat) M = (K, sg, T, m9, -(ncmp (m9 * 2 ^ ((T - S 153 r.toNat) - (min (T - S 153 r.toNat) (S 155 a.toNat - S 153 a.toNat)) : Int).toNat) (M * 2 ^ ((S 155 a.toNat - S 153 a.toNat) - (min (T - S 153 r.toNat) (S 155 a.toNat - S 153 a.toNat)) : Int).toNat)), zor (S9 128 19) 1) := by
                  rw [g4]
                  unfold whQ
                  rw [if_neg (by omega)]
                  unfold whR oR whC
                  rw [hR9, if_neg (by rw [hcut]; decide)]
                  dsimp only
                  rw [if_neg (by omega), if_neg (by omega), if_neg (by omega), if_neg (by omega)]
                rw [eo]
                exact ⟨rfl, _, _, hR, oP_fl (oP_v (oP_v hO (by decide)) (by decide)) rfl rfl rfl rfl rfl⟩
            · refine i_227_425 (x := 128) l0 ?_
              refine i_227_426 rfl ?_
              refine i_227_427 (v := Value.int (Int32.ofInt (zor (S9 128 19) 1))) hR.c128 rfl ?_
              refine i_227_430 ?_
              refine i_227_432 (c := Int32.ofInt (zand (zor (S9 128 19) 1) (-2))) (by rw [show (-2 : Int32) = Int32.ofInt (-2) by decide]; exact o_and _ _) ?_
              refine i_227_433 (fs2 := mf (u1 ((u2 S9 128 19 (zor (S9 128 19) 1)) 128) 19 (zand (zor (S9 128 19) 1) (-2)))) hR.c128 (Nat.le_of_ble_eq_true rfl) (mfs_19 (v := zand (zor (S9 128 19) 1) (-2))) (by decide) ?_
              refine xgen (P := mR w0 (u2 (u2 S9 128 19 (zor (S9 128 19) 1)) 128 19 (zand (zor (S9 128 19) 1) (-2))) (uv (uv V9 147 (m9 * 2 ^ ((T - S 153 r.toNat) - (min (T - S 153 r.toNat) (S 155 a.toNat - S 153 a.toNat)) : Int).toNat)) 149 (M * 2 ^ ((S 155 a.toNat - S 153 a.toNat) - (min (T - S 153 r.toNat) (S 155 a.toNat - S 153 a.toNat)) : Int).toNat))) hR.fld2 (fun w hR => ?_)
              refine i_227_436 (x := Int32.ofInt sg) l5 ?_
              refine i_227_438 (z_eq (a := sg) ⟨by omega, by omega⟩ fun c9 => ?_) (z_ne (a := sg) ⟨by omega, by omega⟩ fun c9 => ?_)
              · refine i_227_447 (x := Int32.ofInt (ncmp (m9 * 2 ^ ((T - S 153 r.toNat) - (min (T - S 153 r.toNat) (S 155 a.toNat - S 153 a.toNat)) : Int).toNat) (M * 2 ^ ((S 155 a.toNat - S 153 a.toNat) - (min (T - S 153 r.toNat) (S 155 a.toNat - S 153 a.toNat)) : Int).toNat))) l12 ?_
                refine i_227_449 ?_
                have hcut : cut = true := hkp.elim (fun h => absurd h.1 (by omega)) And.right
                have eo : whQ (S 153 r.toNat) (S 128 17) (S 128 18) (S 128 20) (S 128 19) mode sg X E cut (S 155 a.toNat - S 153 a.toNat) M = (K, sg, T, m9, ncmp (m9 * 2 ^ ((T - S 153 r.toNat) - (min (T - S 153 r.toNat) (S 155 a.toNat - S 153 a.toNat)) : Int).toNat) (M * 2 ^ ((S 155 a.toNat - S 153 a.toNat) - (min (T - S 153 r.toNat) (S 155 a.toNat - S 153 a.toNat)) : Int).toNat), zand (zor (S9 128 19) 1) (-2)) := by
                  rw [g4]
                  unfold whQ
                  rw [if_neg (by omega)]
                  unfold whR oR whC
                  rw [hR9, if_neg (by rw [hcut]; decide)]
                  dsimp only
                  rw [if_neg (by omega), if_neg (by omega), if_pos (by omega), if_pos ⟨by omega, by omega⟩]
                rw [eo]
                exact ⟨rfl, _, _, hR, oP_fl (oP_fl (o' := (K, sg, T, m9, t9, zor (S9 128 19) 1)) (oP_v (oP_v hO (by decide)) (by decide)) rfl rfl rfl rfl rfl) rfl rfl rfl rfl rfl⟩
              · refine i_227_441 (x := Int32.ofInt (ncmp (m9 * 2 ^ ((T - S 153 r.toNat) - (min (T - S 153 r.toNat) (S 155 a.toNat - S 153 a.toNat)) : Int).toNat) (M * 2 ^ ((S 155 a.toNat - S 153 a.toNat) - (min (T - S 153 r.toNat) (S 155 a.toNat - S 153 a.toNat)) : Int).toNat))) l12 ?_
                refine i_227_443 (c := Int32.ofInt (-(ncmp (m9 * 2 ^ ((T - S 153 r.toNat) - (min (T - S 153 r.toNat) (S 155 a.toNat - S 153 a.toNat)) : Int).toNat) (M * 2 ^ ((S 155 a.toNat - S 153 a.toNat) - (min (T - S 153 r.toNat) (S 155 a.toNat - S 153 a.toNat)) : Int).toNat)))) (o_neg (ncmp (m9 * 2 ^ ((T - S 153 r.toNat) - (min (T - S 153 r.toNat) (S 155 a.toNat - S 153 a.toNat)) : Int).toNat) (M * 2 ^ ((S 155 a.toNat - S 153 a.toNat) - (min (T - S 153 r.toNat) (S 155 a.toNat - S 153 a.toNat)) : Int).toNat))) ?_
                refine i_227_444 ?_
                refine i_227_449 ?_
                have hcut : cut = true := hkp.elim (fun h => absurd h.1 (by omega)) And.right
                have eo : whQ (S 153 r.toNat) (S 128 17) (S 128 18) (S 128 20) (S 128 19) mode sg X E cut (S 155 a.toNat - S 153 a.toNat) M = (K, sg, T, m9, -(ncmp (m9 * 2 ^ ((T - S 153 r.toNat) - (min (T - S 153 r.toNat) (S 155 a.toNat - S 153 a.toNat)) : Int).toNat) (M * 2 ^ ((S 155 a.toNat - S 153 a.toNat) - (min (T - S 153 r.toNat) (S 155 a.toNat - S 153 a.toNat)) : Int).toNat)), zand (zor (S9 128 19) 1) (-2)) := by
                  rw [g4]
                  unfold whQ
                  rw [if_neg (by omega)]
                  unfold whR oR whC
                  rw [hR9, if_neg (by rw [hcut]; decide)]
                  dsimp only
                  rw [if_neg (by omega), if_neg (by omega), if_neg (by omega), if_pos ⟨by omega, by omega⟩]
                rw [eo]
                exact ⟨rfl, _, _, hR, oP_fl (oP_fl (o' := (K, sg, T, m9, t9, zor (S9 128 19) 1)) (oP_v (oP_v hO (by decide)) (by decide)) rfl rfl rfl rfl rfl) rfl rfl rfl rfl rfl⟩
        · refine i_227_339 (x := Int32.ofInt sg) l5 ?_
          refine i_227_341 (z_eq (a := sg) ⟨by omega, by omega⟩ fun c10 => ?_) (z_ne (a := sg) ⟨by omega, by omega⟩ fun c10 => ?_)
          · refine i_227_348 ?_
            refine i_227_349 ?_
            have hcut : cut = true := hkp.elim (fun h => absurd h.1 (by omega)) And.right
            have eo : whQ (S 153 r.toNat) (S 128 17) (S 128 18) (S 128 20) (S 128 19) mode sg X E cut (S 155 a.toNat - S 153 a.toNat) M = (K, sg, T, m9, 1, zor (S9 128 19) 1) := by
              rw [g4]
              unfold whQ
              rw [if_neg (by omega)]
              unfold whR oR whC
              rw [hR9, if_neg (by rw [hcut]; decide)]
              dsimp only
              by_cases k2 : K = 2
              · rw [if_pos k2, k2]
                first | (rw [if_pos (by omega)]; done) | (rw [if_neg (by omega)]; done) | (exfalso; omega)
              · rw [if_neg k2, if_pos (by omega), show K = 1 by omega]
                first | (rw [if_pos (by omega)]; done) | (rw [if_neg (by omega)]; done) | (exfalso; omega)
            rw [eo]
            exact ⟨rfl, _, _, hR, oP_fl hO rfl rfl rfl rfl rfl⟩
          · refine i_227_344 ?_
            refine i_227_345 ?_
            refine i_227_349 ?_
            have hcut : cut = true := hkp.elim (fun h => absurd h.1 (by omega)) And.right
            have eo : whQ (S 153 r.toNat) (S 128 17) (S 128 18) (S 128 20) (S 128 19) mode sg X E cut (S 155 a.toNat - S 153 a.toNat) M = (K, sg, T, m9, (-1), zor (S9 128 19) 1) := by
              rw [g4]
              unfold whQ
              rw [if_neg (by omega)]
              unfold whR oR whC
              rw [hR9, if_neg (by rw [hcut]; decide)]
              dsimp only
              by_cases k2 : K = 2
              · rw [if_pos k2, k2]
                first | (rw [if_pos (by omega)]; done) | (rw [if_neg (by omega)]; done) | (exfalso; omega)
              · rw [if_neg k2, if_pos (by omega), show K = 1 by omega]
                first | (rw [if_pos (by omega)]; done) | (rw [if_neg (by omega)]; done) | (exfalso; omega)
            rw [eo]
            exact ⟨rfl, _, _, hR, oP_fl hO rfl rfl rfl rfl rfl⟩
      · refine i_227_318 (x := Int32.ofInt sg) l5 ?_
        refine i_227_320 (z_eq (a := sg) ⟨by omega, by omega⟩ fun c11 => ?_) (z_ne (a := sg) ⟨by omega, by omega⟩ fun c11 => ?_)
        · refine i_227_327 ?_
          refine i_227_328 ?_
          have hcut : cut = true := hkp.elim (fun h => absurd h.1 (by omega)) And.right
          have eo : whQ (S 153 r.toNat) (S 128 17) (S 128 18) (S 128 20) (S 128 19) mode sg X E cut (S 155 a.toNat - S 153 a.toNat) M = (K, sg, T, m9, (-1), zor (S9 128 19) 1) := by
            rw [g4]
            unfold whQ
            rw [if_neg (by omega)]
            unfold whR oR whC
            rw [hR9, if_neg (by rw [hcut]; decide)]
            dsimp only
            by_cases k2 : K = 2
            · rw [if_pos k2, k2]
              first | (rw [if_pos (by omega)]; done) | (rw [if_neg (by omega)]; done) | (exfalso; omega)
            · rw [if_neg k2, if_pos (by omega), show K = 1 by omega]
              first | (rw [if_pos (by omega)]; done) | (rw [if_neg (by omega)]; done) | (exfalso; omega)
          rw [eo]
          exact ⟨rfl, _, _, hR, oP_fl hO rfl rfl rfl rfl rfl⟩
        · refine i_227_323 ?_
          refine i_227_324 ?_
          refine i_227_328 ?_
          have hcut : cut = true := hkp.elim (fun h => absurd h.1 (by omega)) And.right
          have eo : whQ (S 153 r.toNat) (S 128 17) (S 128 18) (S 128 20) (S 128 19) mode sg X E cut (S 155 a.toNat - S 153 a.toNat) M = (K, sg, T, m9, 1, zor (S9 128 19) 1) := by
            rw [g4]
            unfold whQ
            rw [if_neg (by omega)]
            unfold whR oR whC
            rw [hR9, if_neg (by rw [hcut]; decide)]
            dsimp only
            by_cases k2 : K = 2
            · rw [if_pos k2, k2]
              first | (rw [if_pos (by omega)]; done) | (rw [if_neg (by omega)]; done) | (exfalso; omega)
            · rw [if_neg k2, if_pos (by omega), show K = 1 by omega]
              first | (rw [if_pos (by omega)]; done) | (rw [if_neg (by omega)]; done) | (exfalso; omega)
          rw [eo]
          exact ⟨rfl, _, _, hR, oP_fl hO rfl rfl rfl rfl rfl⟩
    · refine i_227_295 (x := Int32.ofInt t9) l10 ?_
      refine i_227_297 ?_
      have hcut : cut = false := hkp.elim And.right (fun h => absurd h.1 (by omega))
      have eo : whQ (S 153 r.toNat) (S 128 17) (S 128 18) (S 128 20) (S 128 19) mode sg X E cut (S 155 a.toNat - S 153 a.toNat) M = (K, sg, T, m9, t9, F) := by
        unfold whQ
        rw [if_neg (by omega)]
        unfold whR oR
        rw [hR9, if_pos hcut]
      rw [eo]
      exact ⟨rfl, _, _, hR, hO⟩
  · refine i_227_231 (x := 128) l0 ?_
    refine i_227_232 (x := Int32.ofInt r) l1 ?_
    refine i_227_233 ?_
    refine i_227_234 (x := Int32.ofInt sg) l5 ?_
    have hobj := hR.c128
    obtain ⟨w, hrun, hR⟩ := s_special (d := d + 6) (r := r) (k := 2) (s := sg) hR (by omega) (by omega) (by omega)
    refine i_227_236 hobj (Nat.le_of_ble_eq_true rfl) hrun ?_
    refine i_227_239 rfl ?_
    refine i_227_240 (x := 128) l0 ?_
    refine i_227_241 rfl ?_
    refine i_227_242 (v := Value.int (Int32.ofInt (S 128 19))) hR.c128 rfl ?_
    refine i_227_245 ?_
    refine i_227_246 (c := Int32.ofInt (zor (S 128 19) 1)) (o_or (S 128 19) 1) ?_
    refine i_227_247 (fs2 := mf (u1 ((u2 (u2 S 154 ((r).toNat) 2) 156 ((r).toNat) sg) 128) 19 (zor (S 128 19) 1))) hR.c128 (Nat.le_of_ble_eq_true rfl) (mfs_19 (v := zor (S 128 19) 1)) (by decide) ?_
    refine xgen (P := mR w0 (u2 (u2 (u2 S 154 ((r).toNat) 2) 156 ((r).toNat) sg) 128 19 (zor (S 128 19) 1)) V1) hR.fld2 (fun w hR => ?_)
    refine i_227_250 (x := Int32.ofInt sg) l5 ?_
    refine i_227_252 (z_eq (a := sg) ⟨by omega, by omega⟩ fun c12 => ?_) (z_ne (a := sg) ⟨by omega, by omega⟩ fun c12 => ?_)
    · refine i_227_259 ?_
      refine i_227_260 ?_
      have eo : whQ (S 153 r.toNat) (S 128 17) (S 128 18) (S 128 20) (S 128 19) mode sg X E cut (S 155 a.toNat - S 153 a.toNat) M = (2, sg, 0, 0, (-1), zor (S 128 19) 1) := by
        unfold whQ
        rw [if_pos (by omega), if_pos (by omega)]
      rw [eo]
      exact ⟨rfl, _, _, hR, oP_fl (o := oS 2 sg (S 128 19)) (oP_special (by omega) (by decide) nS.refl hnV rfl) rfl rfl rfl rfl rfl⟩
    · refine i_227_255 ?_
      refine i_227_256 ?_
      refine i_227_260 ?_
      have eo : whQ (S 153 r.toNat) (S 128 17) (S 128 18) (S 128 20) (S 128 19) mode sg X E cut (S 155 a.toNat - S 153 a.toNat) M = (2, sg, 0, 0, 1, zor (S 128 19) 1) := by
        unfold whQ
        rw [if_pos (by omega), if_neg (by omega)]
      rw [eo]
      exact ⟨rfl, _, _, hR, oP_fl (o := oS 2 sg (S 128 19)) (oP_special (by omega) (by decide) nS.refl hnV rfl) rfl rfl rfl rfl rfl⟩
set_option maxHeartbeats 8000000 in
theorem s_whl {d : Nat} {w0 w : xW} {S : Nat → Nat → Int} {V : Nat → Nat} {r a way mode : Int} (hR : mR w0 S V w) (hI : mI S V) (hr : 0 ≤ r ∧ r ≤ 15) (ha : 0 ≤ a ∧ a ≤ 15) (hw : 0 ≤ way ∧ way ≤ 4) (hmo : 0 ≤ mode ∧ mode ≤ 4) : ∃ w', xRun (d + 8) 227 [Value.ref 128, Value.int (Int32.ofInt r), Value.int (Int32.ofInt a), Value.int (Int32.ofInt way), Value.int (Int32.ofInt mode)] w (.inl (some (.int (Int32.ofInt (sWhR S V r.toNat a.toNat way mode).2.2.2.2.1)))) w' ∧ ∃ S' V', mR w0 S' V' w' ∧ oP S S' V V' r.toNat (sWhR S V r.toNat a.toNat way mode) := by
  obtain ⟨hp_r, -⟩ := hI.1 r.toNat (by omega)
  obtain ⟨hp_a, hk_a, hn_a, ht_a, hx_a, -⟩ := hI.1 a.toNat (by omega)
  have hi_l := hI.2.1
  have hi_g := hI.2.2.1
  have hi_f := hI.2.2.2
  have key : xEv (d + 8) 227 0 (lv_args 0 [Value.ref 128, Value.int (Int32.ofInt r), Value.int (Int32.ofInt a), Value.int (Int32.ofInt way), Value.int (Int32.ofInt mode)]) [] w (fun o w' => o = .inl (some (.int (Int32.ofInt (sWhR S V r.toNat a.toNat way mode).2.2.2.2.1))) ∧ ∃ S' V', mR w0 S' V' w' ∧ oP S S' V V' r.toNat (sWhR S V r.toNat a.toNat way mode)) := by
    refine i_227_0 (x := Int32.ofInt r) rfl ?_
    have hrun := s_reg1 (d := d + 5) (w := w) (r := r) (by omega) (by omega)
    refine i_227_1 (Nat.le_of_ble_eq_true rfl) hrun ?_
    refine i_227_4 (x := Int32.ofInt a) rfl ?_
    have hrun := s_reg1 (d := d + 5) (w := w) (r := a) (by omega) (by omega)
    refine i_227_5 (Nat.le_of_ble_eq_true rfl) hrun ?_
    refine i_227_8 (x := Int32.ofInt way) rfl ?_
    refine i_227_9 ?_
    refine i_227_10 ?_
    have hrun := s_in (d := d + 6) (w := w) (v := way) (lo := 0) (hi := 4) ⟨by omega, by omega⟩ ⟨by decide, by decide⟩ ⟨by decide, by decide⟩
    refine i_227_11 (Nat.le_of_ble_eq_true rfl) hrun ?_
    have hrun := s_ck1 (d := d + 6) (w := w) (b := (decide (0 ≤ way ∧ way ≤ 4))) (decide_eq_true (by omega))
    refine i_227_14 (Nat.le_of_ble_eq_true rfl) hrun ?_
    refine i_227_17 (x := Int32.ofInt mode) rfl ?_
    have hrun := s_mode1 (d := d + 5) (w := w) (r := mode) (by omega) (by omega)
    refine i_227_19 (Nat.le_of_ble_eq_true rfl) hrun ?_
    refine i_227_22 (x := 128) rfl ?_
    refine i_227_23 (v := Value.ref 154) hR.c128 rfl ?_
    refine i_227_26 (x := Int32.ofInt a) rfl ?_
    refine i_227_27 (v := Value.int (Int32.ofInt (S 154 ((a).toNat)))) (hR.row a154) (ix0 (T := a) (by omega) (by omega)) (ix1 (T := a) (by omega) (by omega) (by omega)) (ra (T := a) (by omega) (by omega) rfl) ?_
    refine i_227_28 ?_
    refine i_227_29 (b_eq (a := S 154 ((a).toNat)) (b := 3) ⟨by omega, by omega⟩ ⟨by decide, by decide⟩ fun c0 => ?_) (b_ne (a := S 154 ((a).toNat)) (b := 3) ⟨by omega, by omega⟩ ⟨by decide, by decide⟩ fun c0 => ?_)
    · refine i_227_67 (x := 128) rfl ?_
      refine i_227_68 (v := Value.ref 156) hR.c128 rfl ?_
      refine i_227_71 (x := Int32.ofInt a) rfl ?_
      refine i_227_72z (v := Value.int (Int32.ofInt (S 156 ((a).toNat)))) (hR.row a156) (ix0 (T := a) (by omega) (by omega)) (ix1 (T := a) (by omega) (by omega) (by omega)) (ra (T := a) (by omega) (by omega) rfl) ?_
      refine i_227_73 (lv2 := [(5, Value.int (Int32.ofInt (S 156 ((a).toNat)))), (0, Value.ref 128), (1, Value.int (Int32.ofInt r)), (2, Value.int (Int32.ofInt a)), (3, Value.int (Int32.ofInt way)), (4, Value.int (Int32.ofInt mode))]) rfl ?_
      refine i_227_75 (x := 128) rfl ?_
      refine i_227_76 (x := Int32.ofInt a) rfl ?_
      have hobj := hR.c128
      obtain ⟨w, hrun, hR⟩ := s_exponent (d := d + 6) (r := a) hR (by omega) (by omega)
      refine i_227_77 hobj (Nat.le_of_ble_eq_true rfl) hrun ?_
      refine i_227_80 (lv2 := [(6, Value.int (Int32.ofInt (S 155 a.toNat - S 153 a.toNat))), (5, Value.int (Int32.ofInt (S 156 ((a).toNat)))), (0, Value.ref 128), (1, Value.int (Int32.ofInt r)), (2, Value.int (Int32.ofInt a)), (3, Value.int (Int32.ofInt way)), (4, Value.int (Int32.ofInt mode))]) rfl ?_
      refine i_227_82 (x := 128) rfl ?_
      refine i_227_83 (v := Value.ref 131) hR.c128 rfl ?_
      refine i_227_86 (x := 128) rfl ?_
      refine i_227_87 (v := Value.ref 157) hR.c128 rfl ?_
      refine i_227_90 (x := Int32.ofInt a) rfl ?_
      obtain ⟨gp, hgp, hgr⟩ := hR.part (j := (a).toNat) (by omega)
      refine i_227_91 (v := Value.ref (160 + 2 * a.toNat)) hgp (ix0 (by omega) (by omega)) (ix1 (by omega) (by omega) (by omega)) (by rw [ixn (by omega) (by omega)]; exact hgr) ?_
      obtain ⟨fs, hobj⟩ := hR.obj (h := 131) (iNw (h := 131) (by decide) (by decide) (by decide))
      obtain ⟨w, hrun, hR⟩ := r_setn (d := d + 5) (v := V (160 + 2 * a.toNat)) (c := 4700) hR (iNw (h := 131) (by decide) (by decide) (by decide)) (iNp (r := a) (by omega) (by omega)) (rfl) rfl (by first | omega | (rw [xbl_div]; omega))
      refine i_227_92 hobj (Nat.le_of_ble_eq_true rfl) hrun ?_
      refine i_227_95 (x := 128) rfl ?_
      refine i_227_96 (v := Value.ref 129) hR.c128 rfl ?_
      refine i_227_99 (x := 128) rfl ?_
      refine i_227_100 (v := Value.ref 131) hR.c128 rfl ?_
      obtain ⟨fs, hobj⟩ := hR.obj (h := 129) (iNw (h := 129) (by decide) (by decide) (by decide))
      obtain ⟨w, hrun, hR⟩ := r_setn (d := d + 5) (v := V (160 + 2 * a.toNat)) (c := 4700) hR (iNw (h := 129) (by decide) (by decide) (by decide)) (iNw (h := 131) (by decide) (by decide) (by decide)) (uv_s) rfl (by first | omega | (rw [xbl_div]; omega))
      refine i_227_103 hobj (Nat.le_of_ble_eq_true rfl) hrun ?_
      refine i_227_106 ?_
      refine i_227_107 (lv2 := [(7, Value.int 1), (6, Value.int (Int32.ofInt (S 155 a.toNat - S 153 a.toNat))), (5, Value.int (Int32.ofInt (S 156 ((a).toNat)))), (0, Value.ref 128), (1, Value.int (Int32.ofInt r)), (2, Value.int (Int32.ofInt a)), (3, Value.int (Int32.ofInt way)), (4, Value.int (Int32.ofInt mode))]) rfl ?_
      refine i_227_109 (x := Int32.ofInt (S 155 a.toNat - S 153 a.toNat)) rfl ?_
      refine i_227_111 (z_ge (a := S 155 a.toNat - S 153 a.toNat) ⟨by omega, by omega⟩ fun c1 => ?_) (z_lt (a := S 155 a.toNat - S 153 a.toNat) ⟨by omega, by omega⟩ fun c1 => ?_)
      · have hX : whM (V (160 + 2 * a.toNat)) (S 155 a.toNat - S 153 a.toNat) (S 156 a.toNat) way = V (160 + 2 * a.toNat) := by
          unfold whM
          rw [if_neg (by omega)]
        have hc : (decide ((S 155 a.toNat - S 153 a.toNat) < 0) && nany (V (160 + 2 * a.toNat)) (-(S 155 a.toNat - S 153 a.toNat))) = false := by rw [decide_eq_false (by omega), Bool.false_and]
        have hE : rtiS (S 155 a.toNat - S 153 a.toNat) = S 155 a.toNat - S 153 a.toNat := if_neg (by omega)
        have eo : sWhR S V r.toNat a.toNat way mode = whQ (S 153 r.toNat) (S 128 17) (S 128 18) (S 128 20) (S 128 19) mode (S 156 a.toNat) (whM (V (160 + 2 * a.toNat)) (S 155 a.toNat - S 153 a.toNat) (S 156 a.toNat) way) (rtiS (S 155 a.toNat - S 153 a.toNat)) (decide ((S 155 a.toNat - S 153 a.toNat) < 0) && nany (V (160 + 2 * a.toNat)) (-(S 155 a.toNat - S 153 a.toNat))) (S 155 a.toNat - S 153 a.toNat) (V (160 + 2 * a.toNat)) := if_neg (by omega)
        rw [eo]
        refine wh_T (d := d) (V := V) hR hI (nV.up (nV.up nV.refl (by omega)) (by omega)) (by rw [hX]; exact uv_s) ((uv_n (by omega)).trans (uv_s)) hr ha hmo hn_a (by rw [hE]; omega) (Nat.le_trans whM_bl (by omega)) (by omega) (by rw [hc]; exact Or.inl ⟨rfl, rfl⟩) rfl rfl rfl rfl rfl rfl (by rw [hE]; rfl) rfl
      · refine i_227_114 (x := 128) rfl ?_
        refine i_227_115 (v := Value.ref 131) hR.c128 rfl ?_
        refine i_227_118 (x := Int32.ofInt (S 155 a.toNat - S 153 a.toNat)) rfl ?_
        refine i_227_120 (c := Int32.ofInt (-(S 155 a.toNat - S 153 a.toNat))) (o_neg (S 155 a.toNat - S 153 a.toNat)) ?_
        obtain ⟨fs, hobj⟩ := hR.obj (h := 131) (iNw (h := 131) (by decide) (by decide) (by decide))
        have hrun := r_any (d := d + 5) (v := V (160 + 2 * a.toNat)) (k := -(S 155 a.toNat - S 153 a.toNat)) hR (iNw (h := 131) (by decide) (by decide) (by decide)) ((uv_n (by omega)).trans (uv_s)) (by omega) (by omega)
        refine i_227_121 hobj (Nat.le_of_ble_eq_true rfl) hrun ?_
        refine i_227_124 (zb_t fun c2 => ?_) (zb_f fun c2 => ?_)
        · refine i_227_131 ?_
          refine i_227_132 (lv2 := [(7, Value.int 0), (6, Value.int (Int32.ofInt (S 155 a.toNat - S 153 a.toNat))), (5, Value.int (Int32.ofInt (S 156 ((a).toNat)))), (0, Value.ref 128), (1, Value.int (Int32.ofInt r)), (2, Value.int (Int32.ofInt a)), (3, Value.int (Int32.ofInt way)), (4, Value.int (Int32.ofInt mode))]) rfl ?_
          refine i_227_134 (x := Int32.ofInt way) rfl ?_
          refine i_227_135 ?_
          refine i_227_136 (b_ne (a := way) (b := 4) ⟨by omega, by omega⟩ ⟨by decide, by decide⟩ fun c3 => ?_) (b_eq (a := way) (b := 4) ⟨by omega, by omega⟩ ⟨by decide, by decide⟩ fun c3 => ?_)
          · refine i_227_154 (x := 128) rfl ?_
            refine i_227_155 (v := Value.ref 131) hR.c128 rfl ?_
            refine i_227_158 (x := Int32.ofInt (S 155 a.toNat - S 153 a.toNat)) rfl ?_
            refine i_227_160 (c := Int32.ofInt (-(S 155 a.toNat - S 153 a.toNat))) (o_neg (S 155 a.toNat - S 153 a.toNat)) ?_
            refine i_227_161 ?_
            refine i_227_162 (x := Int32.ofInt (S 156 ((a).toNat))) rfl ?_
            refine i_227_164 (x := Int32.ofInt way) rfl ?_
            refine i_227_165 (x := 128) rfl ?_
            refine i_227_166 (v := Value.ref 131) hR.c128 rfl ?_
            refine i_227_169 (x := Int32.ofInt (S 155 a.toNat - S 153 a.toNat)) rfl ?_
            refine i_227_171 (c := Int32.ofInt (-(S 155 a.toNat - S 153 a.toNat))) (o_neg (S 155 a.toNat - S 153 a.toNat)) ?_
            obtain ⟨fs, hobj⟩ := hR.obj (h := 131) (iNw (h := 131) (by decide) (by decide) (by decide))
            have hrun := r_bit (d := d + 5) (v := V (160 + 2 * a.toNat)) (k := -(S 155 a.toNat - S 153 a.toNat)) hR (iNw (h := 131) (by decide) (by decide) (by decide)) ((uv_n (by omega)).trans (uv_s)) (by omega) (by omega)
            refine i_227_172 hobj (Nat.le_of_ble_eq_true rfl) hrun ?_
            obtain ⟨w, hrun, hR⟩ := s_goesUp (d := d + 4) (h := 131) (cut := -(S 155 a.toNat - S 153 a.toNat)) (more := 0) (sg := S 156 ((a).toNat)) (mode := way) (odd := bb (nbit (V (160 + 2 * a.toNat)) (-(S 155 a.toNat - S 153 a.toNat)))) hR (iNw (h := 131) (by decide) (by decide) (by decide)) (by omega) (by omega) (by first | omega | exact bb_01 _) (by omega) (by omega) (by omega)
            rw [show (uv (uv V 131 (V (160 + 2 * a.toNat))) 129 (V (160 + 2 * a.toNat))) (131) = V (160 + 2 * a.toNat) from (uv_n (by omega)).trans (uv_s)] at hrun
            refine i_227_175 (Nat.le_of_ble_eq_true rfl) hrun ?_
            refine i_227_178 (lv2 := [(8, Value.int (Int32.ofInt (bb (gU (V (160 + 2 * a.toNat)) (-(S 155 a.toNat - S 153 a.toNat)) 0 (S 156 ((a).toNat)) way (bb (nbit (V (160 + 2 * a.toNat)) (-(S 155 a.toNat - S 153 a.toNat)))))))), (7, Value.int 0), (6, Value.int (Int32.ofInt (S 155 a.toNat - S 153 a.toNat))), (5, Value.int (Int32.ofInt (S 156 ((a).toNat)))), (0, Value.ref 128), (1, Value.int (Int32.ofInt r)), (2, Value.int (Int32.ofInt a)), (3, Value.int (Int32.ofInt way)), (4, Value.int (Int32.ofInt mode))]) rfl ?_
            refine i_227_180 (x := 128) rfl ?_
            refine i_227_181 (v := Value.ref 129) hR.c128 rfl ?_
            refine i_227_184 (x := Int32.ofInt (S 155 a.toNat - S 153 a.toNat)) rfl ?_
            refine i_227_186 (c := Int32.ofInt (-(S 155 a.toNat - S 153 a.toNat))) (o_neg (S 155 a.toNat - S 153 a.toNat)) ?_
            obtain ⟨fs, hobj⟩ := hR.obj (h := 129) (iNw (h := 129) (by decide) (by decide) (by decide))
            obtain ⟨w, hrun, hR⟩ := r_down (d := d + 5) (v := V (160 + 2 * a.toNat)) (k := -(S 155 a.toNat - S 153 a.toNat)) hR (iNw (h := 129) (by decide) (by decide) (by decide)) (uv_s) (by omega) (by omega)
            rw [uvv] at hR
            refine i_227_187 hobj (Nat.le_of_ble_eq_true rfl) hrun ?_
            refine i_227_190 (x := Int32.ofInt (bb (gU (V (160 + 2 * a.toNat)) (-(S 155 a.toNat - S 153 a.toNat)) 0 (S 156 ((a).toNat)) way (bb (nbit (V (160 + 2 * a.toNat)) (-(S 155 a.toNat - S 153 a.toNat))))))) rfl ?_
            refine i_227_192 (zb_f fun c4 => ?_) (zb_t fun c4 => ?_)
            · refine i_227_203 ?_
              refine i_227_204 (lv2 := [(6, Value.int 0), (8, Value.int (Int32.ofInt (bb (gU (V (160 + 2 * a.toNat)) (-(S 155 a.toNat - S 153 a.toNat)) 0 (S 156 ((a).toNat)) way (bb (nbit (V (160 + 2 * a.toNat)) (-(S 155 a.toNat - S 153 a.toNat)))))))), (7, Value.int 0), (5, Value.int (Int32.ofInt (S 156 ((a).toNat)))), (0, Value.ref 128), (1, Value.int (Int32.ofInt r)), (2, Value.int (Int32.ofInt a)), (3, Value.int (Int32.ofInt way)), (4, Value.int (Int32.ofInt mode))]) rfl ?_
              have hX : whM (V (160 + 2 * a.toNat)) (S 155 a.toNat - S 153 a.toNat) (S 156 a.toNat) way = (V (160 + 2 * a.toNat)) / 2 ^ (-(S 155 a.toNat - S 153 a.toNat) : Int).toNat := by
                unfold whM
                rw [if_pos (by omega), show goI (V (160 + 2 * a.toNat)) (0 - (S 155 a.toNat - S 153 a.toNat)) (S 156 a.toNat) way = false by unfold goI; rw [if_neg (by omega), Int.zero_sub]; assumption]
                rfl
              have hc : (decide ((S 155 a.toNat - S 153 a.toNat) < 0) && nany (V (160 + 2 * a.toNat)) (-(S 155 a.toNat - S 153 a.toNat))) = true := by rw [decide_eq_true (by omega), Bool.true_and]; assumption
              have hE : rtiS (S 155 a.toNat - S 153 a.toNat) = 0 := if_pos (by omega)
              have eo : sWhR S V r.toNat a.toNat way mode = whQ (S 153 r.toNat) (S 128 17) (S 128 18) (S 128 20) (S 128 19) mode (S 156 a.toNat) (whM (V (160 + 2 * a.toNat)) (S 155 a.toNat - S 153 a.toNat) (S 156 a.toNat) way) (rtiS (S 155 a.toNat - S 153 a.toNat)) (decide ((S 155 a.toNat - S 153 a.toNat) < 0) && nany (V (160 + 2 * a.toNat)) (-(S 155 a.toNat - S 153 a.toNat))) (S 155 a.toNat - S 153 a.toNat) (V (160 + 2 * a.toNat)) := if_neg (by omega)
              rw [eo]
              refine wh_T (d := d) (V := V) hR hI (nV.up (nV.up nV.refl (by omega)) (by omega)) (by rw [hX]; exact uv_s) ((uv_n (by omega)).trans (uv_s)) hr ha hmo hn_a (by rw [hE]; omega) (Nat.le_trans whM_bl (by omega)) (by omega) (by rw [hc]; exact Or.inr ⟨rfl, rfl⟩) rfl rfl rfl rfl rfl rfl (by rw [hE]; rfl) rfl
            · refine i_227_195 (x := 128) rfl ?_
              refine i_227_196 (v := Value.ref 129) hR.c128 rfl ?_
              refine i_227_199 ?_
              obtain ⟨fs, hobj⟩ := hR.obj (h := 129) (iNw (h := 129) (by decide) (by decide) (by decide))
              obtain ⟨w, hrun, hR⟩ := r_addi (d := d + 5) (v := (V (160 + 2 * a.toNat)) / 2 ^ (-(S 155 a.toNat - S 153 a.toNat) : Int).toNat) (c := 4700) (k := 1) hR (iNw (h := 129) (by decide) (by decide) (by decide)) (uv_s) rfl (by omega) (by omega) (by first | omega | (rw [xbl_div]; omega))
              rw [show (1 : Int).toNat = 1 from rfl] at hR
              rw [uvv] at hR
              refine i_227_200 hobj (Nat.le_of_ble_eq_true rfl) hrun ?_
              refine i_227_203 ?_
              refine i_227_204 (lv2 := [(6, Value.int 0), (8, Value.int (Int32.ofInt (bb (gU (V (160 + 2 * a.toNat)) (-(S 155 a.toNat - S 153 a.toNat)) 0 (S 156 ((a).toNat)) way (bb (nbit (V (160 + 2 * a.toNat)) (-(S 155 a.toNat - S 153 a.toNat)))))))), (7, Value.int 0), (5, Value.int (Int32.ofInt (S 156 ((a).toNat)))), (0, Value.ref 128), (1, Value.int (Int32.ofInt r)), (2, Value.int (Int32.ofInt a)), (3, Value.int (Int32.ofInt way)), (4, Value.int (Int32.ofInt mode))]) rfl ?_
              have hX : whM (V (160 + 2 * a.toNat)) (S 155 a.toNat - S 153 a.toNat) (S 156 a.toNat) way = ((V (160 + 2 * a.toNat)) / 2 ^ (-(S 155 a.toNat - S 153 a.toNat) : Int).toNat) + 1 := by
                unfold whM
                rw [if_pos (by omega), show goI (V (160 + 2 * a.toNat)) (0 - (S 155 a.toNat - S 153 a.toNat)) (S 156 a.toNat) way = true by unfold goI; rw [if_neg (by omega), Int.zero_sub]; assumption]
                rfl
              have hc : (decide ((S 155 a.toNat - S 153 a.toNat) < 0) && nany (V (160 + 2 * a.toNat)) (-(S 155 a.toNat - S 153 a.toNat))) = true := by rw [decide_eq_true (by omega), Bool.true_and]; assumption
              have hE : rtiS (S 155 a.toNat - S 153 a.toNat) = 0 := if_pos (by omega)
              have eo : sWhR S V r.toNat a.toNat way mode = whQ (S 153 r.toNat) (S 128 17) (S 128 18) (S 128 20) (S 128 19) mode (S 156 a.toNat) (whM (V (160 + 2 * a.toNat)) (S 155 a.toNat - S 153 a.toNat) (S 156 a.toNat) way) (rtiS (S 155 a.toNat - S 153 a.toNat)) (decide ((S 155 a.toNat - S 153 a.toNat) < 0) && nany (V (160 + 2 * a.toNat)) (-(S 155 a.toNat - S 153 a.toNat))) (S 155 a.toNat - S 153 a.toNat) (V (160 + 2 * a.toNat)) := if_neg (by omega)
              rw [eo]
              refine wh_T (d := d) (V := V) hR hI (nV.up (nV.up nV.refl (by omega)) (by omega)) (by rw [hX]; exact uv_s) ((uv_n (by omega)).trans (uv_s)) hr ha hmo hn_a (by rw [hE]; omega) (Nat.le_trans whM_bl (by omega)) (by omega) (by rw [hc]; exact Or.inr ⟨rfl, rfl⟩) rfl rfl rfl rfl rfl rfl (by rw [hE]; rfl) rfl
          · refine i_227_139 (x := 128) rfl ?_
            refine i_227_140 (v := Value.ref 131) hR.c128 rfl ?_
            refine i_227_143 (x := Int32.ofInt (S 155 a.toNat - S 153 a.toNat)) rfl ?_
            refine i_227_145 (c := Int32.ofInt (-(S 155 a.toNat - S 153 a.toNat))) (o_neg (S 155 a.toNat - S 153 a.toNat)) ?_
            refine i_227_146 ?_
            refine i_227_147 (c := Int32.ofInt ((-(S 155 a.toNat - S 153 a.toNat)) - 1)) (o_sub (-(S 155 a.toNat - S 153 a.toNat)) 1) ?_
            obtain ⟨fs, hobj⟩ := hR.obj (h := 131) (iNw (h := 131) (by decide) (by decide) (by decide))
            have hrun := r_bit (d := d + 5) (v := V (160 + 2 * a.toNat)) (k := (-(S 155 a.toNat - S 153 a.toNat)) - 1) hR (iNw (h := 131) (by decide) (by decide) (by decide)) ((uv_n (by omega)).trans (uv_s)) (by omega) (by omega)
            refine i_227_148 hobj (Nat.le_of_ble_eq_true rfl) hrun ?_
            refine i_227_151 ?_
            refine i_227_178 (lv2 := [(8, Value.int (Int32.ofInt (bb (nbit (V (160 + 2 * a.toNat)) ((-(S 155 a.toNat - S 153 a.toNat)) - 1))))), (7, Value.int 0), (6, Value.int (Int32.ofInt (S 155 a.toNat - S 153 a.toNat))), (5, Value.int (Int32.ofInt (S 156 ((a).toNat)))), (0, Value.ref 128), (1, Value.int (Int32.ofInt r)), (2, Value.int (Int32.ofInt a)), (3, Value.int (Int32.ofInt way)), (4, Value.int (Int32.ofInt mode))]) rfl ?_
            refine i_227_180 (x := 128) rfl ?_
            refine i_227_181 (v := Value.ref 129) hR.c128 rfl ?_
            refine i_227_184 (x := Int32.ofInt (S 155 a.toNat - S 153 a.toNat)) rfl ?_
            refine i_227_186 (c := Int32.ofInt (-(S 155 a.toNat - S 153 a.toNat))) (o_neg (S 155 a.toNat - S 153 a.toNat)) ?_
            obtain ⟨fs, hobj⟩ := hR.obj (h := 129) (iNw (h := 129) (by decide) (by decide) (by decide))
            obtain ⟨w, hrun, hR⟩ := r_down (d := d + 5) (v := V (160 + 2 * a.toNat)) (k := -(S 155 a.toNat - S 153 a.toNat)) hR (iNw (h := 129) (by decide) (by decide) (by decide)) (uv_s) (by omega) (by omega)
            rw [uvv] at hR
            refine i_227_187 hobj (Nat.le_of_ble_eq_true rfl) hrun ?_
            refine i_227_190 (x := Int32.ofInt (bb (nbit (V (160 + 2 * a.toNat)) ((-(S 155 a.toNat - S 153 a.toNat)) - 1)))) rfl ?_
            refine i_227_192 (zb_f fun c5 => ?_) (zb_t fun c5 => ?_)
            · refine i_227_203 ?_
              refine i_227_204 (lv2 := [(6, Value.int 0), (8, Value.int (Int32.ofInt (bb (nbit (V (160 + 2 * a.toNat)) ((-(S 155 a.toNat - S 153 a.toNat)) - 1))))), (7, Value.int 0), (5, Value.int (Int32.ofInt (S 156 ((a).toNat)))), (0, Value.ref 128), (1, Value.int (Int32.ofInt r)), (2, Value.int (Int32.ofInt a)), (3, Value.int (Int32.ofInt way)), (4, Value.int (Int32.ofInt mode))]) rfl ?_
              have hX : whM (V (160 + 2 * a.toNat)) (S 155 a.toNat - S 153 a.toNat) (S 156 a.toNat) way = (V (160 + 2 * a.toNat)) / 2 ^ (-(S 155 a.toNat - S 153 a.toNat) : Int).toNat := by
                unfold whM
                rw [if_pos (by omega), show goI (V (160 + 2 * a.toNat)) (0 - (S 155 a.toNat - S 153 a.toNat)) (S 156 a.toNat) way = false by unfold goI; rw [if_pos (by omega), Int.zero_sub]; assumption]
                rfl
              have hc : (decide ((S 155 a.toNat - S 153 a.toNat) < 0) && nany (V (160 + 2 * a.toNat)) (-(S 155 a.toNat - S 153 a.toNat))) = true := by rw [decide_eq_true (by omega), Bool.true_and]; assumption
              have hE : rtiS (S 155 a.toNat - S 153 a.toNat) = 0 := if_pos (by omega)
              have eo : sWhR S V r.toNat a.toNat way mode = whQ (S 153 r.toNat) (S 128 17) (S 128 18) (S 128 20) (S 128 19) mode (S 156 a.toNat) (whM (V (160 + 2 * a.toNat)) (S 155 a.toNat - S 153 a.toNat) (S 156 a.toNat) way) (rtiS (S 155 a.toNat - S 153 a.toNat)) (decide ((S 155 a.toNat - S 153 a.toNat) < 0) && nany (V (160 + 2 * a.toNat)) (-(S 155 a.toNat - S 153 a.toNat))) (S 155 a.toNat - S 153 a.toNat) (V (160 + 2 * a.toNat)) := if_neg (by omega)
              rw [eo]
              refine wh_T (d := d) (V := V) hR hI (nV.up (nV.up nV.refl (by omega)) (by omega)) (by rw [hX]; exact uv_s) ((uv_n (by omega)).trans (uv_s)) hr ha hmo hn_a (by rw [hE]; omega) (Nat.le_trans whM_bl (by omega)) (by omega) (by rw [hc]; exact Or.inr ⟨rfl, rfl⟩) rfl rfl rfl rfl rfl rfl (by rw [hE]; rfl) rfl
            · refine i_227_195 (x := 128) rfl ?_
              refine i_227_196 (v := Value.ref 129) hR.c128 rfl ?_
              refine i_227_199 ?_
              obtain ⟨fs, hobj⟩ := hR.obj (h := 129) (iNw (h := 129) (by decide) (by decide) (by decide))
              obtain ⟨w, hrun, hR⟩ := r_addi (d := d + 5) (v := (V (160 + 2 * a.toNat)) / 2 ^ (-(S 155 a.toNat - S 153 a.toNat) : Int).toNat) (c := 4700) (k := 1) hR (iNw (h := 129) (by decide) (by decide) (by decide)) (uv_s) rfl (by omega) (by omega) (by first | omega | (rw [xbl_div]; omega))
              rw [show (1 : Int).toNat = 1 from rfl] at hR
              rw [uvv] at hR
              refine i_227_200 hobj (Nat.le_of_ble_eq_true rfl) hrun ?_
              refine i_227_203 ?_
              refine i_227_204 (lv2 := [(6, Value.int 0), (8, Value.int (Int32.ofInt (bb (nbit (V (160 + 2 * a.toNat)) ((-(S 155 a.toNat - S 153 a.toNat)) - 1))))), (7, Value.int 0), (5, Value.int (Int32.ofInt (S 156 ((a).toNat)))), (0, Value.ref 128), (1, Value.int (Int32.ofInt r)), (2, Value.int (Int32.ofInt a)), (3, Value.int (Int32.ofInt way)), (4, Value.int (Int32.ofInt mode))]) rfl ?_
              have hX : whM (V (160 + 2 * a.toNat)) (S 155 a.toNat - S 153 a.toNat) (S 156 a.toNat) way = ((V (160 + 2 * a.toNat)) / 2 ^ (-(S 155 a.toNat - S 153 a.toNat) : Int).toNat) + 1 := by
                unfold whM
                rw [if_pos (by omega), show goI (V (160 + 2 * a.toNat)) (0 - (S 155 a.toNat - S 153 a.toNat)) (S 156 a.toNat) way = true by unfold goI; rw [if_pos (by omega), Int.zero_sub]; assumption]
                rfl
              have hc : (decide ((S 155 a.toNat - S 153 a.toNat) < 0) && nany (V (160 + 2 * a.toNat)) (-(S 155 a.toNat - S 153 a.toNat))) = true := by rw [decide_eq_true (by omega), Bool.true_and]; assumption
              have hE : rtiS (S 155 a.toNat - S 153 a.toNat) = 0 := if_pos (by omega)
              have eo : sWhR S V r.toNat a.toNat way mode = whQ (S 153 r.toNat) (S 128 17) (S 128 18) (S 128 20) (S 128 19) mode (S 156 a.toNat) (whM (V (160 + 2 * a.toNat)) (S 155 a.toNat - S 153 a.toNat) (S 156 a.toNat) way) (rtiS (S 155 a.toNat - S 153 a.toNat)) (decide ((S 155 a.toNat - S 153 a.toNat) < 0) && nany (V (160 + 2 * a.toNat)) (-(S 155 a.toNat - S 153 a.toNat))) (S 155 a.toNat - S 153 a.toNat) (V (160 + 2 * a.toNat)) := if_neg (by omega)
              rw [eo]
              refine wh_T (d := d) (V := V) hR hI (nV.up (nV.up nV.refl (by omega)) (by omega)) (by rw [hX]; exact uv_s) ((uv_n (by omega)).trans (uv_s)) hr ha hmo hn_a (by rw [hE]; omega) (Nat.le_trans whM_bl (by omega)) (by omega) (by rw [hc]; exact Or.inr ⟨rfl, rfl⟩) rfl rfl rfl rfl rfl rfl (by rw [hE]; rfl) rfl
        · refine i_227_127 ?_
          refine i_227_128 ?_
          refine i_227_132 (lv2 := [(7, Value.int 1), (6, Value.int (Int32.ofInt (S 155 a.toNat - S 153 a.toNat))), (5, Value.int (Int32.ofInt (S 156 ((a).toNat)))), (0, Value.ref 128), (1, Value.int (Int32.ofInt r)), (2, Value.int (Int32.ofInt a)), (3, Value.int (Int32.ofInt way)), (4, Value.int (Int32.ofInt mode))]) rfl ?_
          refine i_227_134 (x := Int32.ofInt way) rfl ?_
          refine i_227_135 ?_
          refine i_227_136 (b_ne (a := way) (b := 4) ⟨by omega, by omega⟩ ⟨by decide, by decide⟩ fun c6 => ?_) (b_eq (a := way) (b := 4) ⟨by omega, by omega⟩ ⟨by decide, by decide⟩ fun c6 => ?_)
          · refine i_227_154 (x := 128) rfl ?_
            refine i_227_155 (v := Value.ref 131) hR.c128 rfl ?_
            refine i_227_158 (x := Int32.ofInt (S 155 a.toNat - S 153 a.toNat)) rfl ?_
            refine i_227_160 (c := Int32.ofInt (-(S 155 a.toNat - S 153 a.toNat))) (o_neg (S 155 a.toNat - S 153 a.toNat)) ?_
            refine i_227_161 ?_
            refine i_227_162 (x := Int32.ofInt (S 156 ((a).toNat))) rfl ?_
            refine i_227_164 (x := Int32.ofInt way) rfl ?_
            refine i_227_165 (x := 128) rfl ?_
            refine i_227_166 (v := Value.ref 131) hR.c128 rfl ?_
            refine i_227_169 (x := Int32.ofInt (S 155 a.toNat - S 153 a.toNat)) rfl ?_
            refine i_227_171 (c := Int32.ofInt (-(S 155 a.toNat - S 153 a.toNat))) (o_neg (S 155 a.toNat - S 153 a.toNat)) ?_
            obtain ⟨fs, hobj⟩ := hR.obj (h := 131) (iNw (h := 131) (by decide) (by decide) (by decide))
            have hrun := r_bit (d := d + 5) (v := V (160 + 2 * a.toNat)) (k := -(S 155 a.toNat - S 153 a.toNat)) hR (iNw (h := 131) (by decide) (by decide) (by decide)) ((uv_n (by omega)).trans (uv_s)) (by omega) (by omega)
            refine i_227_172 hobj (Nat.le_of_ble_eq_true rfl) hrun ?_
            obtain ⟨w, hrun, hR⟩ := s_goesUp (d := d + 4) (h := 131) (cut := -(S 155 a.toNat - S 153 a.toNat)) (more := 0) (sg := S 156 ((a).toNat)) (mode := way) (odd := bb (nbit (V (160 + 2 * a.toNat)) (-(S 155 a.toNat - S 153 a.toNat)))) hR (iNw (h := 131) (by decide) (by decide) (by decide)) (by omega) (by omega) (by first | omega | exact bb_01 _) (by omega) (by omega) (by omega)
            rw [show (uv (uv V 131 (V (160 + 2 * a.toNat))) 129 (V (160 + 2 * a.toNat))) (131) = V (160 + 2 * a.toNat) from (uv_n (by omega)).trans (uv_s)] at hrun
            refine i_227_175 (Nat.le_of_ble_eq_true rfl) hrun ?_
            refine i_227_178 (lv2 := [(8, Value.int (Int32.ofInt (bb (gU (V (160 + 2 * a.toNat)) (-(S 155 a.toNat - S 153 a.toNat)) 0 (S 156 ((a).toNat)) way (bb (nbit (V (160 + 2 * a.toNat)) (-(S 155 a.toNat - S 153 a.toNat)))))))), (7, Value.int 1), (6, Value.int (Int32.ofInt (S 155 a.toNat - S 153 a.toNat))), (5, Value.int (Int32.ofInt (S 156 ((a).toNat)))), (0, Value.ref 128), (1, Value.int (Int32.ofInt r)), (2, Value.int (Int32.ofInt a)), (3, Value.int (Int32.ofInt way)), (4, Value.int (Int32.ofInt mode))]) rfl ?_
            refine i_227_180 (x := 128) rfl ?_
            refine i_227_181 (v := Value.ref 129) hR.c128 rfl ?_
            refine i_227_184 (x := Int32.ofInt (S 155 a.toNat - S 153 a.toNat)) rfl ?_
            refine i_227_186 (c := Int32.ofInt (-(S 155 a.toNat - S 153 a.toNat))) (o_neg (S 155 a.toNat - S 153 a.toNat)) ?_
            obtain ⟨fs, hobj⟩ := hR.obj (h := 129) (iNw (h := 129) (by decide) (by decide) (by decide))
            obtain ⟨w, hrun, hR⟩ := r_down (d := d + 5) (v := V (160 + 2 * a.toNat)) (k := -(S 155 a.toNat - S 153 a.toNat)) hR (iNw (h := 129) (by decide) (by decide) (by decide)) (uv_s) (by omega) (by omega)
            rw [uvv] at hR
            refine i_227_187 hobj (Nat.le_of_ble_eq_true rfl) hrun ?_
            refine i_227_190 (x := Int32.ofInt (bb (gU (V (160 + 2 * a.toNat)) (-(S 155 a.toNat - S 153 a.toNat)) 0 (S 156 ((a).toNat)) way (bb (nbit (V (160 + 2 * a.toNat)) (-(S 155 a.toNat - S 153 a.toNat))))))) rfl ?_
            refine i_227_192 (zb_f fun c7 => ?_) (zb_t fun c7 => ?_)
            · refine i_227_203 ?_
              refine i_227_204 (lv2 := [(6, Value.int 0), (8, Value.int (Int32.ofInt (bb (gU (V (160 + 2 * a.toNat)) (-(S 155 a.toNat - S 153 a.toNat)) 0 (S 156 ((a).toNat)) way (bb (nbit (V (160 + 2 * a.toNat)) (-(S 155 a.toNat - S 153 a.toNat)))))))), (7, Value.int 1), (5, Value.int (Int32.ofInt (S 156 ((a).toNat)))), (0, Value.ref 128), (1, Value.int (Int32.ofInt r)), (2, Value.int (Int32.ofInt a)), (3, Value.int (Int32.ofInt way)), (4, Value.int (Int32.ofInt mode))]) rfl ?_
              have hX : whM (V (160 + 2 * a.toNat)) (S 155 a.toNat - S 153 a.toNat) (S 156 a.toNat) way = (V (160 + 2 * a.toNat)) / 2 ^ (-(S 155 a.toNat - S 153 a.toNat) : Int).toNat := by
                unfold whM
                rw [if_pos (by omega), show goI (V (160 + 2 * a.toNat)) (0 - (S 155 a.toNat - S 153 a.toNat)) (S 156 a.toNat) way = false by unfold goI; rw [if_neg (by omega), Int.zero_sub]; assumption]
                rfl
              have hc : (decide ((S 155 a.toNat - S 153 a.toNat) < 0) && nany (V (160 + 2 * a.toNat)) (-(S 155 a.toNat - S 153 a.toNat))) = false := by rw [decide_eq_true (by omega), Bool.true_and]; assumption
              have hE : rtiS (S 155 a.toNat - S 153 a.toNat) = 0 := if_pos (by omega)
              have eo : sWhR S V r.toNat a.toNat way mode = whQ (S 153 r.toNat) (S 128 17) (S 128 18) (S 128 20) (S 128 19) mode (S 156 a.toNat) (whM (V (160 + 2 * a.toNat)) (S 155 a.toNat - S 153 a.toNat) (S 156 a.toNat) way) (rtiS (S 155 a.toNat - S 153 a.toNat)) (decide ((S 155 a.toNat - S 153 a.toNat) < 0) && nany (V (160 + 2 * a.toNat)) (-(S 155 a.toNat - S 153 a.toNat))) (S 155 a.toNat - S 153 a.toNat) (V (160 + 2 * a.toNat)) := if_neg (by omega)
              rw [eo]
              refine wh_T (d := d) (V := V) hR hI (nV.up (nV.up nV.refl (by omega)) (by omega)) (by rw [hX]; exact uv_s) ((uv_n (by omega)).trans (uv_s)) hr ha hmo hn_a (by rw [hE]; omega) (Nat.le_trans whM_bl (by omega)) (by omega) (by rw [hc]; exact Or.inl ⟨rfl, rfl⟩) rfl rfl rfl rfl rfl rfl (by rw [hE]; rfl) rfl
            · refine i_227_195 (x := 128) rfl ?_
              refine i_227_196 (v := Value.ref 129) hR.c128 rfl ?_
              refine i_227_199 ?_
              obtain ⟨fs, hobj⟩ := hR.obj (h := 129) (iNw (h := 129) (by decide) (by decide) (by decide))
              obtain ⟨w, hrun, hR⟩ := r_addi (d := d + 5) (v := (V (160 + 2 * a.toNat)) / 2 ^ (-(S 155 a.toNat - S 153 a.toNat) : Int).toNat) (c := 4700) (k := 1) hR (iNw (h := 129) (by decide) (by decide) (by decide)) (uv_s) rfl (by omega) (by omega) (by first | omega | (rw [xbl_div]; omega))
              rw [show (1 : Int).toNat = 1 from rfl] at hR
              rw [uvv] at hR
              refine i_227_200 hobj (Nat.le_of_ble_eq_true rfl) hrun ?_
              refine i_227_203 ?_
              refine i_227_204 (lv2 := [(6, Value.int 0), (8, Value.int (Int32.ofInt (bb (gU (V (160 + 2 * a.toNat)) (-(S 155 a.toNat - S 153 a.toNat)) 0 (S 156 ((a).toNat)) way (bb (nbit (V (160 + 2 * a.toNat)) (-(S 155 a.toNat - S 153 a.toNat)))))))), (7, Value.int 1), (5, Value.int (Int32.ofInt (S 156 ((a).toNat)))), (0, Value.ref 128), (1, Value.int (Int32.ofInt r)), (2, Value.int (Int32.ofInt a)), (3, Value.int (Int32.ofInt way)), (4, Value.int (Int32.ofInt mode))]) rfl ?_
              have hX : whM (V (160 + 2 * a.toNat)) (S 155 a.toNat - S 153 a.toNat) (S 156 a.toNat) way = ((V (160 + 2 * a.toNat)) / 2 ^ (-(S 155 a.toNat - S 153 a.toNat) : Int).toNat) + 1 := by
                unfold whM
                rw [if_pos (by omega), show goI (V (160 + 2 * a.toNat)) (0 - (S 155 a.toNat - S 153 a.toNat)) (S 156 a.toNat) way = true by unfold goI; rw [if_neg (by omega), Int.zero_sub]; assumption]
                rfl
              have hc : (decide ((S 155 a.toNat - S 153 a.toNat) < 0) && nany (V (160 + 2 * a.toNat)) (-(S 155 a.toNat - S 153 a.toNat))) = false := by rw [decide_eq_true (by omega), Bool.true_and]; assumption
              have hE : rtiS (S 155 a.toNat - S 153 a.toNat) = 0 := if_pos (by omega)
              have eo : sWhR S V r.toNat a.toNat way mode = whQ (S 153 r.toNat) (S 128 17) (S 128 18) (S 128 20) (S 128 19) mode (S 156 a.toNat) (whM (V (160 + 2 * a.toNat)) (S 155 a.toNat - S 153 a.toNat) (S 156 a.toNat) way) (rtiS (S 155 a.toNat - S 153 a.toNat)) (decide ((S 155 a.toNat - S 153 a.toNat) < 0) && nany (V (160 + 2 * a.toNat)) (-(S 155 a.toNat - S 153 a.toNat))) (S 155 a.toNat - S 153 a.toNat) (V (160 + 2 * a.toNat)) := if_neg (by omega)
              rw [eo]
              refine wh_T (d := d) (V := V) hR hI (nV.up (nV.up nV.refl (by omega)) (by omega)) (by rw [hX]; exact uv_s) ((uv_n (by omega)).trans (uv_s)) hr ha hmo hn_a (by rw [hE]; omega) (Nat.le_trans whM_bl (by omega)) (by omega) (by rw [hc]; exact Or.inl ⟨rfl, rfl⟩) rfl rfl rfl rfl rfl rfl (by rw [hE]; rfl) rfl
          · refine i_227_139 (x := 128) rfl ?_
            refine i_227_140 (v := Value.ref 131) hR.c128 rfl ?_
            refine i_227_143 (x := Int32.ofInt (S 155 a.toNat - S 153 a.toNat)) rfl ?_
            refine i_227_145 (c := Int32.ofInt (-(S 155 a.toNat - S 153 a.toNat))) (o_neg (S 155 a.toNat - S 153 a.toNat)) ?_
            refine i_227_146 ?_
            refine i_227_147 (c := Int32.ofInt ((-(S 155 a.toNat - S 153 a.toNat)) - 1)) (o_sub (-(S 155 a.toNat - S 153 a.toNat)) 1) ?_
            obtain ⟨fs, hobj⟩ := hR.obj (h := 131) (iNw (h := 131) (by decide) (by decide) (by decide))
            have hrun := r_bit (d := d + 5) (v := V (160 + 2 * a.toNat)) (k := (-(S 155 a.toNat - S 153 a.toNat)) - 1) hR (iNw (h := 131) (by decide) (by decide) (by decide)) ((uv_n (by omega)).trans (uv_s)) (by omega) (by omega)
            refine i_227_148 hobj (Nat.le_of_ble_eq_true rfl) hrun ?_
            refine i_227_151 ?_
            refine i_227_178 (lv2 := [(8, Value.int (Int32.ofInt (bb (nbit (V (160 + 2 * a.toNat)) ((-(S 155 a.toNat - S 153 a.toNat)) - 1))))), (7, Value.int 1), (6, Value.int (Int32.ofInt (S 155 a.toNat - S 153 a.toNat))), (5, Value.int (Int32.ofInt (S 156 ((a).toNat)))), (0, Value.ref 128), (1, Value.int (Int32.ofInt r)), (2, Value.int (Int32.ofInt a)), (3, Value.int (Int32.ofInt way)), (4, Value.int (Int32.ofInt mode))]) rfl ?_
            refine i_227_180 (x := 128) rfl ?_
            refine i_227_181 (v := Value.ref 129) hR.c128 rfl ?_
            refine i_227_184 (x := Int32.ofInt (S 155 a.toNat - S 153 a.toNat)) rfl ?_
            refine i_227_186 (c := Int32.ofInt (-(S 155 a.toNat - S 153 a.toNat))) (o_neg (S 155 a.toNat - S 153 a.toNat)) ?_
            obtain ⟨fs, hobj⟩ := hR.obj (h := 129) (iNw (h := 129) (by decide) (by decide) (by decide))
            obtain ⟨w, hrun, hR⟩ := r_down (d := d + 5) (v := V (160 + 2 * a.toNat)) (k := -(S 155 a.toNat - S 153 a.toNat)) hR (iNw (h := 129) (by decide) (by decide) (by decide)) (uv_s) (by omega) (by omega)
            rw [uvv] at hR
            refine i_227_187 hobj (Nat.le_of_ble_eq_true rfl) hrun ?_
            refine i_227_190 (x := Int32.ofInt (bb (nbit (V (160 + 2 * a.toNat)) ((-(S 155 a.toNat - S 153 a.toNat)) - 1)))) rfl ?_
            refine i_227_192 (zb_f fun c8 => ?_) (zb_t fun c8 => ?_)
            · refine i_227_203 ?_
              refine i_227_204 (lv2 := [(6, Value.int 0), (8, Value.int (Int32.ofInt (bb (nbit (V (160 + 2 * a.toNat)) ((-(S 155 a.toNat - S 153 a.toNat)) - 1))))), (7, Value.int 1), (5, Value.int (Int32.ofInt (S 156 ((a).toNat)))), (0, Value.ref 128), (1, Value.int (Int32.ofInt r)), (2, Value.int (Int32.ofInt a)), (3, Value.int (Int32.ofInt way)), (4, Value.int (Int32.ofInt mode))]) rfl ?_
              have hX : whM (V (160 + 2 * a.toNat)) (S 155 a.toNat - S 153 a.toNat) (S 156 a.toNat) way = (V (160 + 2 * a.toNat)) / 2 ^ (-(S 155 a.toNat - S 153 a.toNat) : Int).toNat := by
                unfold whM
                rw [if_pos (by omega), show goI (V (160 + 2 * a.toNat)) (0 - (S 155 a.toNat - S 153 a.toNat)) (S 156 a.toNat) way = false by unfold goI; rw [if_pos (by omega), Int.zero_sub]; assumption]
                rfl
              have hc : (decide ((S 155 a.toNat - S 153 a.toNat) < 0) && nany (V (160 + 2 * a.toNat)) (-(S 155 a.toNat - S 153 a.toNat))) = false := by rw [decide_eq_true (by omega), Bool.true_and]; assumption
              have hE : rtiS (S 155 a.toNat - S 153 a.toNat) = 0 := if_pos (by omega)
              have eo : sWhR S V r.toNat a.toNat way mode = whQ (S 153 r.toNat) (S 128 17) (S 128 18) (S 128 20) (S 128 19) mode (S 156 a.toNat) (whM (V (160 + 2 * a.toNat)) (S 155 a.toNat - S 153 a.toNat) (S 156 a.toNat) way) (rtiS (S 155 a.toNat - S 153 a.toNat)) (decide ((S 155 a.toNat - S 153 a.toNat) < 0) && nany (V (160 + 2 * a.toNat)) (-(S 155 a.toNat - S 153 a.toNat))) (S 155 a.toNat - S 153 a.toNat) (V (160 + 2 * a.toNat)) := if_neg (by omega)
              rw [eo]
              refine wh_T (d := d) (V := V) hR hI (nV.up (nV.up nV.refl (by omega)) (by omega)) (by rw [hX]; exact uv_s) ((uv_n (by omega)).trans (uv_s)) hr ha hmo hn_a (by rw [hE]; omega) (Nat.le_trans whM_bl (by omega)) (by omega) (by rw [hc]; exact Or.inl ⟨rfl, rfl⟩) rfl rfl rfl rfl rfl rfl (by rw [hE]; rfl) rfl
            · refine i_227_195 (x := 128) rfl ?_
              refine i_227_196 (v := Value.ref 129) hR.c128 rfl ?_
              refine i_227_199 ?_
              obtain ⟨fs, hobj⟩ := hR.obj (h := 129) (iNw (h := 129) (by decide) (by decide) (by decide))
              obtain ⟨w, hrun, hR⟩ := r_addi (d := d + 5) (v := (V (160 + 2 * a.toNat)) / 2 ^ (-(S 155 a.toNat - S 153 a.toNat) : Int).toNat) (c := 4700) (k := 1) hR (iNw (h := 129) (by decide) (by decide) (by decide)) (uv_s) rfl (by omega) (by omega) (by first | omega | (rw [xbl_div]; omega))
              rw [show (1 : Int).toNat = 1 from rfl] at hR
              rw [uvv] at hR
              refine i_227_200 hobj (Nat.le_of_ble_eq_true rfl) hrun ?_
              refine i_227_203 ?_
              refine i_227_204 (lv2 := [(6, Value.int 0), (8, Value.int (Int32.ofInt (bb (nbit (V (160 + 2 * a.toNat)) ((-(S 155 a.toNat - S 153 a.toNat)) - 1))))), (7, Value.int 1), (5, Value.int (Int32.ofInt (S 156 ((a).toNat)))), (0, Value.ref 128), (1, Value.int (Int32.ofInt r)), (2, Value.int (Int32.ofInt a)), (3, Value.int (Int32.ofInt way)), (4, Value.int (Int32.ofInt mode))]) rfl ?_
              have hX : whM (V (160 + 2 * a.toNat)) (S 155 a.toNat - S 153 a.toNat) (S 156 a.toNat) way = ((V (160 + 2 * a.toNat)) / 2 ^ (-(S 155 a.toNat - S 153 a.toNat) : Int).toNat) + 1 := by
                unfold whM
                rw [if_pos (by omega), show goI (V (160 + 2 * a.toNat)) (0 - (S 155 a.toNat - S 153 a.toNat)) (S 156 a.toNat) way = true by unfold goI; rw [if_pos (by omega), Int.zero_sub]; assumption]
                rfl
              have hc : (decide ((S 155 a.toNat - S 153 a.toNat) < 0) && nany (V (160 + 2 * a.toNat)) (-(S 155 a.toNat - S 153 a.toNat))) = false := by rw [decide_eq_true (by omega), Bool.true_and]; assumption
              have hE : rtiS (S 155 a.toNat - S 153 a.toNat) = 0 := if_pos (by omega)
              have eo : sWhR S V r.toNat a.toNat way mode = whQ (S 153 r.toNat) (S 128 17) (S 128 18) (S 128 20) (S 128 19) mode (S 156 a.toNat) (whM (V (160 + 2 * a.toNat)) (S 155 a.toNat - S 153 a.toNat) (S 156 a.toNat) way) (rtiS (S 155 a.toNat - S 153 a.toNat)) (decide ((S 155 a.toNat - S 153 a.toNat) < 0) && nany (V (160 + 2 * a.toNat)) (-(S 155 a.toNat - S 153 a.toNat))) (S 155 a.toNat - S 153 a.toNat) (V (160 + 2 * a.toNat)) := if_neg (by omega)
              rw [eo]
              refine wh_T (d := d) (V := V) hR hI (nV.up (nV.up nV.refl (by omega)) (by omega)) (by rw [hX]; exact uv_s) ((uv_n (by omega)).trans (uv_s)) hr ha hmo hn_a (by rw [hE]; omega) (Nat.le_trans whM_bl (by omega)) (by omega) (by rw [hc]; exact Or.inl ⟨rfl, rfl⟩) rfl rfl rfl rfl rfl rfl (by rw [hE]; rfl) rfl
    · refine i_227_32 (x := 128) rfl ?_
      refine i_227_33 (x := Int32.ofInt r) rfl ?_
      refine i_227_34 (x := 128) rfl ?_
      refine i_227_35 (v := Value.ref 154) hR.c128 rfl ?_
      refine i_227_38 (x := Int32.ofInt a) rfl ?_
      refine i_227_39 (v := Value.int (Int32.ofInt (S 154 ((a).toNat)))) (hR.row a154) (ix0 (T := a) (by omega) (by omega)) (ix1 (T := a) (by omega) (by omega) (by omega)) (ra (T := a) (by omega) (by omega) rfl) ?_
      refine i_227_40 (x := 128) rfl ?_
      refine i_227_41 (v := Value.ref 154) hR.c128 rfl ?_
      refine i_227_44 (x := Int32.ofInt a) rfl ?_
      refine i_227_45 (v := Value.int (Int32.ofInt (S 154 ((a).toNat)))) (hR.row a154) (ix0 (T := a) (by omega) (by omega)) (ix1 (T := a) (by omega) (by omega) (by omega)) (ra (T := a) (by omega) (by omega) rfl) ?_
      refine i_227_46 (z_eq (a := S 154 ((a).toNat)) ⟨by omega, by omega⟩ fun c9 => ?_) (z_ne (a := S 154 ((a).toNat)) ⟨by omega, by omega⟩ fun c9 => ?_)
      · refine i_227_62 ?_
        have hobj := hR.c128
        obtain ⟨w, hrun, hR⟩ := s_special (d := d + 6) (r := r) (k := S 154 ((a).toNat)) (s := 0) hR (by omega) (by omega) (by omega)
        refine i_227_63 hobj (Nat.le_of_ble_eq_true rfl) hrun ?_
        refine i_227_66 ?_
        have eo : sWhR S V r.toNat a.toNat way mode = oS (S 154 a.toNat) 0 (S 128 19) := by
          unfold sWhR
          rw [if_pos (by omega)]
          first | (rw [if_pos (by omega)]; done) | (rw [if_neg (by omega), show S 156 a.toNat = 0 by omega])
        rw [eo]
        exact ⟨rfl, _, _, hR, oP_special (by omega) (by omega) nS.refl nV.refl rfl⟩
      · refine i_227_49 (x := 128) rfl ?_
        refine i_227_50 (v := Value.ref 156) hR.c128 rfl ?_
        refine i_227_53 (x := Int32.ofInt a) rfl ?_
        refine i_227_54z (v := Value.int (Int32.ofInt (S 156 ((a).toNat)))) (hR.row a156) (ix0 (T := a) (by omega) (by omega)) (ix1 (T := a) (by omega) (by omega) (by omega)) (ra (T := a) (by omega) (by omega) rfl) ?_
        refine i_227_55 (z_eq (a := S 156 ((a).toNat)) ⟨by omega, by omega⟩ fun c10 => ?_) (z_ne (a := S 156 ((a).toNat)) ⟨by omega, by omega⟩ fun c10 => ?_)
        · refine i_227_62 ?_
          have hobj := hR.c128
          obtain ⟨w, hrun, hR⟩ := s_special (d := d + 6) (r := r) (k := S 154 ((a).toNat)) (s := 0) hR (by omega) (by omega) (by omega)
          refine i_227_63 hobj (Nat.le_of_ble_eq_true rfl) hrun ?_
          refine i_227_66 ?_
          have eo : sWhR S V r.toNat a.toNat way mode = oS (S 154 a.toNat) 0 (S 128 19) := by
            unfold sWhR
            rw [if_pos (by omega)]
            first | (rw [if_pos (by omega)]; done) | (rw [if_neg (by omega), show S 156 a.toNat = 0 by omega])
          rw [eo]
          exact ⟨rfl, _, _, hR, oP_special (by omega) (by omega) nS.refl nV.refl rfl⟩
        · refine i_227_58 ?_
          refine i_227_59 ?_
          have hobj := hR.c128
          obtain ⟨w, hrun, hR⟩ := s_special (d := d + 6) (r := r) (k := S 154 ((a).toNat)) (s := 1) hR (by omega) (by omega) (by omega)
          refine i_227_63 hobj (Nat.le_of_ble_eq_true rfl) hrun ?_
          refine i_227_66 ?_
          have eo : sWhR S V r.toNat a.toNat way mode = oS (S 154 a.toNat) 1 (S 128 19) := by
            unfold sWhR
            rw [if_pos (by omega)]
            first | (rw [if_pos (by omega)]; done) | (rw [if_neg (by omega), show S 156 a.toNat = 1 by omega])
          rw [eo]
          exact ⟨rfl, _, _, hR, oP_special (by omega) (by omega) nS.refl nV.refl rfl⟩
  obtain ⟨o, w', h1, rfl, h2⟩ := key.run
  exact ⟨w', h1, h2⟩
theorem b_whl {d : Nat} {w : xW} {r a way mode : Int} (b_r : -2147483648 ≤ r ∧ r < 2147483648) (b_a : -2147483648 ≤ a ∧ a < 2147483648) (b_way : -2147483648 ≤ way ∧ way < 2147483648) (b_mode : -2147483648 ≤ mode ∧ mode < 2147483648) (h : ¬ ((0 ≤ r ∧ r ≤ 15) ∧ (0 ≤ a ∧ a ≤ 15) ∧ (0 ≤ way ∧ way ≤ 4) ∧ (0 ≤ mode ∧ mode ≤ 4))) : xRun (d + 8) 227 [Value.ref 128, Value.int (Int32.ofInt r), Value.int (Int32.ofInt a), Value.int (Int32.ofInt way), Value.int (Int32.ofInt mode)] w (.inr w.length) (w ++ [.inr (14, [])]) := by
  refine xRun.of ?_
  refine i_227_0 (x := Int32.ofInt r) rfl ?_
  rcases Classical.em (0 ≤ r ∧ r ≤ 15) with hc1 | hc1
  · have hrun := s_reg1 (d := d + 5) (w := w) (r := r) (by omega) hc1
    refine i_227_1 (Nat.le_of_ble_eq_true rfl) hrun ?_
    refine i_227_4 (x := Int32.ofInt a) rfl ?_
    rcases Classical.em (0 ≤ a ∧ a ≤ 15) with hc2 | hc2
    · have hrun := s_reg1 (d := d + 5) (w := w) (r := a) (by omega) hc2
      refine i_227_5 (Nat.le_of_ble_eq_true rfl) hrun ?_
      refine i_227_8 (x := Int32.ofInt way) rfl ?_
      refine i_227_9 ?_
      refine i_227_10 ?_
      have hrun := s_in (d := d + 6) (w := w) (v := way) (lo := 0) (hi := 4) ⟨by omega, by omega⟩ ⟨by decide, by decide⟩ ⟨by decide, by decide⟩
      refine i_227_11 (Nat.le_of_ble_eq_true rfl) hrun ?_
      rcases Classical.em (0 ≤ way ∧ way ≤ 4) with hc3 | hc3
      · have hrun := s_ck1 (d := d + 6) (w := w) (b := (decide (0 ≤ way ∧ way ≤ 4))) (decide_eq_true hc3)
        refine i_227_14 (Nat.le_of_ble_eq_true rfl) hrun ?_
        refine i_227_17 (x := Int32.ofInt mode) rfl ?_
        rcases Classical.em (0 ≤ mode ∧ mode ≤ 4) with hc4 | hc4
        · have hrun := s_mode1 (d := d + 5) (w := w) (r := mode) (by omega) hc4
          refine i_227_19 (Nat.le_of_ble_eq_true rfl) hrun ?_
          exfalso; omega
        · have hrun := s_mode0 (d := d) (w := w) (r := mode) (by omega) hc4
          refine j_227_19 (Nat.le_of_ble_eq_true rfl) hrun (xDone.t (ci := 14) xgl rfl rfl ?_)
          exact ⟨rfl, rfl⟩
      · have hrun := s_ck0 (d := d + 1) (w := w) (b := (decide (0 ≤ way ∧ way ≤ 4))) (decide_eq_false hc3)
        refine j_227_14 (Nat.le_of_ble_eq_true rfl) hrun (xDone.t (ci := 14) xgl rfl rfl ?_)
        exact ⟨rfl, rfl⟩
    · have hrun := s_reg0 (d := d) (w := w) (r := a) (by omega) hc2
      refine j_227_5 (Nat.le_of_ble_eq_true rfl) hrun (xDone.t (ci := 14) xgl rfl rfl ?_)
      exact ⟨rfl, rfl⟩
  · have hrun := s_reg0 (d := d) (w := w) (r := r) (by omega) hc1
    refine j_227_1 (Nat.le_of_ble_eq_true rfl) hrun (xDone.t (ci := 14) xgl rfl rfl ?_)
    exact ⟨rfl, rfl⟩
end
