def rnd (p least greatest gradual free sg mode more : Int) (m : Nat) (e f : Int) : Int × Int × Nat × Int × Int :=
  ((rD p least greatest gradual free sg mode (xbl m + e) more m (rq1 m (rU p least gradual free (xbl m + e) - e) more sg mode) (rU p least gradual free (xbl m + e)) (rway (rE m (rU p least gradual free (xbl m + e) - e) more) (rG m (rU p least gradual free (xbl m + e) - e) more sg mode)) f).1,
   (rD p least greatest gradual free sg mode (xbl m + e) more m (rq1 m (rU p least gradual free (xbl m + e) - e) more sg mode) (rU p least gradual free (xbl m + e)) (rway (rE m (rU p least gradual free (xbl m + e) - e) more) (rG m (rU p least gradual free (xbl m + e) - e) more sg mode)) f).2.1,
   (rD p least greatest gradual free sg mode (xbl m + e) more m (rq1 m (rU p least gradual free (xbl m + e) - e) more sg mode) (rU p least gradual free (xbl m + e)) (rway (rE m (rU p least gradual free (xbl m + e) - e) more) (rG m (rU p least gradual free (xbl m + e) - e) more sg mode)) f).2.2.1,
   (if sg = 0 then (rD p least greatest gradual free sg mode (xbl m + e) more m (rq1 m (rU p least gradual free (xbl m + e) - e) more sg mode) (rU p least gradual free (xbl m + e)) (rway (rE m (rU p least gradual free (xbl m + e) - e) more) (rG m (rU p least gradual free (xbl m + e) - e) more sg mode)) f).2.2.2.1 else -(rD p least greatest gradual free sg mode (xbl m + e) more m (rq1 m (rU p least gradual free (xbl m + e) - e) more sg mode) (rU p least gradual free (xbl m + e)) (rway (rE m (rU p least gradual free (xbl m + e) - e) more) (rG m (rU p least gradual free (xbl m + e) - e) more sg mode)) f).2.2.2.1),
   rFl free gradual (xbl m + e) least (rD p least greatest gradual free sg mode (xbl m + e) more m (rq1 m (rU p least gradual free (xbl m + e) - e) more sg mode) (rU p least gradual free (xbl m + e)) (rway (rE m (rU p least gradual free (xbl m + e) - e) more) (rG m (rU p least gradual free (xbl m + e) - e) more sg mode)) f).2.2.2.1 (rD p least greatest gradual free sg mode (xbl m + e) more m (rq1 m (rU p least gradual free (xbl m + e) - e) more sg mode) (rU p least gradual free (xbl m + e)) (rway (rE m (rU p least gradual free (xbl m + e) - e) more) (rG m (rU p least gradual free (xbl m + e) - e) more sg mode)) f).2.2.2.2)
theorem rD_way {p least greatest gradual free sg mode x more : Int} {m q : Nat} {u way f : Int} (hw : -1 ≤ way ∧ way ≤ 1) : -1 ≤ (rD p least greatest gradual free sg mode x more m q u way f).2.2.2.1 ∧ (rD p least greatest gradual free sg mode x more m q u way f).2.2.2.1 ≤ 1 := by
  unfold rD
  split
  · split
    · exact (show (-1 : Int) ≤ 1 ∧ (1 : Int) ≤ 1 by decide)
    · exact (show (-1 : Int) ≤ -1 ∧ (-1 : Int) ≤ 1 by decide)
  · split
    · exact (show (-1 : Int) ≤ -1 ∧ (-1 : Int) ≤ 1 by decide)
    · split
      · split
        · exact (show (-1 : Int) ≤ 1 ∧ (1 : Int) ≤ 1 by decide)
        · exact (show (-1 : Int) ≤ -1 ∧ (-1 : Int) ≤ 1 by decide)
      · exact hw
theorem rway_b (a b : Bool) : -1 ≤ rway a b ∧ rway a b ≤ 1 := by cases a <;> cases b <;> exact ⟨by decide, by decide⟩
theorem rU_b {p least gradual free x : Int} : x - rU p least gradual free x ≤ p ∧ (rU p least gradual free x = x - p ∨ rU p least gradual free x = least - p) := by
  unfold rU
  split
  · exact ⟨by omega, Or.inr rfl⟩
  · exact ⟨by omega, Or.inl rfl⟩
theorem rq_b {m : Nat} {cut : Int} {n : Nat} (h : (xbl m : Int) - cut ≤ n) : xbl (rq m cut) ≤ n := by
  unfold rq
  split
  · rw [xbl_div]; omega
  · have := xbl_powle m (-cut).toNat
    omega
theorem s_round {d : Nat} {w0 w : xW} {S : Nat → Nat → Int} {V : Nat → Nat} {h : Nat} {r e more sg mode : Int} (hR : mR w0 S V w) (hh : isN h) (h135 : h ≠ 135) (h0 : 0 ≤ r) (h1 : r < 17) (hm : more = 0 ∨ more = 1) (hs : sg = 0 ∨ sg = 1) (he : -1000000 ≤ e ∧ e ≤ 1000000) (hmo : 0 ≤ mode ∧ mode ≤ 4) (p0 : 2 ≤ S 153 r.toNat) (p1 : S 153 r.toNat ≤ 4096) (hl : -16384 ≤ S 128 17 ∧ S 128 17 ≤ 16384) (hg : -16384 ≤ S 128 18 ∧ S 128 18 ≤ 16384) (hgr : S 128 20 = 0 ∨ S 128 20 = 1) (hfr : S 128 21 = 0 ∨ S 128 21 = 1) (hv : xbl (V h) ≤ 140000) : ∃ w' S' V', xRun (d + 4) 180 [Value.ref 128, Value.int (Int32.ofInt r), Value.ref h, Value.int (Int32.ofInt e), Value.int (Int32.ofInt more), Value.int (Int32.ofInt sg), Value.int (Int32.ofInt mode)] w (.inl (some (.int (Int32.ofInt (rnd (S 153 r.toNat) (S 128 17) (S 128 18) (S 128 20) (S 128 21) sg mode more (V h) e (S 128 19)).2.2.2.1)))) w' ∧ mR w0 S' V' w' ∧ rPost S S' V V' r.toNat sg (rnd (S 153 r.toNat) (S 128 17) (S 128 18) (S 128 20) (S 128 21) sg mode more (V h) e (S 128 19)) := by
  have key : xEv (d + 4) 180 0 (lv_args 0 [Value.ref 128, Value.int (Int32.ofInt r), Value.ref h, Value.int (Int32.ofInt e), Value.int (Int32.ofInt more), Value.int (Int32.ofInt sg), Value.int (Int32.ofInt mode)]) [] w (fun o w' => o = .inl (some (.int (Int32.ofInt (rnd (S 153 r.toNat) (S 128 17) (S 128 18) (S 128 20) (S 128 21) sg mode more (V h) e (S 128 19)).2.2.2.1))) ∧ ∃ S' V', mR w0 S' V' w' ∧ rPost S S' V V' r.toNat sg (rnd (S 153 r.toNat) (S 128 17) (S 128 18) (S 128 20) (S 128 21) sg mode more (V h) e (S 128 19))) := by
    have hU := rU_b (p := S 153 r.toNat) (least := S 128 17) (gradual := S 128 20) (free := S 128 21) (x := (xbl (V h) : Int) + e)
    refine rd_A hR hh h0 h1 hm hs he hmo p0 p1 hl hg hgr hfr hv ?_
    refine rd_B hR hh h135 h0 h1 hm hs he hmo p0 p1 hl hg hgr hfr hv (by omega) (by omega) (by omega) ?_
    intro lv w l0 l1 l2 l4 l5 l6 l7 l8 l9 l11 l12 hR
    have hq : xbl (rq (V h) (rU (S 153 r.toNat) (S 128 17) (S 128 20) (S 128 21) ((xbl (V h) : Int) + e) - e)) ≤ 4096 := rq_b (by omega)
    refine rd_C hR l0 l1 l2 l4 l5 l6 l7 l8 l9 l11 l12 (by omega) ?_
    intro lv w l0 l1 l2 l4 l5 l6 l7 l8 l9 l13 _ hR
    have hb := bb_01 (rG (V h) (rU (S 153 r.toNat) (S 128 17) (S 128 20) (S 128 21) ((xbl (V h) : Int) + e) - e) more sg mode)
    refine rd_D (h := h) hR l0 l1 l2 l4 l5 l6 l7 l8 l9 l13 hh h135 (by simp [u2_e]) (by simpa [u2_e] using p0) (by simpa [u2_e] using p1) (by simp [u2_e]) h0 h1 hm hs hmo (by omega) (by omega) (by simpa [u2_e] using hl) (by simpa [u2_e] using hg) (by simpa [u2_e] using hgr) (by simpa [u2_e] using hfr) (Nat.le_trans (xbl_add (n := 4096) hq (by rcases hb with e | e <;> rw [e] <;> decide)) (by decide)) (by omega) ?_
    intro lv S' V' w o eo l0 l5 l8 l14 hR hP
    obtain ⟨g1, g2, g3, g4, g5, g6⟩ := hP
    have f17 : S' 128 17 = S 128 17 := (g5 128 17 (by omega) (by omega) (by omega) (by omega)).trans (by simp [u2_e])
    have f20 : S' 128 20 = S 128 20 := (g5 128 20 (by omega) (by omega) (by omega) (by omega)).trans (by simp [u2_e])
    have f21 : S' 128 21 = S 128 21 := (g5 128 21 (by omega) (by omega) (by omega) (by omega)).trans (by simp [u2_e])
    refine rd_E hR l0 l5 l8 l14 hs (by omega) (by rw [eo]; exact rD_way (rway_b _ _)) (by rw [f17]; exact hl) (by rw [f20]; exact hgr) (by rw [f21]; exact hfr) ?_
    intro S2 w' hR k1 k2
    simp only [u2_e, show ¬ (128 = 156 ∧ 17 = r.toNat) by omega, show ¬ (128 = 156 ∧ 18 = r.toNat) by omega, show ¬ (128 = 156 ∧ 19 = r.toNat) by omega, show ¬ (128 = 156 ∧ 20 = r.toNat) by omega, show ¬ (128 = 156 ∧ 21 = r.toNat) by omega, if_false] at eo
    rw [f17, f20, f21, g4] at k1
    have er : ∀ (P : Int × Int × Nat × Int × Int → Prop), P (o.1, o.2.1, o.2.2.1, (if sg = 0 then o.2.2.2.1 else -o.2.2.2.1), rFl (S 128 21) (S 128 20) ((xbl (V h) : Int) + e) (S 128 17) o.2.2.2.1 o.2.2.2.2) → P (rnd (S 153 r.toNat) (S 128 17) (S 128 18) (S 128 20) (S 128 21) sg mode more (V h) e (S 128 19)) := by
      intro P hP
      unfold rnd rq1
      rw [← eo]
      exact hP
    refine er (fun t => (Sum.inl (some (Value.int (Int32.ofInt (if sg = 0 then o.2.2.2.1 else -o.2.2.2.1)))) : Option Value ⊕ Nat) = .inl (some (.int (Int32.ofInt t.2.2.2.1))) ∧ ∃ S' V', mR w0 S' V' w' ∧ rPost S S' V V' r.toNat sg t) ⟨rfl, S2, V', hR, ?_⟩
    refine ⟨(k2 _ _ (by omega)).trans g1, (k2 _ _ (by omega)).trans g2, ⟨fun h => ⟨(k2 _ _ (by omega)).trans (g3.1 h).1, (g3.1 h).2⟩, fun h => ⟨(k2 _ _ (by omega)).trans ((g3.2 h).1.trans (by rw [u2_e, if_neg (by omega)])), (g3.2 h).2⟩⟩, k1, fun a j a1 a2 a3 a4 => ?_, fun k b1 b2 b3 b4 b5 => g6 k b1 b2 b3 b4 b5⟩
    rw [k2 a j a4, g5 a j a1 a2 a3 a4, u2_e, if_neg a3]
  obtain ⟨o, w', h1, rfl, S', V', h2, h3⟩ := key.run
  exact ⟨w', S', V', h1, h2, h3⟩
