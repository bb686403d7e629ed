/-! Range of the class: settle is rnd -/
def sP (S S' : Nat → Nat → Int) (V V' : Nat → Nat) (g t : Nat) (sg : Int) (o : Int × Int × Nat × Int × Int) : Prop :=
  S' t 1 = o.1 ∧ S' t 2 = sg ∧ (o.1 = 3 → S' t 3 = o.2.1 ∧ V' (t + 1) = o.2.2.1) ∧ S' g 3 = o.2.2.2.2 ∧
  (∀ b j, ¬ (b = t ∧ (j = 1 ∨ j = 2 ∨ j = 3)) → ¬ (b = g ∧ j = 3) → S' b j = S b j) ∧ ∀ k, k ≠ t + 1 → V' k = V k
theorem rnd_eq {p least greatest gradual sg mode more e f x u ch T wy f1 k : Int} {m q Mn : Nat} (hx : x = xbl m + e) (hu : u = rU p least gradual 0 x) (hq : q = rq1 m (u - e) more sg mode) (hch : ch = rway (rE m (u - e) more) (rG m (u - e) more sg mode))
    (h : rD p least greatest gradual 0 sg mode x more m q u ch f = (k, T, Mn, wy, f1)) : rnd p least greatest gradual 0 sg mode more m e f = (k, T, Mn, if sg = 0 then wy else -wy, rFl 0 gradual x least wy f1) := by
  subst hx hu hq hch
  unfold rnd
  rw [h]
theorem nany_0 {m : Nat} {cut : Int} (h : cut ≤ 0) : nany m cut = false := nany_f (by rw [show cut.toNat = 0 by omega]; exact Nat.mod_one _)
theorem isM_rE {m : Nat} {cut more : Int} : isM m cut more = rE m cut more := by
  unfold isM rE
  by_cases h : 0 < cut
  · rw [decide_eq_true h, Bool.true_and]
  · rw [decide_eq_false h, Bool.false_and, nany_0 (by omega)]
theorem gU_rG {m : Nat} {cut more sg mode : Int} (h : more = 0 ∨ 0 < cut) : gU m cut more sg mode (bb (nbit m cut)) = rG m cut more sg mode := by
  unfold rG
  by_cases h1 : 0 < cut
  · rw [decide_eq_true h1, Bool.true_and]
  · rw [decide_eq_false h1, Bool.false_and]
    unfold gU
    rw [if_pos ⟨by omega, nany_0 (by omega)⟩]
theorem nrm_ones {p : Int} (hp : 1 ≤ p) : nrm (2 ^ p.toNat - 1) p = 2 ^ p.toNat - 1 := by
  rw [nrm_le (by rw [xbl_ones]; omega), xbl_ones, show (p - ((p.toNat : Nat) : Int)).toNat = 0 by omega, Nat.pow_zero, Nat.mul_one]
theorem rq1_bl {m : Nat} {cut more sg mode : Int} : (xbl (rq1 m cut more sg mode) : Int) ≤ max 0 ((xbl m : Int) - cut) + 1 := by
  have h1 : (xbl (rq m cut) : Int) ≤ max 0 ((xbl m : Int) - cut) := by
    unfold rq
    split
    · rw [xbl_div]; omega
    · have := xbl_powle m (-cut).toNat
      omega
  unfold rq1
  have h2 : xbl (rq m cut + (bb (rG m cut more sg mode)).toNat) ≤ xbl (rq m cut) + 1 := by
    have h3 : rq m cut < 2 ^ xbl (rq m cut) := by
      by_cases g : rq m cut = 0
      · rw [g]; exact Nat.two_pow_pos _
      · exact (xbl_of g).2.1
    have h4 := bb_01 (rG m cut more sg mode)
    exact xbl_le (by rw [Nat.pow_succ]; omega)
  omega
theorem q0_way {m : Nat} {cut more sg mode : Int} (hm : m ≠ 0) (h : rq1 m cut more sg mode = 0) : rway (rE m cut more) (rG m cut more sg mode) = -1 := by
  unfold rq1 at h
  have h1 : rq m cut = 0 := by omega
  have h2 : rG m cut more sg mode = false := by
    rcases Bool.eq_false_or_eq_true (rG m cut more sg mode) with g | g
    · rw [g] at h; exact absurd h (by rw [bb_t]; show rq m cut + 1 ≠ 0; omega)
    · exact g
  have h3 : rE m cut more = false := by
    unfold rq at h1
    unfold rE
    by_cases g : 0 < cut
    · rw [if_pos g] at h1
      have h4 := Nat.div_add_mod m (2 ^ cut.toNat)
      rw [h1, Nat.mul_zero, Nat.zero_add] at h4
      rw [decide_eq_true g, Bool.true_and, nany_t (by rw [h4]; exact hm), Bool.not_true, Bool.and_false]
    · rw [if_neg g] at h1
      have := Nat.mul_pos (Nat.pos_of_ne_zero hm) (Nat.two_pow_pos (-cut).toNat)
      omega
  rw [h2, h3]
  rfl
theorem st_164 {d : Nat} {w0 w : xW} {L Z : Nat} {S : Nat → Nat → Int} {V : Nat → Nat} {g h : Nat} {ch : Int} {lv : xLv} {Q : Option Value ⊕ Nat → xW → Prop} (hR : cX w0 L Z S V w) (hg : kd g = 1) (hk : kd h = 4) (n3 : g ≠ h) (hs : S h 0 = 0 ∨ S h 0 = 1) (hc : -1 ≤ ch ∧ ch ≤ 1) (l0 : xld lv 0 = some (Value.ref g)) (l2 : xld lv 2 = some (Value.ref h)) (l7 : xld lv 7 = some (Value.int (Int32.ofInt ch))) (hQ : ∀ w' z, cX w0 L Z (u2 S g 3 (if ch = 0 then S g 3 else zor (S g 3) 1)) V w' → z = (if S h 0 = 0 then ch else -ch) → Q (.inl (some (.int (Int32.ofInt z)))) w') : xEv d 27 164 lv [] w Q := by
  refine i_27_164 (x := Int32.ofInt ch) l7 ?_
  refine i_27_166 (z_eq (a := ch) ⟨by omega, by omega⟩ fun c0 => ?_) (z_ne (a := ch) ⟨by omega, by omega⟩ fun c0 => ?_)
  · refine i_27_179 (x := h) l2 ?_
    refine i_27_180 (v := Value.int (Int32.ofInt (S h 0))) (hR.k4 hk) rfl ?_
    refine i_27_183 (z_eq (a := S h 0) ⟨by omega, by omega⟩ fun c1 => ?_) (z_ne (a := S h 0) ⟨by omega, by omega⟩ fun c1 => ?_)
    · refine i_27_192 (x := Int32.ofInt ch) l7 ?_
      refine i_27_194 ?_
      refine hQ _ _ ?_ (show ch = (if S h 0 = 0 then ch else -ch) by rw [if_pos c1])
      rw [if_pos ‹ch = 0›, u2self]
      exact hR
    · refine i_27_186 (x := Int32.ofInt ch) l7 ?_
      refine i_27_188 (c := Int32.ofInt (-ch)) (o_neg ch) ?_
      refine i_27_189 ?_
      refine i_27_194 ?_
      refine hQ _ _ ?_ (show -ch = (if S h 0 = 0 then ch else -ch) by rw [if_neg c1])
      rw [if_pos ‹ch = 0›, u2self]
      exact hR
  · refine i_27_169 (x := g) l0 ?_
    refine i_27_170 rfl ?_
    refine i_27_171 (v := Value.int (Int32.ofInt (S g 3))) (hR.k1 hg) rfl ?_
    refine i_27_174 ?_
    refine i_27_175 (c := Int32.ofInt (zor (S g 3) 1)) (o_or (S g 3) 1) ?_
    refine i_27_176 (fs2 := f1 (u1 (S g) 3 (zor (S g 3) 1))) (hR.k1 hg) (Nat.le_of_ble_eq_true rfl) rfl (h7k hg (by decide)) ?_
    refine xgen (P := cX w0 L Z (u2 S g 3 (zor (S g 3) 1)) V) (hR.p1 hg) (fun w hR => ?_)
    refine i_27_179 (x := h) l2 ?_
    refine i_27_180 (v := Value.int (Int32.ofInt ((u2 S g 3 (zor (S g 3) 1)) h 0))) (hR.k4 hk) rfl ?_
    rw [show Int32.ofInt ((u2 S g 3 (zor (S g 3) 1)) h 0) = Int32.ofInt (S h 0) by rw [u2_eq, if_neg (fun e => absurd e.2 (by decide))]]
    refine i_27_183 (z_eq (a := S h 0) ⟨by omega, by omega⟩ fun c2 => ?_) (z_ne (a := S h 0) ⟨by omega, by omega⟩ fun c2 => ?_)
    · refine i_27_192 (x := Int32.ofInt ch) l7 ?_
      refine i_27_194 ?_
      refine hQ _ _ ?_ (show ch = (if S h 0 = 0 then ch else -ch) by rw [if_pos c2])
      rw [if_neg ‹ch ≠ 0›]
      exact hR
    · refine i_27_186 (x := Int32.ofInt ch) l7 ?_
      refine i_27_188 (c := Int32.ofInt (-ch)) (o_neg ch) ?_
      refine i_27_189 ?_
      refine i_27_194 ?_
      refine hQ _ _ ?_ (show -ch = (if S h 0 = 0 then ch else -ch) by rw [if_neg c2])
      rw [if_neg ‹ch ≠ 0›]
      exact hR
theorem st_133 {d : Nat} {w0 w : xW} {L Z : Nat} {S : Nat → Nat → Int} {V : Nat → Nat} {g h : Nat} {ch x : Int} {lv : xLv} {Q : Option Value ⊕ Nat → xW → Prop} (hR : cX w0 L Z S V w) (hg : kd g = 1) (hk : kd h = 4) (n3 : g ≠ h) (hs : S h 0 = 0 ∨ S h 0 = 1) (hgr : S g 2 = 0 ∨ S g 2 = 1) (hl : -1000000 ≤ S g 0 ∧ S g 0 ≤ 1000000) (hx : -2000000 ≤ x ∧ x ≤ 2000000) (hc : -1 ≤ ch ∧ ch ≤ 1) (l0 : xld lv 0 = some (Value.ref g)) (l2 : xld lv 2 = some (Value.ref h)) (l7 : xld lv 7 = some (Value.int (Int32.ofInt ch))) (l4 : xld lv 4 = some (Value.int (Int32.ofInt x))) (hQ : ∀ w' z, cX w0 L Z (u2 S g 3 (rFl 0 (S g 2) x (S g 0) ch (S g 3))) V w' → z = (if S h 0 = 0 then ch else -ch) → Q (.inl (some (.int (Int32.ofInt z)))) w') : xEv d 27 133 lv [] w Q := by
  refine i_27_133 (x := g) l0 ?_
  refine i_27_134 (v := Value.int (Int32.ofInt (S g 2))) (hR.k1 hg) rfl ?_
  refine i_27_137 (z_eq (a := S g 2) ⟨by omega, by omega⟩ fun c0 => ?_) (z_ne (a := S g 2) ⟨by omega, by omega⟩ fun c0 => ?_)
  · refine st_164 hR hg hk n3 hs hc l0 l2 l7 (fun w' z hX hz => hQ w' z ?_ (by rw [hz]))
    have e : rFl 0 (S g 2) x (S g 0) ch (S g 3) = (if ch = 0 then S g 3 else zor (S g 3) 1) := by
      unfold rFl
      by_cases g0 : ch = 0
      · rw [if_pos g0, if_neg (fun e => e g0)]
      · rw [if_neg g0, if_pos g0]
        first | rw [if_neg (fun e => e.2.1 ‹S g 2 = 0›)] | rw [if_neg (fun e => absurd e.2.2 (Int.not_lt.mpr ‹S g 0 ≤ x›))] | exact absurd ‹ch = 0› g0
    rw [e]
    exact hX
  · refine i_27_140 (x := Int32.ofInt x) l4 ?_
    refine i_27_142 (x := g) l0 ?_
    refine i_27_143 (v := Value.int (Int32.ofInt (S g 0))) (hR.k1 hg) rfl ?_
    refine i_27_146 (b_le (a := S g 0) (b := x) ⟨by omega, by omega⟩ ⟨by omega, by omega⟩ fun c1 => ?_) (b_lt (a := x) (b := S g 0) ⟨by omega, by omega⟩ ⟨by omega, by omega⟩ fun c1 => ?_)
    · refine st_164 hR hg hk n3 hs hc l0 l2 l7 (fun w' z hX hz => hQ w' z ?_ (by rw [hz]))
      have e : rFl 0 (S g 2) x (S g 0) ch (S g 3) = (if ch = 0 then S g 3 else zor (S g 3) 1) := by
        unfold rFl
        by_cases g0 : ch = 0
        · rw [if_pos g0, if_neg (fun e => e g0)]
        · rw [if_neg g0, if_pos g0]
          first | rw [if_neg (fun e => e.2.1 ‹S g 2 = 0›)] | rw [if_neg (fun e => absurd e.2.2 (Int.not_lt.mpr ‹S g 0 ≤ x›))] | exact absurd ‹ch = 0› g0
      rw [e]
      exact hX
    · refine i_27_149 (x := Int32.ofInt ch) l7 ?_
      refine i_27_151 (z_eq (a := ch) ⟨by omega, by omega⟩ fun c2 => ?_) (z_ne (a := ch) ⟨by omega, by omega⟩ fun c2 => ?_)
      · refine st_164 hR hg hk n3 hs hc l0 l2 l7 (fun w' z hX hz => hQ w' z ?_ (by rw [hz]))
        have e : rFl 0 (S g 2) x (S g 0) ch (S g 3) = (if ch = 0 then S g 3 else zor (S g 3) 1) := by
          unfold rFl
          by_cases g0 : ch = 0
          · rw [if_pos g0, if_neg (fun e => e g0)]
          · rw [if_neg g0, if_pos g0]
            first | rw [if_neg (fun e => e.2.1 ‹S g 2 = 0›)] | rw [if_neg (fun e => absurd e.2.2 (Int.not_lt.mpr ‹S g 0 ≤ x›))] | exact absurd ‹ch = 0› g0
        rw [e]
        exact hX
      · refine i_27_154 (x := g) l0 ?_
        refine i_27_155 rfl ?_
        refine i_27_156 (v := Value.int (Int32.ofInt (S g 3))) (hR.k1 hg) rfl ?_
        refine i_27_159 ?_
        refine i_27_160 (c := Int32.ofInt (zor (S g 3) 4)) (o_or (S g 3) 4) ?_
        refine i_27_161 (fs2 := f1 (u1 (S g) 3 (zor (S g 3) 4))) (hR.k1 hg) (Nat.le_of_ble_eq_true rfl) rfl (h7k hg (by decide)) ?_
        refine xgen (P := cX w0 L Z (u2 S g 3 (zor (S g 3) 4)) V) (hR.p1 hg) (fun w hR => ?_)
        have eh : (u2 S g 3 (zor (S g 3) 4)) h 0 = S h 0 := by rw [u2_eq, if_neg (fun e => absurd e.2 (by decide))]
        refine st_164 hR hg hk n3 (by rw [eh]; exact hs) hc l0 l2 l7 (fun w' z hX hz => hQ w' z ?_ (by rw [hz, eh]))
        rw [u2_s, u1_s, u2u2, if_neg ‹ch ≠ 0›] at hX
        have e : rFl 0 (S g 2) x (S g 0) ch (S g 3) = zor (zor (S g 3) 4) 1 := by unfold rFl; rw [if_pos ‹ch ≠ 0›, if_pos ⟨rfl, ‹S g 2 ≠ 0›, ‹x < S g 0›⟩]
        rw [e]
        exact hX
