/-! the reference's round -/
theorem lgen1 {d y pc : Nat} {lv : xLv} {st : List Value} {w : xW} {Q : Option Value ⊕ Nat → xW → Prop} {i : Nat} {v : Value} (k : ∀ lv', (∀ j u, Nat.beq i j = false → (!(j == i) && !(j + 1 == i && u.category == 2)) = true → xld lv j = some u → xld lv' j = some u) → xld lv' i = some v → xEv d y pc lv' st w Q) : xEv d y pc (xst1 lv i v) st w Q :=
  k _ (fun _ _ h1 h2 h3 => xld_n1 h1 h2 h3) xld_s1
theorem lgen2 {d y pc : Nat} {lv : xLv} {st : List Value} {w : xW} {Q : Option Value ⊕ Nat → xW → Prop} {i : Nat} {v : Value} (k : ∀ lv', (∀ j u, Nat.beq i j = false → (!(j == i) && (!(j == i + 1) && !(j + 1 == i && u.category == 2))) = true → xld lv j = some u → xld lv' j = some u) → xld lv' i = some v → xEv d y pc lv' st w Q) : xEv d y pc (xst2 lv i v) st w Q :=
  k _ (fun _ _ h1 h2 h3 => xld_n2 h1 h2 h3) xld_s2
theorem mR.size {w0 w : xW} {S : Nat → Nat → Int} {V : Nat → Nat} {h v : Nat} (hR : mR w0 S V w) (hh : isN h) (hv : V h = v) : ∃ n : Nat, w[h]? = some (.inr (13, [.ref (h + 1), .int (Int32.ofInt n)])) ∧ n ≤ 4700 ∧ (n = 0 ↔ v = 0) := by
  obtain ⟨n, g, e1, e2, e3, e4, e5, e6⟩ := hR.2.2.2.2 h hh
  refine ⟨n, by rw [oNn]; exact e1, ?_, ?_⟩
  · have : ncap h ≤ 4700 := by unfold ncap; split <;> omega
    omega
  · rw [← hv, ← e5]
    constructor
    · rintro rfl; rfl
    · intro h0
      rcases e6 with h1 | h1
      · exact h1
      · by_cases hz : n = 0
        · exact hz
        · have := xvl_low (by omega) h1
          have := Nat.two_pow_pos (30 * (n - 1))
          omega
def rU (p least gradual free x : Int) : Int := if free = 0 ∧ gradual ≠ 0 ∧ x < least then least - p else x - p
def rG (m : Nat) (cut more sg mode : Int) : Bool := decide (0 < cut) && gU m cut more sg mode (bb (nbit m cut))
def rE (m : Nat) (cut more : Int) : Bool := decide (more = 0) && !(decide (0 < cut) && nany m cut)
def rq (m : Nat) (cut : Int) : Nat := if 0 < cut then m / 2 ^ cut.toNat else m * 2 ^ (-cut).toNat
def rq1 (m : Nat) (cut more sg mode : Int) : Nat := rq m cut + (bb (rG m cut more sg mode)).toNat
def rway (ex go : Bool) : Int := bif ex then 0 else bif go then 1 else -1
def far (mode sg : Int) : Bool := decide (mode = 0) || (decide (mode = 4) || (decide (mode = 2) && decide (sg = 0)) || (decide (mode = 3) && !decide (sg = 0)))
def away (mode sg : Int) : Bool := decide (mode = 4) || (decide (mode = 2) && decide (sg = 0)) || (decide (mode = 3) && !decide (sg = 0))
def upU (m : Nat) (x least more sg mode : Int) : Bool := away mode sg || (decide (mode = 0) && (decide (least - 1 < x) || (decide (x = least - 1) && (!decide (more = 0) || nany m (xbl m - 1)))))
def rD (p least greatest gradual free sg mode x more : Int) (m q : Nat) (u way f : Int) : Int × Int × Nat × Int × Int :=
  if free = 0 ∧ q ≠ 0 ∧ greatest < xbl q + u then (if far mode sg = true then (1, 0, 0, 1, zor f 2) else (3, xbl (2 ^ p.toNat - 1) + (greatest - p), nrm (2 ^ p.toNat - 1) p, -1, zor f 2))
  else if q = 0 then (2, 0, 0, -1, f)
  else if free = 0 ∧ gradual = 0 ∧ xbl q + u < least then (if upU m x least more sg mode = true then (3, xbl 1 + (least - 1), nrm 1 p, 1, zor f 4) else (2, 0, 0, -1, zor f 4))
  else (3, xbl q + u, nrm q p, way, f)
def rPost (S S' : Nat → Nat → Int) (V V' : Nat → Nat) (r : Nat) (sg : Int) (o : Int × Int × Nat × Int × Int) : Prop := S' 154 r = o.1 ∧ S' 156 r = sg ∧ ((o.1 = 3 → S' 155 r = o.2.1 ∧ V' (160 + 2 * r) = o.2.2.1) ∧ (o.1 ≠ 3 → S' 155 r = S 155 r ∧ V' (160 + 2 * r) = V (160 + 2 * r))) ∧ S' 128 19 = o.2.2.2.2 ∧ (∀ a j, ¬ (a = 154 ∧ j = r) → ¬ (a = 155 ∧ j = r) → ¬ (a = 156 ∧ j = r) → ¬ (a = 128 ∧ j = 19) → S' a j = S a j) ∧ ∀ k, k ≠ 135 → k ≠ 137 → k ≠ 143 → k ≠ 151 → k ≠ 160 + 2 * r → V' k = V k
def rFl (free gradual x least way f : Int) : Int := if way ≠ 0 then zor (if free = 0 ∧ gradual ≠ 0 ∧ x < least then zor f 4 else f) 1 else f
theorem rd_A {d : Nat} {w0 w : xW} {S : Nat → Nat → Int} {V : Nat → Nat} {Q : Option Value ⊕ Nat → xW → Prop} {h : Nat} {r e more sg mode : Int} (hR : mR w0 S V w) (hh : isN h) (h0 : 0 ≤ r) (h1 : r < 17) (hm : more = 0 ∨ more = 1) (hs : sg = 0 ∨ sg = 1) (he : -1000000 ≤ e ∧ e ≤ 1000000) (hmo : 0 ≤ mode ∧ mode ≤ 4) (p0 : 2 ≤ S 153 r.toNat) (p1 : S 153 r.toNat ≤ 4096) (hl : -16384 ≤ S 128 17 ∧ S 128 17 ≤ 16384) (hg : -16384 ≤ S 128 18 ∧ S 128 18 ≤ 16384) (hgr : S 128 20 = 0 ∨ S 128 20 = 1) (hfr : S 128 21 = 0 ∨ S 128 21 = 1) (hv : xbl (V h) ≤ 140000) (k : xEv (d + 4) 180 54 [(8, Value.int (Int32.ofInt ((xbl (V h) : Int) + e))), (7, Value.int (Int32.ofInt (S 153 (r).toNat))), (0, Value.ref 128), (1, Value.int (Int32.ofInt r)), (2, Value.ref h), (3, Value.int (Int32.ofInt e)), (4, Value.int (Int32.ofInt more)), (5, Value.int (Int32.ofInt sg)), (6, Value.int (Int32.ofInt mode))] [.int (Int32.ofInt (rU (S 153 r.toNat) (S 128 17) (S 128 20) (S 128 21) ((xbl (V h) : Int) + e)))] w Q) : xEv (d + 4) 180 0 (lv_args 0 [Value.ref 128, Value.int (Int32.ofInt r), Value.ref h, Value.int (Int32.ofInt e), Value.int (Int32.ofInt more), Value.int (Int32.ofInt sg), Value.int (Int32.ofInt mode)]) [] w Q := by
  refine i_180_0 (x := 128) rfl ?_
  refine i_180_1 (v := Value.ref 153) hR.c128 rfl ?_
  refine i_180_4 (x := Int32.ofInt r) rfl ?_
  refine i_180_5 (v := Value.int (Int32.ofInt (S 153 ((r).toNat)))) (hR.row a153) (ix0 (T := r) (by omega) (by omega)) (ix1 (T := r) (by omega) (by omega) (by omega)) (ra (T := r) (by omega) (by omega) rfl) ?_
  refine i_180_6 (lv2 := [(7, Value.int (Int32.ofInt (S 153 ((r).toNat)))), (0, Value.ref 128), (1, Value.int (Int32.ofInt r)), (2, Value.ref h), (3, Value.int (Int32.ofInt e)), (4, Value.int (Int32.ofInt more)), (5, Value.int (Int32.ofInt sg)), (6, Value.int (Int32.ofInt mode))]) rfl ?_
  refine i_180_8 (x := h) rfl ?_
  obtain ⟨fs, hobj⟩ := hR.obj (h := h) hh
  have hrun := r_bits (d := d + 1) (v := V h) hR hh (rfl)
  refine i_180_9 hobj (Nat.le_of_ble_eq_true rfl) hrun ?_
  refine i_180_12 (x := Int32.ofInt e) rfl ?_
  refine i_180_13 (c := Int32.ofInt ((xbl (V h) : Int) + e)) (o_add (xbl (V h) : Int) e) ?_
  refine i_180_14 (lv2 := [(8, Value.int (Int32.ofInt ((xbl (V h) : Int) + e))), (7, Value.int (Int32.ofInt (S 153 ((r).toNat)))), (0, Value.ref 128), (1, Value.int (Int32.ofInt r)), (2, Value.ref h), (3, Value.int (Int32.ofInt e)), (4, Value.int (Int32.ofInt more)), (5, Value.int (Int32.ofInt sg)), (6, Value.int (Int32.ofInt mode))]) rfl ?_
  refine i_180_16 (x := 128) rfl ?_
  refine i_180_17 (v := Value.int (Int32.ofInt (S 128 21))) hR.c128 rfl ?_
  refine i_180_20 (z_ne (a := S 128 21) ⟨by omega, by omega⟩ fun c0 => ?_) (z_eq (a := S 128 21) ⟨by omega, by omega⟩ fun c0 => ?_)
  · refine i_180_49 (x := Int32.ofInt ((xbl (V h) : Int) + e)) rfl ?_
    refine i_180_51 (x := Int32.ofInt (S 153 ((r).toNat))) rfl ?_
    refine i_180_53 (c := Int32.ofInt (((xbl (V h) : Int) + e) - (S 153 ((r).toNat)))) (o_sub ((xbl (V h) : Int) + e) (S 153 ((r).toNat))) ?_
    have e : rU (S 153 r.toNat) (S 128 17) (S 128 20) (S 128 21) ((xbl (V h) : Int) + e) = ((xbl (V h) : Int) + e) - (S 153 ((r).toNat)) := by unfold rU; first | exact if_pos (by omega) | exact if_neg (by omega)
    rw [e] at k
    exact k
  · refine i_180_23 (x := 128) rfl ?_
    refine i_180_24 (v := Value.int (Int32.ofInt (S 128 20))) hR.c128 rfl ?_
    refine i_180_27 (z_eq (a := S 128 20) ⟨by omega, by omega⟩ fun c1 => ?_) (z_ne (a := S 128 20) ⟨by omega, by omega⟩ fun c1 => ?_)
    · refine i_180_49 (x := Int32.ofInt ((xbl (V h) : Int) + e)) rfl ?_
      refine i_180_51 (x := Int32.ofInt (S 153 ((r).toNat))) rfl ?_
      refine i_180_53 (c := Int32.ofInt (((xbl (V h) : Int) + e) - (S 153 ((r).toNat)))) (o_sub ((xbl (V h) : Int) + e) (S 153 ((r).toNat))) ?_
      have e : rU (S 153 r.toNat) (S 128 17) (S 128 20) (S 128 21) ((xbl (V h) : Int) + e) = ((xbl (V h) : Int) + e) - (S 153 ((r).toNat)) := by unfold rU; first | exact if_pos (by omega) | exact if_neg (by omega)
      rw [e] at k
      exact k
    · refine i_180_30 (x := Int32.ofInt ((xbl (V h) : Int) + e)) rfl ?_
      refine i_180_32 (x := 128) rfl ?_
      refine i_180_33 (v := Value.int (Int32.ofInt (S 128 17))) hR.c128 rfl ?_
      refine i_180_36 (b_le (a := S 128 17) (b := (xbl (V h) : Int) + e) ⟨by omega, by omega⟩ ⟨by omega, by omega⟩ fun c2 => ?_) (b_lt (a := (xbl (V h) : Int) + e) (b := S 128 17) ⟨by omega, by omega⟩ ⟨by omega, by omega⟩ fun c2 => ?_)
      · refine i_180_49 (x := Int32.ofInt ((xbl (V h) : Int) + e)) rfl ?_
        refine i_180_51 (x := Int32.ofInt (S 153 ((r).toNat))) rfl ?_
        refine i_180_53 (c := Int32.ofInt (((xbl (V h) : Int) + e) - (S 153 ((r).toNat)))) (o_sub ((xbl (V h) : Int) + e) (S 153 ((r).toNat))) ?_
        have e : rU (S 153 r.toNat) (S 128 17) (S 128 20) (S 128 21) ((xbl (V h) : Int) + e) = ((xbl (V h) : Int) + e) - (S 153 ((r).toNat)) := by unfold rU; first | exact if_pos (by omega) | exact if_neg (by omega)
        rw [e] at k
        exact k
      · refine i_180_39 (x := 128) rfl ?_
        refine i_180_40 (v := Value.int (Int32.ofInt (S 128 17))) hR.c128 rfl ?_
        refine i_180_43 (x := Int32.ofInt (S 153 ((r).toNat))) rfl ?_
        refine i_180_45 (c := Int32.ofInt ((S 128 17) - (S 153 ((r).toNat)))) (o_sub (S 128 17) (S 153 ((r).toNat))) ?_
        refine i_180_46 ?_
        have e : rU (S 153 r.toNat) (S 128 17) (S 128 20) (S 128 21) ((xbl (V h) : Int) + e) = (S 128 17) - (S 153 ((r).toNat)) := by unfold rU; first | exact if_pos (by omega) | exact if_neg (by omega)
        rw [e] at k
        exact k
theorem rd_B {d : Nat} {w0 w : xW} {S : Nat → Nat → Int} {V : Nat → Nat} {Q : Option Value ⊕ Nat → xW → Prop} {h : Nat} {r e more sg mode : Int} {u : Int} (hR : mR w0 S V w) (hh : isN h) (h135 : h ≠ 135) (h0 : 0 ≤ r) (h1 : r < 17) (hm : more = 0 ∨ more = 1) (hs : sg = 0 ∨ sg = 1) (he : -1000000 ≤ e ∧ e ≤ 1000000) (hmo : 0 ≤ mode ∧ mode ≤ 4) (p0 : 2 ≤ S 153 r.toNat) (p1 : S 153 r.toNat ≤ 4096) (hl : -16384 ≤ S 128 17 ∧ S 128 17 ≤ 16384) (hg : -16384 ≤ S 128 18 ∧ S 128 18 ≤ 16384) (hgr : S 128 20 = 0 ∨ S 128 20 = 1) (hfr : S 128 21 = 0 ∨ S 128 21 = 1) (hv : xbl (V h) ≤ 140000) (hu0 : -3000000 ≤ u) (hu1 : u ≤ 3000000) (hcut : (xbl (V h) : Int) - (u - e) ≤ 140900) (k : ∀ lv w, xld lv 0 = some (Value.ref 128) → xld lv 1 = some (Value.int (Int32.ofInt r)) → xld lv 2 = some (Value.ref h) → xld lv 4 = some (Value.int (Int32.ofInt more)) → xld lv 5 = some (Value.int (Int32.ofInt sg)) → xld lv 6 = some (Value.int (Int32.ofInt mode)) → xld lv 7 = some (Value.int (Int32.ofInt (S 153 r.toNat))) → xld lv 8 = some (Value.int (Int32.ofInt ((xbl (V h) : Int) + e))) → xld lv 9 = some (Value.int (Int32.ofInt u)) → xld lv 11 = some (Value.int (Int32.ofInt (bb (rG (V h) (u - e) more sg mode)))) → xld lv 12 = some (Value.int (Int32.ofInt (bb (rE (V h) (u - e) more)))) → mR w0 (u2 S 156 r.toNat sg) (uv V 135 (rq (V h) (u - e))) w → xEv (d + 4) 180 161 lv [] w Q) : xEv (d + 4) 180 54 [(8, Value.int (Int32.ofInt ((xbl (V h) : Int) + e))), (7, Value.int (Int32.ofInt (S 153 (r).toNat))), (0, Value.ref 128), (1, Value.int (Int32.ofInt r)), (2, Value.ref h), (3, Value.int (Int32.ofInt e)), (4, Value.int (Int32.ofInt more)), (5, Value.int (Int32.ofInt sg)), (6, Value.int (Int32.ofInt mode))] [.int (Int32.ofInt u)] w Q := by
  refine i_180_54 (lv2 := [(9, Value.int (Int32.ofInt u)), (8, Value.int (Int32.ofInt ((xbl (V h) : Int) + e))), (7, Value.int (Int32.ofInt (S 153 (r).toNat))), (0, Value.ref 128), (1, Value.int (Int32.ofInt r)), (2, Value.ref h), (3, Value.int (Int32.ofInt e)), (4, Value.int (Int32.ofInt more)), (5, Value.int (Int32.ofInt sg)), (6, Value.int (Int32.ofInt mode))]) rfl ?_
  refine i_180_56 (x := Int32.ofInt u) rfl ?_
  refine i_180_58 (x := Int32.ofInt e) rfl ?_
  refine i_180_59 (c := Int32.ofInt (u - e)) (o_sub u e) ?_
  refine i_180_60 (lv2 := [(10, Value.int (Int32.ofInt (u - e))), (9, Value.int (Int32.ofInt u)), (8, Value.int (Int32.ofInt ((xbl (V h) : Int) + e))), (7, Value.int (Int32.ofInt (S 153 (r).toNat))), (0, Value.ref 128), (1, Value.int (Int32.ofInt r)), (2, Value.ref h), (3, Value.int (Int32.ofInt e)), (4, Value.int (Int32.ofInt more)), (5, Value.int (Int32.ofInt sg)), (6, Value.int (Int32.ofInt mode))]) rfl ?_
  refine i_180_62 (x := 128) rfl ?_
  refine i_180_63 (v := Value.ref 156) hR.c128 rfl ?_
  refine i_180_66 (x := Int32.ofInt r) rfl ?_
  refine i_180_67 (x := Int32.ofInt sg) rfl ?_
  refine i_180_69z (v := Value.int (Int32.ofInt sg)) (hR.row a156) (ix0 (T := r) (by omega) (by omega)) (ix1 (T := r) (by omega) (by omega) (by omega)) (by decide) (nrb (by omega)) ?_
  rw [ixn (T := r) (by omega) (by omega)]
  refine xgen (P := mR w0 (u2 S 156 ((r).toNat) sg) V) (hR.arr a156 rfl) (fun w hR => ?_)
  refine i_180_70 (x := 128) rfl ?_
  refine i_180_71 (v := Value.ref 135) hR.c128 rfl ?_
  refine i_180_74 (x := h) rfl ?_
  obtain ⟨fs, hobj⟩ := hR.obj (h := 135) (iNw (h := 135) (by decide) (by decide) (by decide))
  obtain ⟨w, hrun, hR⟩ := r_setn (d := d + 1) (v := V h) (c := 4700) hR (iNw (h := 135) (by decide) (by decide) (by decide)) hh (rfl) rfl (by omega)
  refine i_180_75 hobj (Nat.le_of_ble_eq_true rfl) hrun ?_
  refine i_180_78 ?_
  refine i_180_79 (lv2 := [(11, Value.int 0), (10, Value.int (Int32.ofInt (u - e))), (9, Value.int (Int32.ofInt u)), (8, Value.int (Int32.ofInt ((xbl (V h) : Int) + e))), (7, Value.int (Int32.ofInt (S 153 (r).toNat))), (0, Value.ref 128), (1, Value.int (Int32.ofInt r)), (2, Value.ref h), (3, Value.int (Int32.ofInt e)), (4, Value.int (Int32.ofInt more)), (5, Value.int (Int32.ofInt sg)), (6, Value.int (Int32.ofInt mode))]) rfl ?_
  refine i_180_81 (x := Int32.ofInt more) rfl ?_
  refine i_180_83 (z_ne (a := more) ⟨by omega, by omega⟩ fun c0 => ?_) (z_eq (a := more) ⟨by omega, by omega⟩ fun c0 => ?_)
  · refine i_180_90 ?_
    refine i_180_91 (lv2 := [(12, Value.int 0), (11, Value.int 0), (10, Value.int (Int32.ofInt (u - e))), (9, Value.int (Int32.ofInt u)), (8, Value.int (Int32.ofInt ((xbl (V h) : Int) + e))), (7, Value.int (Int32.ofInt (S 153 (r).toNat))), (0, Value.ref 128), (1, Value.int (Int32.ofInt r)), (2, Value.ref h), (3, Value.int (Int32.ofInt e)), (4, Value.int (Int32.ofInt more)), (5, Value.int (Int32.ofInt sg)), (6, Value.int (Int32.ofInt mode))]) rfl ?_
    refine i_180_93 (x := Int32.ofInt (u - e)) rfl ?_
    refine i_180_95 (z_le (a := u - e) ⟨by omega, by omega⟩ fun c1 => ?_) (z_gt (a := u - e) ⟨by omega, by omega⟩ fun c1 => ?_)
    · refine i_180_151 (x := 128) rfl ?_
      refine i_180_152 (v := Value.ref 135) hR.c128 rfl ?_
      refine i_180_155 (x := Int32.ofInt (u - e)) rfl ?_
      refine i_180_157 (c := Int32.ofInt (-(u - e))) (o_neg (u - e)) ?_
      obtain ⟨fs, hobj⟩ := hR.obj (h := 135) (iNw (h := 135) (by decide) (by decide) (by decide))
      obtain ⟨w, hrun, hR⟩ := r_up (d := d + 1) (v := V h) (c := 4700) (k := -(u - e)) hR (iNw (h := 135) (by decide) (by decide) (by decide)) (uv_s) rfl (by omega) (by omega)
      rw [uvv] at hR
      refine i_180_158 hobj (Nat.le_of_ble_eq_true rfl) hrun ?_
      have e1 : rG (V h) (u - e) more sg mode = false := by unfold rG; rw [decide_eq_false (show ¬ 0 < u - e by omega)]; rfl
      have e2 : rE (V h) (u - e) more = false := by unfold rE; rw [decide_eq_false (show ¬ 0 < u - e by omega)]; simp [*]
      have e3 : rq (V h) (u - e) = (V h) * 2 ^ (-(u - e) : Int).toNat := if_neg (by omega)
      exact k _ _ rfl rfl rfl rfl rfl rfl rfl rfl rfl (by rw [e1]; rfl) (by rw [e2]; rfl) (by rw [e3]; exact hR)
    · refine i_180_98 (x := Int32.ofInt more) rfl ?_
      refine i_180_100 (z_ne (a := more) ⟨by omega, by omega⟩ fun c2 => ?_) (z_eq (a := more) ⟨by omega, by omega⟩ fun c2 => absurd c2 (by omega))
      refine i_180_116 ?_
      refine i_180_117 (lv2 := [(12, Value.int 0), (11, Value.int 0), (10, Value.int (Int32.ofInt (u - e))), (9, Value.int (Int32.ofInt u)), (8, Value.int (Int32.ofInt ((xbl (V h) : Int) + e))), (7, Value.int (Int32.ofInt (S 153 (r).toNat))), (0, Value.ref 128), (1, Value.int (Int32.ofInt r)), (2, Value.ref h), (3, Value.int (Int32.ofInt e)), (4, Value.int (Int32.ofInt more)), (5, Value.int (Int32.ofInt sg)), (6, Value.int (Int32.ofInt mode))]) rfl ?_
      refine i_180_119 (x := h) rfl ?_
      refine i_180_120 (x := Int32.ofInt (u - e)) rfl ?_
      refine i_180_122 (x := Int32.ofInt more) rfl ?_
      refine i_180_124 (x := Int32.ofInt sg) rfl ?_
      refine i_180_126 (x := Int32.ofInt mode) rfl ?_
      refine i_180_128 (x := h) rfl ?_
      refine i_180_129 (x := Int32.ofInt (u - e)) rfl ?_
      obtain ⟨fs, hobj⟩ := hR.obj (h := h) hh
      have hrun := r_bit (d := d + 1) (v := V h) (k := u - e) hR hh ((uv_n (by omega)).trans (rfl)) (by omega) (by omega)
      refine i_180_131 hobj (Nat.le_of_ble_eq_true rfl) hrun ?_
      obtain ⟨w, hrun, hR⟩ := s_goesUp (d := d) (h := h) (cut := u - e) (more := more) (sg := sg) (mode := mode) (odd := bb (nbit (V h) (u - e))) hR hh (by omega) (by omega) (bb_01 _) (by omega) (by omega) (by omega)
      rw [show (uv V 135 (V h)) h = V h from (uv_n (by omega)).trans (rfl)] at hrun
      refine i_180_134 (Nat.le_of_ble_eq_true rfl) hrun ?_
      refine i_180_137 (lv2 := [(11, Value.int (Int32.ofInt (bb (gU (V h) (u - e) more sg mode (bb (nbit (V h) (u - e))))))), (12, Value.int 0), (10, Value.int (Int32.ofInt (u - e))), (9, Value.int (Int32.ofInt u)), (8, Value.int (Int32.ofInt ((xbl (V h) : Int) + e))), (7, Value.int (Int32.ofInt (S 153 (r).toNat))), (0, Value.ref 128), (1, Value.int (Int32.ofInt r)), (2, Value.ref h), (3, Value.int (Int32.ofInt e)), (4, Value.int (Int32.ofInt more)), (5, Value.int (Int32.ofInt sg)), (6, Value.int (Int32.ofInt mode))]) rfl ?_
      refine i_180_139 (x := 128) rfl ?_
      refine i_180_140 (v := Value.ref 135) hR.c128 rfl ?_
      refine i_180_143 (x := Int32.ofInt (u - e)) rfl ?_
      obtain ⟨fs, hobj⟩ := hR.obj (h := 135) (iNw (h := 135) (by decide) (by decide) (by decide))
      obtain ⟨w, hrun, hR⟩ := r_down (d := d + 1) (v := V h) (k := u - e) hR (iNw (h := 135) (by decide) (by decide) (by decide)) (uv_s) (by omega) (by omega)
      rw [uvv] at hR
      refine i_180_145 hobj (Nat.le_of_ble_eq_true rfl) hrun ?_
      refine i_180_148 ?_
      have e1 : rG (V h) (u - e) more sg mode = (gU (V h) (u - e) more sg mode (bb (nbit (V h) (u - e)))) := by unfold rG; rw [decide_eq_true (show 0 < u - e by omega)]; rfl
      have e2 : rE (V h) (u - e) more = false := by unfold rE; rw [decide_eq_true (show 0 < u - e by omega)]; simp [*]
      have e3 : rq (V h) (u - e) = (V h) / 2 ^ (u - e : Int).toNat := if_pos (by omega)
      exact k _ _ rfl rfl rfl rfl rfl rfl rfl rfl rfl (by rw [e1]; rfl) (by rw [e2]; rfl) (by rw [e3]; exact hR)
  · refine i_180_86 ?_
    refine i_180_87 ?_
    refine i_180_91 (lv2 := [(12, Value.int 1), (11, Value.int 0), (10, Value.int (Int32.ofInt (u - e))), (9, Value.int (Int32.ofInt u)), (8, Value.int (Int32.ofInt ((xbl (V h) : Int) + e))), (7, Value.int (Int32.ofInt (S 153 (r).toNat))), (0, Value.ref 128), (1, Value.int (Int32.ofInt r)), (2, Value.ref h), (3, Value.int (Int32.ofInt e)), (4, Value.int (Int32.ofInt more)), (5, Value.int (Int32.ofInt sg)), (6, Value.int (Int32.ofInt mode))]) rfl ?_
    refine i_180_93 (x := Int32.ofInt (u - e)) rfl ?_
    refine i_180_95 (z_le (a := u - e) ⟨by omega, by omega⟩ fun c3 => ?_) (z_gt (a := u - e) ⟨by omega, by omega⟩ fun c3 => ?_)
    · refine i_180_151 (x := 128) rfl ?_
      refine i_180_152 (v := Value.ref 135) hR.c128 rfl ?_
      refine i_180_155 (x := Int32.ofInt (u - e)) rfl ?_
      refine i_180_157 (c := Int32.ofInt (-(u - e))) (o_neg (u - e)) ?_
      obtain ⟨fs, hobj⟩ := hR.obj (h := 135) (iNw (h := 135) (by decide) (by decide) (by decide))
      obtain ⟨w, hrun, hR⟩ := r_up (d := d + 1) (v := V h) (c := 4700) (k := -(u - e)) hR (iNw (h := 135) (by decide) (by decide) (by decide)) (uv_s) rfl (by omega) (by omega)
      rw [uvv] at hR
      refine i_180_158 hobj (Nat.le_of_ble_eq_true rfl) hrun ?_
      have e1 : rG (V h) (u - e) more sg mode = false := by unfold rG; rw [decide_eq_false (show ¬ 0 < u - e by omega)]; rfl
      have e2 : rE (V h) (u - e) more = true := by unfold rE; rw [decide_eq_false (show ¬ 0 < u - e by omega)]; simp [*]
      have e3 : rq (V h) (u - e) = (V h) * 2 ^ (-(u - e) : Int).toNat := if_neg (by omega)
      exact k _ _ rfl rfl rfl rfl rfl rfl rfl rfl rfl (by rw [e1]; rfl) (by rw [e2]; rfl) (by rw [e3]; exact hR)
    · refine i_180_98 (x := Int32.ofInt more) rfl ?_
      refine i_180_100 (z_ne (a := more) ⟨by omega, by omega⟩ fun c4 => absurd c4 (by omega)) (z_eq (a := more) ⟨by omega, by omega⟩ fun c4 => ?_)
      refine i_180_103 (x := h) rfl ?_
      refine i_180_104 (x := Int32.ofInt (u - e)) rfl ?_
      obtain ⟨fs, hobj⟩ := hR.obj (h := h) hh
      have hrun := r_any (d := d + 1) (v := V h) (k := u - e) hR hh ((uv_n (by omega)).trans (rfl)) (by omega) (by omega)
      refine i_180_106 hobj (Nat.le_of_ble_eq_true rfl) hrun ?_
      refine i_180_109 (zb_t fun c5 => ?_) (zb_f fun c5 => ?_)
      · refine i_180_116 ?_
        refine i_180_117 (lv2 := [(12, Value.int 0), (11, Value.int 0), (10, Value.int (Int32.ofInt (u - e))), (9, Value.int (Int32.ofInt u)), (8, Value.int (Int32.ofInt ((xbl (V h) : Int) + e))), (7, Value.int (Int32.ofInt (S 153 (r).toNat))), (0, Value.ref 128), (1, Value.int (Int32.ofInt r)), (2, Value.ref h), (3, Value.int (Int32.ofInt e)), (4, Value.int (Int32.ofInt more)), (5, Value.int (Int32.ofInt sg)), (6, Value.int (Int32.ofInt mode))]) rfl ?_
        refine i_180_119 (x := h) rfl ?_
        refine i_180_120 (x := Int32.ofInt (u - e)) rfl ?_
        refine i_180_122 (x := Int32.ofInt more) rfl ?_
        refine i_180_124 (x := Int32.ofInt sg) rfl ?_
        refine i_180_126 (x := Int32.ofInt mode) rfl ?_
        refine i_180_128 (x := h) rfl ?_
        refine i_180_129 (x := Int32.ofInt (u - e)) rfl ?_
        obtain ⟨fs, hobj⟩ := hR.obj (h := h) hh
        have hrun := r_bit (d := d + 1) (v := V h) (k := u - e) hR hh ((uv_n (by omega)).trans (rfl)) (by omega) (by omega)
        refine i_180_131 hobj (Nat.le_of_ble_eq_true rfl) hrun ?_
        obtain ⟨w, hrun, hR⟩ := s_goesUp (d := d) (h := h) (cut := u - e) (more := more) (sg := sg) (mode := mode) (odd := bb (nbit (V h) (u - e))) hR hh (by omega) (by omega) (bb_01 _) (by omega) (by omega) (by omega)
        rw [show (uv V 135 (V h)) h = V h from (uv_n (by omega)).trans (rfl)] at hrun
        refine i_180_134 (Nat.le_of_ble_eq_true rfl) hrun ?_
        refine i_180_137 (lv2 := [(11, Value.int (Int32.ofInt (bb (gU (V h) (u - e) more sg mode (bb (nbit (V h) (u - e))))))), (12, Value.int 0), (10, Value.int (Int32.ofInt (u - e))), (9, Value.int (Int32.ofInt u)), (8, Value.int (Int32.ofInt ((xbl (V h) : Int) + e))), (7, Value.int (Int32.ofInt (S 153 (r).toNat))), (0, Value.ref 128), (1, Value.int (Int32.ofInt r)), (2, Value.ref h), (3, Value.int (Int32.ofInt e)), (4, Value.int (Int32.ofInt more)), (5, Value.int (Int32.ofInt sg)), (6, Value.int (Int32.ofInt mode))]) rfl ?_
        refine i_180_139 (x := 128) rfl ?_
        refine i_180_140 (v := Value.ref 135) hR.c128 rfl ?_
        refine i_180_143 (x := Int32.ofInt (u - e)) rfl ?_
        obtain ⟨fs, hobj⟩ := hR.obj (h := 135) (iNw (h := 135) (by decide) (by decide) (by decide))
        obtain ⟨w, hrun, hR⟩ := r_down (d := d + 1) (v := V h) (k := u - e) hR (iNw (h := 135) (by decide) (by decide) (by decide)) (uv_s) (by omega) (by omega)
        rw [uvv] at hR
        refine i_180_145 hobj (Nat.le_of_ble_eq_true rfl) hrun ?_
        refine i_180_148 ?_
        have e1 : rG (V h) (u - e) more sg mode = (gU (V h) (u - e) more sg mode (bb (nbit (V h) (u - e)))) := by unfold rG; rw [decide_eq_true (show 0 < u - e by omega)]; rfl
        have e2 : rE (V h) (u - e) more = false := by unfold rE; rw [decide_eq_true (show 0 < u - e by omega)]; simp [*]
        have e3 : rq (V h) (u - e) = (V h) / 2 ^ (u - e : Int).toNat := if_pos (by omega)
        exact k _ _ rfl rfl rfl rfl rfl rfl rfl rfl rfl (by rw [e1]; rfl) (by rw [e2]; rfl) (by rw [e3]; exact hR)
      · refine i_180_112 ?_
        refine i_180_113 ?_
        refine i_180_117 (lv2 := [(12, Value.int 1), (11, Value.int 0), (10, Value.int (Int32.ofInt (u - e))), (9, Value.int (Int32.ofInt u)), (8, Value.int (Int32.ofInt ((xbl (V h) : Int) + e))), (7, Value.int (Int32.ofInt (S 153 (r).toNat))), (0, Value.ref 128), (1, Value.int (Int32.ofInt r)), (2, Value.ref h), (3, Value.int (Int32.ofInt e)), (4, Value.int (Int32.ofInt more)), (5, Value.int (Int32.ofInt sg)), (6, Value.int (Int32.ofInt mode))]) rfl ?_
        refine i_180_119 (x := h) rfl ?_
        refine i_180_120 (x := Int32.ofInt (u - e)) rfl ?_
        refine i_180_122 (x := Int32.ofInt more) rfl ?_
        refine i_180_124 (x := Int32.ofInt sg) rfl ?_
        refine i_180_126 (x := Int32.ofInt mode) rfl ?_
        refine i_180_128 (x := h) rfl ?_
        refine i_180_129 (x := Int32.ofInt (u - e)) rfl ?_
        obtain ⟨fs, hobj⟩ := hR.obj (h := h) hh
        have hrun := r_bit (d := d + 1) (v := V h) (k := u - e) hR hh ((uv_n (by omega)).trans (rfl)) (by omega) (by omega)
        refine i_180_131 hobj (Nat.le_of_ble_eq_true rfl) hrun ?_
        obtain ⟨w, hrun, hR⟩ := s_goesUp (d := d) (h := h) (cut := u - e) (more := more) (sg := sg) (mode := mode) (odd := bb (nbit (V h) (u - e))) hR hh (by omega) (by omega) (bb_01 _) (by omega) (by omega) (by omega)
        rw [show (uv V 135 (V h)) h = V h from (uv_n (by omega)).trans (rfl)] at hrun
        refine i_180_134 (Nat.le_of_ble_eq_true rfl) hrun ?_
        refine i_180_137 (lv2 := [(11, Value.int (Int32.ofInt (bb (gU (V h) (u - e) more sg mode (bb (nbit (V h) (u - e))))))), (12, Value.int 1), (10, Value.int (Int32.ofInt (u - e))), (9, Value.int (Int32.ofInt u)), (8, Value.int (Int32.ofInt ((xbl (V h) : Int) + e))), (7, Value.int (Int32.ofInt (S 153 (r).toNat))), (0, Value.ref 128), (1, Value.int (Int32.ofInt r)), (2, Value.ref h), (3, Value.int (Int32.ofInt e)), (4, Value.int (Int32.ofInt more)), (5, Value.int (Int32.ofInt sg)), (6, Value.int (Int32.ofInt mode))]) rfl ?_
        refine i_180_139 (x := 128) rfl ?_
        refine i_180_140 (v := Value.ref 135) hR.c128 rfl ?_
        refine i_180_143 (x := Int32.ofInt (u - e)) rfl ?_
        obtain ⟨fs, hobj⟩ := hR.obj (h := 135) (iNw (h := 135) (by decide) (by decide) (by decide))
        obtain ⟨w, hrun, hR⟩ := r_down (d := d + 1) (v := V h) (k := u - e) hR (iNw (h := 135) (by decide) (by decide) (by decide)) (uv_s) (by omega) (by omega)
        rw [uvv] at hR
        refine i_180_145 hobj (Nat.le_of_ble_eq_true rfl) hrun ?_
        refine i_180_148 ?_
        have e1 : rG (V h) (u - e) more sg mode = (gU (V h) (u - e) more sg mode (bb (nbit (V h) (u - e)))) := by unfold rG; rw [decide_eq_true (show 0 < u - e by omega)]; rfl
        have e2 : rE (V h) (u - e) more = true := by unfold rE; rw [decide_eq_true (show 0 < u - e by omega)]; simp [*]
        have e3 : rq (V h) (u - e) = (V h) / 2 ^ (u - e : Int).toNat := if_pos (by omega)
        exact k _ _ rfl rfl rfl rfl rfl rfl rfl rfl rfl (by rw [e1]; rfl) (by rw [e2]; rfl) (by rw [e3]; exact hR)
theorem rd_C {d : Nat} {w0 w : xW} {S : Nat → Nat → Int} {V : Nat → Nat} {lv : xLv} {Q : Option Value ⊕ Nat → xW → Prop} {h q : Nat} {r more sg mode p x u : Int} {go ex : Bool} (hR : mR w0 S (uv V 135 q) w) (l0 : xld lv 0 = some (Value.ref 128)) (l1 : xld lv 1 = some (Value.int (Int32.ofInt r))) (l2 : xld lv 2 = some (Value.ref h)) (l4 : xld lv 4 = some (Value.int (Int32.ofInt more))) (l5 : xld lv 5 = some (Value.int (Int32.ofInt sg))) (l6 : xld lv 6 = some (Value.int (Int32.ofInt mode))) (l7 : xld lv 7 = some (Value.int (Int32.ofInt p))) (l8 : xld lv 8 = some (Value.int (Int32.ofInt x))) (l9 : xld lv 9 = some (Value.int (Int32.ofInt u))) (l11 : xld lv 11 = some (Value.int (Int32.ofInt (bb go)))) (l12 : xld lv 12 = some (Value.int (Int32.ofInt (bb ex)))) (hq : xbl q ≤ 140920) (k : ∀ lv w, xld lv 0 = some (Value.ref 128) → xld lv 1 = some (Value.int (Int32.ofInt r)) → xld lv 2 = some (Value.ref h) → xld lv 4 = some (Value.int (Int32.ofInt more)) → xld lv 5 = some (Value.int (Int32.ofInt sg)) → xld lv 6 = some (Value.int (Int32.ofInt mode)) → xld lv 7 = some (Value.int (Int32.ofInt p)) → xld lv 8 = some (Value.int (Int32.ofInt x)) → xld lv 9 = some (Value.int (Int32.ofInt u)) → xld lv 13 = some (Value.int (Int32.ofInt ((xbl (q + (bb go).toNat) : Int) + u))) → True → mR w0 S (uv V 135 (q + (bb go).toNat)) w → xEv (d + 4) 180 205 lv [Value.int (Int32.ofInt (rway ex go))] w Q)  : xEv (d + 4) 180 161 lv [] w Q := by
  refine i_180_161 (x := Int32.ofInt (bb go)) l11 ?_
  refine i_180_163 (zb_f fun c0 => ?_) (zb_t fun c0 => ?_)
  · refine i_180_174 (x := 128) l0 ?_
    refine i_180_175 (v := Value.ref 135) hR.c128 rfl ?_
    obtain ⟨fs, hobj⟩ := hR.obj (h := 135) (iNw (h := 135) (by decide) (by decide) (by decide))
    have hrun := r_bits (d := d + 1) (v := q) hR (iNw (h := 135) (by decide) (by decide) (by decide)) (uv_s)
    refine i_180_178 hobj (Nat.le_of_ble_eq_true rfl) hrun ?_
    refine i_180_181 (x := Int32.ofInt u) l9 ?_
    refine i_180_183 (c := Int32.ofInt ((xbl q : Int) + u)) (o_add (xbl q : Int) u) ?_
    refine i_180_184 rfl ?_
    refine lgen1 (i := 13) (v := Value.int (Int32.ofInt ((xbl q : Int) + u))) (fun lv lg ls => ?_)
    replace l0 := lg 0 _ rfl rfl l0
    replace l1 := lg 1 _ rfl rfl l1
    replace l2 := lg 2 _ rfl rfl l2
    replace l4 := lg 4 _ rfl rfl l4
    replace l5 := lg 5 _ rfl rfl l5
    replace l6 := lg 6 _ rfl rfl l6
    replace l7 := lg 7 _ rfl rfl l7
    replace l8 := lg 8 _ rfl rfl l8
    replace l9 := lg 9 _ rfl rfl l9
    replace l11 := lg 11 _ rfl rfl l11
    replace l12 := lg 12 _ rfl rfl l12
    have l13 := ls
    refine i_180_186 (x := Int32.ofInt (bb ex)) l12 ?_
    refine i_180_188 (zb_f fun c1 => ?_) (zb_t fun c1 => ?_)
    · refine i_180_195 (x := Int32.ofInt (bb go)) l11 ?_
      refine i_180_197 (zb_f fun c2 => ?_) (zb_t fun c2 => absurd c2 (by simp_all))
      refine i_180_204 ?_
      have e1 : rway ex go = (-1) := by simp [rway, *]
      have e2 : q + (bb go).toNat = q := by simp [bb, *]
      rw [e1] at k
      exact k _ _ l0 l1 l2 l4 l5 l6 l7 l8 l9 (by rw [e2]; exact l13) trivial (by rw [e2]; exact hR)
    · refine i_180_191 ?_
      refine i_180_192 ?_
      have e1 : rway ex go = 0 := by simp [rway, *]
      have e2 : q + (bb go).toNat = q := by simp [bb, *]
      rw [e1] at k
      exact k _ _ l0 l1 l2 l4 l5 l6 l7 l8 l9 (by rw [e2]; exact l13) trivial (by rw [e2]; exact hR)
  · refine i_180_166 (x := 128) l0 ?_
    refine i_180_167 (v := Value.ref 135) hR.c128 rfl ?_
    refine i_180_170 ?_
    obtain ⟨fs, hobj⟩ := hR.obj (h := 135) (iNw (h := 135) (by decide) (by decide) (by decide))
    obtain ⟨w, hrun, hR⟩ := r_addi (d := d + 1) (v := q) (c := 4700) (k := 1) hR (iNw (h := 135) (by decide) (by decide) (by decide)) (uv_s) rfl (by omega) (by omega) (by omega)
    rw [uvv] at hR
    refine i_180_171 hobj (Nat.le_of_ble_eq_true rfl) hrun ?_
    refine i_180_174 (x := 128) l0 ?_
    refine i_180_175 (v := Value.ref 135) hR.c128 rfl ?_
    obtain ⟨fs, hobj⟩ := hR.obj (h := 135) (iNw (h := 135) (by decide) (by decide) (by decide))
    have hrun := r_bits (d := d + 1) (v := q + (1 : Int).toNat) hR (iNw (h := 135) (by decide) (by decide) (by decide)) (uv_s)
    refine i_180_178 hobj (Nat.le_of_ble_eq_true rfl) hrun ?_
    refine i_180_181 (x := Int32.ofInt u) l9 ?_
    refine i_180_183 (c := Int32.ofInt ((xbl (q + (1 : Int).toNat) : Int) + u)) (o_add (xbl (q + (1 : Int).toNat) : Int) u) ?_
    refine i_180_184 rfl ?_
    refine lgen1 (i := 13) (v := Value.int (Int32.ofInt ((xbl (q + (1 : Int).toNat) : Int) + u))) (fun lv lg ls => ?_)
    replace l0 := lg 0 _ rfl rfl l0
    replace l1 := lg 1 _ rfl rfl l1
    replace l2 := lg 2 _ rfl rfl l2
    replace l4 := lg 4 _ rfl rfl l4
    replace l5 := lg 5 _ rfl rfl l5
    replace l6 := lg 6 _ rfl rfl l6
    replace l7 := lg 7 _ rfl rfl l7
    replace l8 := lg 8 _ rfl rfl l8
    replace l9 := lg 9 _ rfl rfl l9
    replace l11 := lg 11 _ rfl rfl l11
    replace l12 := lg 12 _ rfl rfl l12
    have l13 := ls
    refine i_180_186 (x := Int32.ofInt (bb ex)) l12 ?_
    refine i_180_188 (zb_f fun c3 => ?_) (zb_t fun c3 => ?_)
    · refine i_180_195 (x := Int32.ofInt (bb go)) l11 ?_
      refine i_180_197 (zb_f fun c4 => absurd c4 (by simp_all)) (zb_t fun c4 => ?_)
      refine i_180_200 ?_
      refine i_180_201 ?_
      have e1 : rway ex go = 1 := by simp [rway, *]
      have e2 : q + (bb go).toNat = q + (1 : Int).toNat := by simp [bb, *]
      rw [e1] at k
      exact k _ _ l0 l1 l2 l4 l5 l6 l7 l8 l9 (by rw [e2]; exact l13) trivial (by rw [e2]; exact hR)
    · refine i_180_191 ?_
      refine i_180_192 ?_
      have e1 : rway ex go = 0 := by simp [rway, *]
      have e2 : q + (bb go).toNat = q + (1 : Int).toNat := by simp [bb, *]
      rw [e1] at k
      exact k _ _ l0 l1 l2 l4 l5 l6 l7 l8 l9 (by rw [e2]; exact l13) trivial (by rw [e2]; exact hR)
theorem rd_E {d : Nat} {w0 w : xW} {S : Nat → Nat → Int} {V : Nat → Nat} {lv : xLv} {Q : Option Value ⊕ Nat → xW → Prop} {sg x way : Int} (hR : mR w0 S V w) (l0 : xld lv 0 = some (Value.ref 128)) (l5 : xld lv 5 = some (Value.int (Int32.ofInt sg))) (l8 : xld lv 8 = some (Value.int (Int32.ofInt x))) (l14 : xld lv 14 = some (Value.int (Int32.ofInt way))) (hs : sg = 0 ∨ sg = 1) (hx : -4000000 ≤ x ∧ x ≤ 4000000) (hw : -1 ≤ way ∧ way ≤ 1) (hl : -16384 ≤ S 128 17 ∧ S 128 17 ≤ 16384) (hgr : S 128 20 = 0 ∨ S 128 20 = 1) (hfr : S 128 21 = 0 ∨ S 128 21 = 1) (hQ : ∀ S' w', mR w0 S' V w' → S' 128 19 = rFl (S 128 21) (S 128 20) x (S 128 17) way (S 128 19) → (∀ a j, ¬ (a = 128 ∧ j = 19) → S' a j = S a j) → Q (.inl (some (.int (Int32.ofInt (if sg = 0 then way else -way))))) w')  : xEv (d + 4) 180 591 lv [] w Q := by
  refine i_180_591 (x := 128) l0 ?_
  refine i_180_592 (v := Value.int (Int32.ofInt (S 128 21))) hR.c128 rfl ?_
  refine i_180_595 (z_ne (a := S 128 21) ⟨by omega, by omega⟩ fun c0 => ?_) (z_eq (a := S 128 21) ⟨by omega, by omega⟩ fun c0 => ?_)
  · refine i_180_629 (x := Int32.ofInt way) l14 ?_
    refine i_180_631 (z_eq (a := way) ⟨by omega, by omega⟩ fun c1 => ?_) (z_ne (a := way) ⟨by omega, by omega⟩ fun c1 => ?_)
    · refine i_180_644 (x := Int32.ofInt sg) l5 ?_
      refine i_180_646 (z_eq (a := sg) ⟨by omega, by omega⟩ fun c2 => ?_) (z_ne (a := sg) ⟨by omega, by omega⟩ fun c2 => ?_)
      · refine i_180_655 (x := Int32.ofInt way) l14 ?_
        refine i_180_657 ?_
        have e1 : rFl (S 128 21) (S 128 20) x (S 128 17) way (S 128 19) = S 128 19 := by unfold rFl; exact if_neg (by omega)
        have e2 : (if sg = 0 then way else -way) = way := if_pos (by omega)
        rw [e2, e1] at hQ
        refine hQ _ _ hR ?_ ?_
        · rfl
        · intro a j hn; rfl
      · refine i_180_649 (x := Int32.ofInt way) l14 ?_
        refine i_180_651 (c := Int32.ofInt (-way)) (o_neg way) ?_
        refine i_180_652 ?_
        refine i_180_657 ?_
        have e1 : rFl (S 128 21) (S 128 20) x (S 128 17) way (S 128 19) = S 128 19 := by unfold rFl; exact if_neg (by omega)
        have e2 : (if sg = 0 then way else -way) = -way := if_neg (by omega)
        rw [e2, e1] at hQ
        refine hQ _ _ hR ?_ ?_
        · rfl
        · intro a j hn; rfl
    · refine i_180_634 (x := 128) l0 ?_
      refine i_180_635 rfl ?_
      refine i_180_636 (v := Value.int (Int32.ofInt (S 128 19))) hR.c128 rfl ?_
      refine i_180_639 ?_
      refine i_180_640 (c := Int32.ofInt (zor (S 128 19) 1)) (o_or (S 128 19) 1) ?_
      refine i_180_641 (fs2 := mf (u1 (S 128) 19 (zor (S 128 19) 1))) hR.c128 (Nat.le_of_ble_eq_true rfl) mfs_19 (by decide) ?_
      refine xgen (P := mR w0 (u2 S 128 19 (zor (S 128 19) 1)) V) hR.fld2 (fun w hR => ?_)
      refine i_180_644 (x := Int32.ofInt sg) l5 ?_
      refine i_180_646 (z_eq (a := sg) ⟨by omega, by omega⟩ fun c3 => ?_) (z_ne (a := sg) ⟨by omega, by omega⟩ fun c3 => ?_)
      · refine i_180_655 (x := Int32.ofInt way) l14 ?_
        refine i_180_657 ?_
        have e1 : rFl (S 128 21) (S 128 20) x (S 128 17) way (S 128 19) = zor (S 128 19) 1 := by unfold rFl; rw [if_pos (by omega), if_neg (by omega)]
        have e2 : (if sg = 0 then way else -way) = way := if_pos (by omega)
        rw [e2, e1] at hQ
        refine hQ _ _ hR ?_ ?_
        · simp [u2_e]
        · intro a j hn; simp [u2_e, hn]
      · refine i_180_649 (x := Int32.ofInt way) l14 ?_
        refine i_180_651 (c := Int32.ofInt (-way)) (o_neg way) ?_
        refine i_180_652 ?_
        refine i_180_657 ?_
        have e1 : rFl (S 128 21) (S 128 20) x (S 128 17) way (S 128 19) = zor (S 128 19) 1 := by unfold rFl; rw [if_pos (by omega), if_neg (by omega)]
        have e2 : (if sg = 0 then way else -way) = -way := if_neg (by omega)
        rw [e2, e1] at hQ
        refine hQ _ _ hR ?_ ?_
        · simp [u2_e]
        · intro a j hn; simp [u2_e, hn]
  · refine i_180_598 (x := 128) l0 ?_
    refine i_180_599 (v := Value.int (Int32.ofInt (S 128 20))) hR.c128 rfl ?_
    refine i_180_602 (z_eq (a := S 128 20) ⟨by omega, by omega⟩ fun c4 => ?_) (z_ne (a := S 128 20) ⟨by omega, by omega⟩ fun c4 => ?_)
    · refine i_180_629 (x := Int32.ofInt way) l14 ?_
      refine i_180_631 (z_eq (a := way) ⟨by omega, by omega⟩ fun c5 => ?_) (z_ne (a := way) ⟨by omega, by omega⟩ fun c5 => ?_)
      · refine i_180_644 (x := Int32.ofInt sg) l5 ?_
        refine i_180_646 (z_eq (a := sg) ⟨by omega, by omega⟩ fun c6 => ?_) (z_ne (a := sg) ⟨by omega, by omega⟩ fun c6 => ?_)
        · refine i_180_655 (x := Int32.ofInt way) l14 ?_
          refine i_180_657 ?_
          have e1 : rFl (S 128 21) (S 128 20) x (S 128 17) way (S 128 19) = S 128 19 := by unfold rFl; exact if_neg (by omega)
          have e2 : (if sg = 0 then way else -way) = way := if_pos (by omega)
          rw [e2, e1] at hQ
          refine hQ _ _ hR ?_ ?_
          · rfl
          · intro a j hn; rfl
        · refine i_180_649 (x := Int32.ofInt way) l14 ?_
          refine i_180_651 (c := Int32.ofInt (-way)) (o_neg way) ?_
          refine i_180_652 ?_
          refine i_180_657 ?_
          have e1 : rFl (S 128 21) (S 128 20) x (S 128 17) way (S 128 19) = S 128 19 := by unfold rFl; exact if_neg (by omega)
          have e2 : (if sg = 0 then way else -way) = -way := if_neg (by omega)
          rw [e2, e1] at hQ
          refine hQ _ _ hR ?_ ?_
          · rfl
          · intro a j hn; rfl
      · refine i_180_634 (x := 128) l0 ?_
        refine i_180_635 rfl ?_
        refine i_180_636 (v := Value.int (Int32.ofInt (S 128 19))) hR.c128 rfl ?_
        refine i_180_639 ?_
        refine i_180_640 (c := Int32.ofInt (zor (S 128 19) 1)) (o_or (S 128 19) 1) ?_
        refine i_180_641 (fs2 := mf (u1 (S 128) 19 (zor (S 128 19) 1))) hR.c128 (Nat.le_of_ble_eq_true rfl) mfs_19 (by decide) ?_
        refine xgen (P := mR w0 (u2 S 128 19 (zor (S 128 19) 1)) V) hR.fld2 (fun w hR => ?_)
        refine i_180_644 (x := Int32.ofInt sg) l5 ?_
        refine i_180_646 (z_eq (a := sg) ⟨by omega, by omega⟩ fun c7 => ?_) (z_ne (a := sg) ⟨by omega, by omega⟩ fun c7 => ?_)
        · refine i_180_655 (x := Int32.ofInt way) l14 ?_
          refine i_180_657 ?_
          have e1 : rFl (S 128 21) (S 128 20) x (S 128 17) way (S 128 19) = zor (S 128 19) 1 := by unfold rFl; rw [if_pos (by omega), if_neg (by omega)]
          have e2 : (if sg = 0 then way else -way) = way := if_pos (by omega)
          rw [e2, e1] at hQ
          refine hQ _ _ hR ?_ ?_
          · simp [u2_e]
          · intro a j hn; simp [u2_e, hn]
        · refine i_180_649 (x := Int32.ofInt way) l14 ?_
          refine i_180_651 (c := Int32.ofInt (-way)) (o_neg way) ?_
          refine i_180_652 ?_
          refine i_180_657 ?_
          have e1 : rFl (S 128 21) (S 128 20) x (S 128 17) way (S 128 19) = zor (S 128 19) 1 := by unfold rFl; rw [if_pos (by omega), if_neg (by omega)]
          have e2 : (if sg = 0 then way else -way) = -way := if_neg (by omega)
          rw [e2, e1] at hQ
          refine hQ _ _ hR ?_ ?_
          · simp [u2_e]
          · intro a j hn; simp [u2_e, hn]
    · refine i_180_605 (x := Int32.ofInt x) l8 ?_
      refine i_180_607 (x := 128) l0 ?_
      refine i_180_608 (v := Value.int (Int32.ofInt (S 128 17))) hR.c128 rfl ?_
      refine i_180_611 (b_le (a := S 128 17) (b := x) ⟨by omega, by omega⟩ ⟨by omega, by omega⟩ fun c8 => ?_) (b_lt (a := x) (b := S 128 17) ⟨by omega, by omega⟩ ⟨by omega, by omega⟩ fun c8 => ?_)
      · refine i_180_629 (x := Int32.ofInt way) l14 ?_
        refine i_180_631 (z_eq (a := way) ⟨by omega, by omega⟩ fun c9 => ?_) (z_ne (a := way) ⟨by omega, by omega⟩ fun c9 => ?_)
        · refine i_180_644 (x := Int32.ofInt sg) l5 ?_
          refine i_180_646 (z_eq (a := sg) ⟨by omega, by omega⟩ fun c10 => ?_) (z_ne (a := sg) ⟨by omega, by omega⟩ fun c10 => ?_)
          · refine i_180_655 (x := Int32.ofInt way) l14 ?_
            refine i_180_657 ?_
            have e1 : rFl (S 128 21) (S 128 20) x (S 128 17) way (S 128 19) = S 128 19 := by unfold rFl; exact if_neg (by omega)
            have e2 : (if sg = 0 then way else -way) = way := if_pos (by omega)
            rw [e2, e1] at hQ
            refine hQ _ _ hR ?_ ?_
            · rfl
            · intro a j hn; rfl
          · refine i_180_649 (x := Int32.ofInt way) l14 ?_
            refine i_180_651 (c := Int32.ofInt (-way)) (o_neg way) ?_
            refine i_180_652 ?_
            refine i_180_657 ?_
            have e1 : rFl (S 128 21) (S 128 20) x (S 128 17) way (S 128 19) = S 128 19 := by unfold rFl; exact if_neg (by omega)
            have e2 : (if sg = 0 then way else -way) = -way := if_neg (by omega)
            rw [e2, e1] at hQ
            refine hQ _ _ hR ?_ ?_
            · rfl
            · intro a j hn; rfl
        · refine i_180_634 (x := 128) l0 ?_
          refine i_180_635 rfl ?_
          refine i_180_636 (v := Value.int (Int32.ofInt (S 128 19))) hR.c128 rfl ?_
          refine i_180_639 ?_
          refine i_180_640 (c := Int32.ofInt (zor (S 128 19) 1)) (o_or (S 128 19) 1) ?_
          refine i_180_641 (fs2 := mf (u1 (S 128) 19 (zor (S 128 19) 1))) hR.c128 (Nat.le_of_ble_eq_true rfl) mfs_19 (by decide) ?_
          refine xgen (P := mR w0 (u2 S 128 19 (zor (S 128 19) 1)) V) hR.fld2 (fun w hR => ?_)
          refine i_180_644 (x := Int32.ofInt sg) l5 ?_
          refine i_180_646 (z_eq (a := sg) ⟨by omega, by omega⟩ fun c11 => ?_) (z_ne (a := sg) ⟨by omega, by omega⟩ fun c11 => ?_)
          · refine i_180_655 (x := Int32.ofInt way) l14 ?_
            refine i_180_657 ?_
            have e1 : rFl (S 128 21) (S 128 20) x (S 128 17) way (S 128 19) = zor (S 128 19) 1 := by unfold rFl; rw [if_pos (by omega), if_neg (by omega)]
            have e2 : (if sg = 0 then way else -way) = way := if_pos (by omega)
            rw [e2, e1] at hQ
            refine hQ _ _ hR ?_ ?_
            · simp [u2_e]
            · intro a j hn; simp [u2_e, hn]
          · refine i_180_649 (x := Int32.ofInt way) l14 ?_
            refine i_180_651 (c := Int32.ofInt (-way)) (o_neg way) ?_
            refine i_180_652 ?_
            refine i_180_657 ?_
            have e1 : rFl (S 128 21) (S 128 20) x (S 128 17) way (S 128 19) = zor (S 128 19) 1 := by unfold rFl; rw [if_pos (by omega), if_neg (by omega)]
            have e2 : (if sg = 0 then way else -way) = -way := if_neg (by omega)
            rw [e2, e1] at hQ
            refine hQ _ _ hR ?_ ?_
            · simp [u2_e]
            · intro a j hn; simp [u2_e, hn]
      · refine i_180_614 (x := Int32.ofInt way) l14 ?_
        refine i_180_616 (z_eq (a := way) ⟨by omega, by omega⟩ fun c12 => ?_) (z_ne (a := way) ⟨by omega, by omega⟩ fun c12 => ?_)
        · refine i_180_629 (x := Int32.ofInt way) l14 ?_
          refine i_180_631 (z_eq (a := way) ⟨by omega, by omega⟩ fun c13 => ?_) (z_ne (a := way) ⟨by omega, by omega⟩ fun c13 => absurd c13 (by omega))
          refine i_180_644 (x := Int32.ofInt sg) l5 ?_
          refine i_180_646 (z_eq (a := sg) ⟨by omega, by omega⟩ fun c14 => ?_) (z_ne (a := sg) ⟨by omega, by omega⟩ fun c14 => ?_)
          · refine i_180_655 (x := Int32.ofInt way) l14 ?_
            refine i_180_657 ?_
            have e1 : rFl (S 128 21) (S 128 20) x (S 128 17) way (S 128 19) = S 128 19 := by unfold rFl; exact if_neg (by omega)
            have e2 : (if sg = 0 then way else -way) = way := if_pos (by omega)
            rw [e2, e1] at hQ
            refine hQ _ _ hR ?_ ?_
            · rfl
            · intro a j hn; rfl
          · refine i_180_649 (x := Int32.ofInt way) l14 ?_
            refine i_180_651 (c := Int32.ofInt (-way)) (o_neg way) ?_
            refine i_180_652 ?_
            refine i_180_657 ?_
            have e1 : rFl (S 128 21) (S 128 20) x (S 128 17) way (S 128 19) = S 128 19 := by unfold rFl; exact if_neg (by omega)
            have e2 : (if sg = 0 then way else -way) = -way := if_neg (by omega)
            rw [e2, e1] at hQ
            refine hQ _ _ hR ?_ ?_
            · rfl
            · intro a j hn; rfl
        · refine i_180_619 (x := 128) l0 ?_
          refine i_180_620 rfl ?_
          refine i_180_621 (v := Value.int (Int32.ofInt (S 128 19))) hR.c128 rfl ?_
          refine i_180_624 ?_
          refine i_180_625 (c := Int32.ofInt (zor (S 128 19) 4)) (o_or (S 128 19) 4) ?_
          refine i_180_626 (fs2 := mf (u1 (S 128) 19 (zor (S 128 19) 4))) hR.c128 (Nat.le_of_ble_eq_true rfl) mfs_19 (by decide) ?_
          refine xgen (P := mR w0 (u2 S 128 19 (zor (S 128 19) 4)) V) hR.fld2 (fun w hR => ?_)
          refine i_180_629 (x := Int32.ofInt way) l14 ?_
          refine i_180_631 (z_eq (a := way) ⟨by omega, by omega⟩ fun c15 => absurd c15 (by omega)) (z_ne (a := way) ⟨by omega, by omega⟩ fun c15 => ?_)
          refine i_180_634 (x := 128) l0 ?_
          refine i_180_635 rfl ?_
          refine i_180_636 (v := Value.int (Int32.ofInt (zor (S 128 19) 4))) hR.c128 rfl ?_
          refine i_180_639 ?_
          refine i_180_640 (c := Int32.ofInt (zor (zor (S 128 19) 4) 1)) (o_or (zor (S 128 19) 4) 1) ?_
          refine i_180_641 (fs2 := mf (u1 ((u2 S 128 19 (zor (S 128 19) 4)) 128) 19 (zor (zor (S 128 19) 4) 1))) hR.c128 (Nat.le_of_ble_eq_true rfl) mfs_19 (by decide) ?_
          refine xgen (P := mR w0 (u2 (u2 S 128 19 (zor (S 128 19) 4)) 128 19 (zor (zor (S 128 19) 4) 1)) V) hR.fld2 (fun w hR => ?_)
          refine i_180_644 (x := Int32.ofInt sg) l5 ?_
          refine i_180_646 (z_eq (a := sg) ⟨by omega, by omega⟩ fun c16 => ?_) (z_ne (a := sg) ⟨by omega, by omega⟩ fun c16 => ?_)
          · refine i_180_655 (x := Int32.ofInt way) l14 ?_
            refine i_180_657 ?_
            have e1 : rFl (S 128 21) (S 128 20) x (S 128 17) way (S 128 19) = zor (zor (S 128 19) 4) 1 := by unfold rFl; rw [if_pos (by omega), if_pos (by omega)]
            have e2 : (if sg = 0 then way else -way) = way := if_pos (by omega)
            rw [e2, e1] at hQ
            refine hQ _ _ hR ?_ ?_
            · simp [u2_e]
            · intro a j hn; simp [u2_e, hn]
          · refine i_180_649 (x := Int32.ofInt way) l14 ?_
            refine i_180_651 (c := Int32.ofInt (-way)) (o_neg way) ?_
            refine i_180_652 ?_
            refine i_180_657 ?_
            have e1 : rFl (S 128 21) (S 128 20) x (S 128 17) way (S 128 19) = zor (zor (S 128 19) 4) 1 := by unfold rFl; rw [if_pos (by omega), if_pos (by omega)]
            have e2 : (if sg = 0 then way else -way) = -way := if_neg (by omega)
            rw [e2, e1] at hQ
            refine hQ _ _ hR ?_ ?_
            · simp [u2_e]
            · intro a j hn; simp [u2_e, hn]
