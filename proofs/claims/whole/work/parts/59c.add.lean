/-! add of the reference; sums under way -/
/-- S1, V1 are near S, V, with a sum under way: multiples of 2^b, above and below 0; signs of zeros -/
def sS (S : Nat → Nat → Int) (V : Nat → Nat) (S1 : Nat → Nat → Int) (V1 : Nat → Nat) (b : Int) (P N : Nat) (z pz nz : Int) : Prop := nS S S1 ∧ nV V V1 ∧ S1 128 26 = b ∧ S1 128 27 = z ∧ S1 128 28 = pz ∧ S1 128 29 = nz ∧ V1 147 = P ∧ V1 149 = N
section
variable {d : Nat} {w0 w : xW} {S S1 : Nat → Nat → Int} {V V1 : Nat → Nat} {b z pz nz : Int} {P N : Nat}
theorem sS.p (h : sS S V S1 V1 b P N z pz nz) : V1 147 = P := h.2.2.2.2.2.2.1
theorem sS.n (h : sS S V S1 V1 b P N z pz nz) : V1 149 = N := h.2.2.2.2.2.2.2
theorem sS.up {k v : Nat} (h : sS S V S1 V1 b P N z pz nz) (h1 : k ≠ 147) (h2 : k ≠ 149) (h3 : k < 160) : sS S V S1 (uv V1 k v) b P N z pz nz :=
  ⟨h.1, h.2.1.up h3, h.2.2.1, h.2.2.2.1, h.2.2.2.2.1, h.2.2.2.2.2.1, (uv_n (fun e => h1 e.symm)).trans h.p, (uv_n (fun e => h2 e.symm)).trans h.n⟩
theorem t_open {e : Int} (hR : mR w0 S1 V1 w) (h1 : nS S S1) (h2 : nV V V1) : ∃ w' S' V', xRun (d + 3) 200 [.ref 128, .int (Int32.ofInt e)] w (.inl none) w' ∧ mR w0 S' V' w' ∧ sS S V S' V' e 0 0 1 0 0 := by
  obtain ⟨w', h, hR'⟩ := s_open (d := d) (e := e) hR
  refine ⟨w', _, _, h, hR', ((((h1.up (by decide) (by decide)).up (by decide) (by decide)).up (by decide) (by decide)).up (by decide) (by decide)), (h2.up (by decide)).up (by decide), ?_, ?_, ?_, ?_, ?_, ?_⟩
  · simp [u2_e]
  · simp [u2_e]
  · simp [u2_e]
  · simp [u2_e]
  · rw [uv_n (by decide), uv_s]
  · rw [uv_s]
theorem t_addTo {h m : Nat} {e sg : Int} (hR : mR w0 S1 V1 w) (hS : sS S V S1 V1 b P N z pz nz) (hh : isN h) (hv : V1 h = m) (hs : sg = 0 ∨ sg = 1) (he : -200000 ≤ e ∧ e ≤ 200000) (hbb : -200000 ≤ b ∧ b ≤ e) (hm : (xbl m : Int) + (e - b) ≤ 140800) (h1 : xbl P ≤ 140900) (h2 : xbl N ≤ 140900) : ∃ w' S' V', xRun (d + 3) 202 [.ref 128, .ref h, .int (Int32.ofInt e), .int (Int32.ofInt sg)] w (.inl none) w' ∧ mR w0 S' V' w' ∧ sS S V S' V' b (P + if sg = 0 then m * 2 ^ (e - b).toNat else 0) (N + if sg = 0 then 0 else m * 2 ^ (e - b).toNat) 0 pz nz := by
  obtain ⟨g1, g2, g3, g4, g5, g6, g7, g8⟩ := hS
  obtain ⟨w', h, hR'⟩ := s_addTo (d := d) hR hh hv hs he (by rw [g3]; exact hbb) (by rw [g3]; exact hm) (by rw [g7]; exact h1) (by rw [g8]; exact h2)
  rw [g3, g7, g8] at hR'
  refine ⟨w', _, _, h, hR', g1.up (by decide) (by decide), ((g2.up (by decide)).up (by decide)).up (by decide), ?_, ?_, ?_, ?_, ?_, ?_⟩
  · simp [u2_e, g3]
  · simp [u2_e]
  · simp [u2_e, g5]
  · simp [u2_e, g6]
  · rw [uv_n (by decide), uv_s]
  · rw [uv_s]
theorem t_addZero {sg : Int} (hR : mR w0 S1 V1 w) (hS : sS S V S1 V1 b P N z pz nz) (hs : sg = 0 ∨ sg = 1) : ∃ w' S' V', xRun (d + 1) 214 [.ref 128, .int (Int32.ofInt sg)] w (.inl none) w' ∧ mR w0 S' V' w' ∧ sS S V S' V' b P N z (if sg = 0 then 1 else pz) (if sg = 0 then nz else 1) := by
  obtain ⟨g1, g2, g3, g4, g5, g6, g7, g8⟩ := hS
  obtain ⟨w', h, hR'⟩ := s_addZero (d := d) hR hs
  rw [g5, g6] at hR'
  refine ⟨w', _, _, h, hR', (g1.up (by decide) (by decide)).up (by decide) (by decide), g2, ?_, ?_, ?_, ?_, g7, g8⟩
  · simp [u2_e, g3]
  · simp [u2_e, g4]
  · simp [u2_e]
  · simp [u2_e]
theorem t_close {r mode : Int} (hR : mR w0 S1 V1 w) (hS : sS S V S1 V1 b P N z pz nz) (hI : mI S V) (hr : 0 ≤ r ∧ r < 16) (hmo : 0 ≤ mode ∧ mode ≤ 4) (hz : (z = 0 ∨ z = 1) ∧ (pz = 0 ∨ pz = 1) ∧ (nz = 0 ∨ nz = 1)) (hbp : xbl P ≤ 140000) (hbm : xbl N ≤ 140000) (hbe : P ≠ N → -200000 ≤ b ∧ b ≤ 200000) : ∃ w', xRun (d + 5) 215 [.ref 128, .int (Int32.ofInt r), .int (Int32.ofInt mode)] w (.inl (some (.int (Int32.ofInt (sumS (S 153 r.toNat) (S 128 17) (S 128 18) (S 128 20) (S 128 19) mode P N b z pz nz).2.2.2.2.1)))) w' ∧ ∃ S' V', mR w0 S' V' w' ∧ oP S S' V V' r.toNat (sumS (S 153 r.toNat) (S 128 17) (S 128 18) (S 128 20) (S 128 19) mode P N b z pz nz) := by
  obtain ⟨g1, g2, g3, g4, g5, g6, g7, g8⟩ := hS
  obtain ⟨w', h, S', V', hR', hP⟩ := s_close (d := d) (r := r) (mode := mode) hR (g1.mI g2 hI) hr hmo (by rw [g4, g5, g6]; exact hz) (by rw [g7]; exact hbp) (by rw [g8]; exact hbm) (by rw [g7, g8, g3]; exact hbe)
  rw [g3, g4, g5, g6, g7, g8, g1.1 153 _ (by decide), g1.2 17 (by decide), g1.2 18 (by decide), g1.2 19 (by decide), g1.2 20 (by decide)] at h hP
  exact ⟨w', h, S', V', hR', hP.near g1 g2⟩
end
def cP (k s : Int) (m : Nat) (e : Int) : Nat := if k = 3 then (if s = 0 then m * 2 ^ e.toNat else 0) else 0
def cN (k s : Int) (m : Nat) (e : Int) : Nat := if k = 3 then (if s = 0 then 0 else m * 2 ^ e.toNat) else 0
def zP (k s : Int) : Int := if k = 3 then 0 else if s = 0 then 1 else 0
def zN (k s : Int) : Int := if k = 3 then 0 else if s = 0 then 0 else 1
def ex (S : Nat → Nat → Int) (a : Nat) : Int := S 155 a - S 153 a
def base2 (ka kb ea eb : Int) : Int := if ka ≠ 3 then eb else if kb ≠ 3 then ea else min ea eb
def sum2 (p least greatest gradual f mode ka sa : Int) (ma : Nat) (ea kb sb : Int) (mb : Nat) (eb : Int) : OO :=
  sumS p least greatest gradual f mode (cP ka sa ma (ea - base2 ka kb ea eb) + cP kb sb mb (eb - base2 ka kb ea eb)) (cN ka sa ma (ea - base2 ka kb ea eb) + cN kb sb mb (eb - base2 ka kb ea eb)) (base2 ka kb ea eb) (if ka = 3 ∨ kb = 3 then 0 else 1) (max (zP ka sa) (zP kb sb)) (max (zN ka sa) (zN kb sb))
def sAdd (S : Nat → Nat → Int) (V : Nat → Nat) (r a b : Nat) (turned mode : Int) : OO :=
  if S 154 a = 1 ∧ S 154 b = 1 ∧ S 156 a ≠ xorI (S 156 b) turned then oS 0 0 (zor (S 128 19) 8)
  else if S 154 a = 1 ∨ S 154 b = 1 then oS 1 (if S 154 a = 1 then S 156 a else xorI (S 156 b) turned) (S 128 19)
  else sum2 (S 153 r) (S 128 17) (S 128 18) (S 128 20) (S 128 19) mode (S 154 a) (S 156 a) (V (160 + 2 * a)) (ex S a) (S 154 b) (xorI (S 156 b) turned) (V (160 + 2 * b)) (ex S b)
theorem pl_b {a n : Nat} {x : Nat} {s : Int} (ha : xbl a ≤ n) (hx : xbl x ≤ n) : xbl (a + if s = 0 then x else 0) ≤ n + 1 := by
  split
  · exact xbl_add ha hx
  · rw [Nat.add_zero]; omega
theorem mi_b {a n : Nat} {x : Nat} {s : Int} (ha : xbl a ≤ n) (hx : xbl x ≤ n) : xbl (a + if s = 0 then 0 else x) ≤ n + 1 := by
  split
  · rw [Nat.add_zero]; omega
  · exact xbl_add ha hx
theorem s_min {d : Nat} {w : xW} {a b : Int} (ha : -2147483648 ≤ a ∧ a < 2147483648) (hb : -2147483648 ≤ b ∧ b < 2147483648) : xRun (d + 1) 272 [.int (Int32.ofInt a), .int (Int32.ofInt b)] w (.inl (some (.int (Int32.ofInt (min a b))))) w := by
  have key : xEv (d + 1) 272 0 (lv_args 0 [.int (Int32.ofInt a), .int (Int32.ofInt b)]) [] w (fun o w' => o = .inl (some (.int (Int32.ofInt (min a b)))) ∧ w' = w) := by
    refine i_272_0 (x := Int32.ofInt a) rfl ?_
    refine i_272_1 (x := Int32.ofInt b) rfl ?_
    refine i_272_2 (b_lt (a := b) (b := a) ⟨by omega, by omega⟩ ⟨by omega, by omega⟩ fun c0 => ?_) (b_le (a := a) (b := b) ⟨by omega, by omega⟩ ⟨by omega, by omega⟩ fun c0 => ?_)
    · refine i_272_9 (x := Int32.ofInt b) rfl ?_
      refine i_272_10 ?_
      have e : min a b = b := by omega
      rw [e]
      exact ⟨rfl, rfl⟩
    · refine i_272_5 (x := Int32.ofInt a) rfl ?_
      refine i_272_6 ?_
      refine i_272_10 ?_
      have e : min a b = a := by omega
      rw [e]
      exact ⟨rfl, rfl⟩
  obtain ⟨o, w', h1, rfl, h2⟩ := key.run
  subst h2; exact h1
theorem s_max {d : Nat} {w : xW} {a b : Int} (ha : -2147483648 ≤ a ∧ a < 2147483648) (hb : -2147483648 ≤ b ∧ b < 2147483648) : xRun (d + 1) 273 [.int (Int32.ofInt a), .int (Int32.ofInt b)] w (.inl (some (.int (Int32.ofInt (max a b))))) w := by
  have key : xEv (d + 1) 273 0 (lv_args 0 [.int (Int32.ofInt a), .int (Int32.ofInt b)]) [] w (fun o w' => o = .inl (some (.int (Int32.ofInt (max a b)))) ∧ w' = w) := by
    refine i_273_0 (x := Int32.ofInt a) rfl ?_
    refine i_273_1 (x := Int32.ofInt b) rfl ?_
    refine i_273_2 (b_lt (a := a) (b := b) ⟨by omega, by omega⟩ ⟨by omega, by omega⟩ fun c0 => ?_) (b_le (a := b) (b := a) ⟨by omega, by omega⟩ ⟨by omega, by omega⟩ fun c0 => ?_)
    · refine i_273_9 (x := Int32.ofInt b) rfl ?_
      refine i_273_10 ?_
      have e : max a b = b := by omega
      rw [e]
      exact ⟨rfl, rfl⟩
    · refine i_273_5 (x := Int32.ofInt a) rfl ?_
      refine i_273_6 ?_
      refine i_273_10 ?_
      have e : max a b = a := by omega
      rw [e]
      exact ⟨rfl, rfl⟩
  obtain ⟨o, w', h1, rfl, h2⟩ := key.run
  subst h2; exact h1
set_option maxHeartbeats 8000000 in
theorem s_add {d : Nat} {w0 w : xW} {S : Nat → Nat → Int} {V : Nat → Nat} {r a b tu mode : Int} (hR : mR w0 S V w) (hI : mI S V) (hr : 0 ≤ r ∧ r < 16) (ha : 0 ≤ a ∧ a < 16) (hb : 0 ≤ b ∧ b < 16) (ka : S 154 a.toNat ≠ 0) (kb : S 154 b.toNat ≠ 0) (htu : tu = 0 ∨ tu = 1) (hmo : 0 ≤ mode ∧ mode ≤ 4) : ∃ w', xRun (d + 6) 212 [Value.ref 128, Value.int (Int32.ofInt r), Value.int (Int32.ofInt a), Value.int (Int32.ofInt b), Value.int (Int32.ofInt tu), Value.int (Int32.ofInt mode)] w (.inl (some (.int (Int32.ofInt (sAdd S V r.toNat a.toNat b.toNat tu mode).2.2.2.2.1)))) w' ∧ ∃ S' V', mR w0 S' V' w' ∧ oP S S' V V' r.toNat (sAdd S V r.toNat a.toNat b.toNat tu mode) := by
  obtain ⟨hp_r, -⟩ := hI.1 r.toNat (by omega)
  obtain ⟨hp_a, hk_a, hn_a, ht_a, hx_a, -⟩ := hI.1 a.toNat (by omega)
  obtain ⟨hp_b, hk_b, hn_b, ht_b, hx_b, -⟩ := hI.1 b.toNat (by omega)
  have hi_l := hI.2.1
  have hi_g := hI.2.2.1
  have hi_f := hI.2.2.2
  have key : xEv (d + 6) 212 0 (lv_args 0 [Value.ref 128, Value.int (Int32.ofInt r), Value.int (Int32.ofInt a), Value.int (Int32.ofInt b), Value.int (Int32.ofInt tu), Value.int (Int32.ofInt mode)]) [] w (fun o w' => o = .inl (some (.int (Int32.ofInt (sAdd S V r.toNat a.toNat b.toNat tu mode).2.2.2.2.1))) ∧ ∃ S' V', mR w0 S' V' w' ∧ oP S S' V V' r.toNat (sAdd S V r.toNat a.toNat b.toNat tu mode)) := by
    refine i_212_0 (x := 128) rfl ?_
    refine i_212_1 (v := Value.ref 156) hR.c128 rfl ?_
    refine i_212_4 (x := Int32.ofInt b) rfl ?_
    refine i_212_5z (v := Value.int (Int32.ofInt (S 156 ((b).toNat)))) (hR.row a156) (ix0 (T := b) (by omega) (by omega)) (ix1 (T := b) (by omega) (by omega) (by omega)) (ra (T := b) (by omega) (by omega) rfl) ?_
    refine i_212_6 (x := Int32.ofInt tu) rfl ?_
    refine i_212_8 (b_eq (a := S 156 ((b).toNat)) (b := tu) ⟨by omega, by omega⟩ ⟨by omega, by omega⟩ fun c0 => ?_) (b_ne (a := S 156 ((b).toNat)) (b := tu) ⟨by omega, by omega⟩ ⟨by omega, by omega⟩ fun c0 => ?_)
    · refine i_212_15 ?_
      refine i_212_16 (lv2 := [(6, Value.int 0), (0, Value.ref 128), (1, Value.int (Int32.ofInt r)), (2, Value.int (Int32.ofInt a)), (3, Value.int (Int32.ofInt b)), (4, Value.int (Int32.ofInt tu)), (5, Value.int (Int32.ofInt mode))]) rfl ?_
      refine i_212_18 (x := 128) rfl ?_
      refine i_212_19 (v := Value.ref 154) hR.c128 rfl ?_
      refine i_212_22 (x := Int32.ofInt a) rfl ?_
      refine i_212_23 (v := Value.int (Int32.ofInt (S 154 ((a).toNat)))) (hR.row a154) (ix0 (T := a) (by omega) (by omega)) (ix1 (T := a) (by omega) (by omega) (by omega)) (ra (T := a) (by omega) (by omega) rfl) ?_
      refine i_212_24 ?_
      refine i_212_25 (b_ne (a := S 154 ((a).toNat)) (b := 1) ⟨by omega, by omega⟩ ⟨by decide, by decide⟩ fun c1 => ?_) (b_eq (a := S 154 ((a).toNat)) (b := 1) ⟨by omega, by omega⟩ ⟨by decide, by decide⟩ fun c1 => ?_)
      · refine i_212_55 (x := 128) rfl ?_
        refine i_212_56 (v := Value.ref 154) hR.c128 rfl ?_
        refine i_212_59 (x := Int32.ofInt a) rfl ?_
        refine i_212_60 (v := Value.int (Int32.ofInt (S 154 ((a).toNat)))) (hR.row a154) (ix0 (T := a) (by omega) (by omega)) (ix1 (T := a) (by omega) (by omega) (by omega)) (ra (T := a) (by omega) (by omega) rfl) ?_
        refine i_212_61 ?_
        refine i_212_62 (b_eq (a := S 154 ((a).toNat)) (b := 1) ⟨by omega, by omega⟩ ⟨by decide, by decide⟩ fun c2 => absurd c2 (by omega)) (b_ne (a := S 154 ((a).toNat)) (b := 1) ⟨by omega, by omega⟩ ⟨by decide, by decide⟩ fun c2 => ?_)
        refine i_212_65 (x := 128) rfl ?_
        refine i_212_66 (v := Value.ref 154) hR.c128 rfl ?_
        refine i_212_69 (x := Int32.ofInt b) rfl ?_
        refine i_212_70 (v := Value.int (Int32.ofInt (S 154 ((b).toNat)))) (hR.row a154) (ix0 (T := b) (by omega) (by omega)) (ix1 (T := b) (by omega) (by omega) (by omega)) (ra (T := b) (by omega) (by omega) rfl) ?_
        refine i_212_71 ?_
        refine i_212_72 (b_ne (a := S 154 ((b).toNat)) (b := 1) ⟨by omega, by omega⟩ ⟨by decide, by decide⟩ fun c3 => ?_) (b_eq (a := S 154 ((b).toNat)) (b := 1) ⟨by omega, by omega⟩ ⟨by decide, by decide⟩ fun c3 => ?_)
        · refine i_212_103 (x := 128) rfl ?_
          refine i_212_104 (x := 128) rfl ?_
          refine i_212_105 (v := Value.ref 154) hR.c128 rfl ?_
          refine i_212_108 (x := Int32.ofInt a) rfl ?_
          refine i_212_109 (v := Value.int (Int32.ofInt (S 154 ((a).toNat)))) (hR.row a154) (ix0 (T := a) (by omega) (by omega)) (ix1 (T := a) (by omega) (by omega) (by omega)) (ra (T := a) (by omega) (by omega) rfl) ?_
          refine i_212_110 ?_
          refine i_212_111 (b_eq (a := S 154 ((a).toNat)) (b := 3) ⟨by omega, by omega⟩ ⟨by decide, by decide⟩ fun c4 => ?_) (b_ne (a := S 154 ((a).toNat)) (b := 3) ⟨by omega, by omega⟩ ⟨by decide, by decide⟩ fun c4 => ?_)
          · refine i_212_122 (x := 128) rfl ?_
            refine i_212_123 (v := Value.ref 154) hR.c128 rfl ?_
            refine i_212_126 (x := Int32.ofInt b) rfl ?_
            refine i_212_127 (v := Value.int (Int32.ofInt (S 154 ((b).toNat)))) (hR.row a154) (ix0 (T := b) (by omega) (by omega)) (ix1 (T := b) (by omega) (by omega) (by omega)) (ra (T := b) (by omega) (by omega) rfl) ?_
            refine i_212_128 ?_
            refine i_212_129 (b_eq (a := S 154 ((b).toNat)) (b := 3) ⟨by omega, by omega⟩ ⟨by decide, by decide⟩ fun c5 => ?_) (b_ne (a := S 154 ((b).toNat)) (b := 3) ⟨by omega, by omega⟩ ⟨by decide, by decide⟩ fun c5 => ?_)
            · refine i_212_140 (x := 128) rfl ?_
              refine i_212_141 (x := Int32.ofInt a) rfl ?_
              have hobj := hR.c128
              obtain ⟨w, hrun, hR⟩ := s_exponent (d := d + 4) (r := a) hR (by omega) (by omega)
              refine i_212_142 hobj (Nat.le_of_ble_eq_true rfl) hrun ?_
              refine i_212_145 (x := 128) rfl ?_
              refine i_212_146 (x := Int32.ofInt b) rfl ?_
              have hobj := hR.c128
              obtain ⟨w, hrun, hR⟩ := s_exponent (d := d + 4) (r := b) hR (by omega) (by omega)
              refine i_212_147 hobj (Nat.le_of_ble_eq_true rfl) hrun ?_
              have hrun := s_min (d := d + 4) (w := w) (a := S 155 a.toNat - S 153 a.toNat) (b := S 155 b.toNat - S 153 b.toNat) ⟨by omega, by omega⟩ ⟨by omega, by omega⟩
              refine i_212_150 (Nat.le_of_ble_eq_true rfl) hrun ?_
              have hobj := hR.c128
              obtain ⟨w, S1, V1, hrun, hR, hS⟩ := t_open (d := d + 2) (e := min (S 155 a.toNat - S 153 a.toNat) (S 155 b.toNat - S 153 b.toNat)) hR nS.refl nV.refl
              refine i_212_153 hobj (Nat.le_of_ble_eq_true rfl) hrun ?_
              refine i_212_156 (x := 128) rfl ?_
              refine i_212_157 (v := Value.ref 154) hR.c128 rfl ?_
              refine i_212_160 (x := Int32.ofInt a) rfl ?_
              refine i_212_161 (v := Value.int (Int32.ofInt (S 154 ((a).toNat)))) (hR.row a154) (ix0 (T := a) (by omega) (by omega)) (ix1 (T := a) (by omega) (by omega) (by omega)) (ra (T := a) (by omega) (by omega) (hS.1.1 _ _ (by decide))) ?_
              refine i_212_162 ?_
              refine i_212_163 (b_ne (a := S 154 ((a).toNat)) (b := 3) ⟨by omega, by omega⟩ ⟨by decide, by decide⟩ fun c6 => absurd c6 (by omega)) (b_eq (a := S 154 ((a).toNat)) (b := 3) ⟨by omega, by omega⟩ ⟨by decide, by decide⟩ fun c6 => ?_)
              refine i_212_166 (x := 128) rfl ?_
              refine i_212_167 (x := 128) rfl ?_
              refine i_212_168 (v := Value.ref 157) hR.c128 rfl ?_
              refine i_212_171 (x := Int32.ofInt a) rfl ?_
              obtain ⟨gp, hgp, hgr⟩ := hR.part (j := (a).toNat) (by omega)
              refine i_212_172 (v := Value.ref (160 + 2 * a.toNat)) hgp (ix0 (by omega) (by omega)) (ix1 (by omega) (by omega) (by omega)) (by rw [ixn (by omega) (by omega)]; exact hgr) ?_
              refine i_212_173 (x := 128) rfl ?_
              refine i_212_174 (x := Int32.ofInt a) rfl ?_
              have hobj := hR.c128
              obtain ⟨w, hrun, hR⟩ := s_exponent (d := d + 4) (r := a) hR (by omega) (by omega)
              rw [hS.1.1 155 _ (by decide), hS.1.1 153 _ (by decide)] at hrun
              refine i_212_175 hobj (Nat.le_of_ble_eq_true rfl) hrun ?_
              refine i_212_178 (x := 128) rfl ?_
              refine i_212_179 (v := Value.ref 156) hR.c128 rfl ?_
              refine i_212_182 (x := Int32.ofInt a) rfl ?_
              refine i_212_183z (v := Value.int (Int32.ofInt (S 156 ((a).toNat)))) (hR.row a156) (ix0 (T := a) (by omega) (by omega)) (ix1 (T := a) (by omega) (by omega) (by omega)) (ra (T := a) (by omega) (by omega) (hS.1.1 _ _ (by decide))) ?_
              have hobj := hR.c128
              obtain ⟨w, S1, V1, hrun, hR, hS⟩ := t_addTo (d := d + 2) (h := 160 + 2 * a.toNat) (m := V (160 + 2 * a.toNat)) (e := S 155 a.toNat - S 153 a.toNat) (sg := S 156 ((a).toNat)) hR hS (iNp (r := a) (by omega) (by omega)) ((hS.2.1 _ (by omega))) (by omega) (by omega) (by omega) (by first | omega | decide | exact Nat.le_trans (pl_b (n := 70000) (by decide) (Nat.le_trans (xbl_powle _ _) (by omega))) (by decide) | exact Nat.le_trans (mi_b (n := 70000) (by decide) (Nat.le_trans (xbl_powle _ _) (by omega))) (by decide) | exact Nat.le_trans (pl_b (n := 70001) (pl_b (n := 70000) (by decide) (Nat.le_trans (xbl_powle _ _) (by omega))) (Nat.le_trans (xbl_powle _ _) (by omega))) (by decide) | exact Nat.le_trans (mi_b (n := 70001) (mi_b (n := 70000) (by decide) (Nat.le_trans (xbl_powle _ _) (by omega))) (Nat.le_trans (xbl_powle _ _) (by omega))) (by decide)) (by first | omega | decide | exact Nat.le_trans (pl_b (n := 70000) (by decide) (Nat.le_trans (xbl_powle _ _) (by omega))) (by decide) | exact Nat.le_trans (mi_b (n := 70000) (by decide) (Nat.le_trans (xbl_powle _ _) (by omega))) (by decide) | exact Nat.le_trans (pl_b (n := 70001) (pl_b (n := 70000) (by decide) (Nat.le_trans (xbl_powle _ _) (by omega))) (Nat.le_trans (xbl_powle _ _) (by omega))) (by decide) | exact Nat.le_trans (mi_b (n := 70001) (mi_b (n := 70000) (by decide) (Nat.le_trans (xbl_powle _ _) (by omega))) (Nat.le_trans (xbl_powle _ _) (by omega))) (by decide)) (by first | omega | decide | exact Nat.le_trans (pl_b (n := 70000) (by decide) (Nat.le_trans (xbl_powle _ _) (by omega))) (by decide) | exact Nat.le_trans (mi_b (n := 70000) (by decide) (Nat.le_trans (xbl_powle _ _) (by omega))) (by decide) | exact Nat.le_trans (pl_b (n := 70001) (pl_b (n := 70000) (by decide) (Nat.le_trans (xbl_powle _ _) (by omega))) (Nat.le_trans (xbl_powle _ _) (by omega))) (by decide) | exact Nat.le_trans (mi_b (n := 70001) (mi_b (n := 70000) (by decide) (Nat.le_trans (xbl_powle _ _) (by omega))) (Nat.le_trans (xbl_powle _ _) (by omega))) (by decide))
              refine i_212_184 hobj (Nat.le_of_ble_eq_true rfl) hrun ?_
              refine i_212_187 ?_
              refine i_212_200 (x := 128) rfl ?_
              refine i_212_201 (v := Value.ref 154) hR.c128 rfl ?_
              refine i_212_204 (x := Int32.ofInt b) rfl ?_
              refine i_212_205 (v := Value.int (Int32.ofInt (S 154 ((b).toNat)))) (hR.row a154) (ix0 (T := b) (by omega) (by omega)) (ix1 (T := b) (by omega) (by omega) (by omega)) (ra (T := b) (by omega) (by omega) (hS.1.1 _ _ (by decide))) ?_
              refine i_212_206 ?_
              refine i_212_207 (b_ne (a := S 154 ((b).toNat)) (b := 3) ⟨by omega, by omega⟩ ⟨by decide, by decide⟩ fun c7 => absurd c7 (by omega)) (b_eq (a := S 154 ((b).toNat)) (b := 3) ⟨by omega, by omega⟩ ⟨by decide, by decide⟩ fun c7 => ?_)
              refine i_212_210 (x := 128) rfl ?_
              refine i_212_211 (x := 128) rfl ?_
              refine i_212_212 (v := Value.ref 157) hR.c128 rfl ?_
              refine i_212_215 (x := Int32.ofInt b) rfl ?_
              obtain ⟨gp, hgp, hgr⟩ := hR.part (j := (b).toNat) (by omega)
              refine i_212_216 (v := Value.ref (160 + 2 * b.toNat)) hgp (ix0 (by omega) (by omega)) (ix1 (by omega) (by omega) (by omega)) (by rw [ixn (by omega) (by omega)]; exact hgr) ?_
              refine i_212_217 (x := 128) rfl ?_
              refine i_212_218 (x := Int32.ofInt b) rfl ?_
              have hobj := hR.c128
              obtain ⟨w, hrun, hR⟩ := s_exponent (d := d + 4) (r := b) hR (by omega) (by omega)
              rw [hS.1.1 155 _ (by decide), hS.1.1 153 _ (by decide)] at hrun
              refine i_212_219 hobj (Nat.le_of_ble_eq_true rfl) hrun ?_
              refine i_212_222 (x := 0) rfl ?_
              have hobj := hR.c128
              obtain ⟨w, S1, V1, hrun, hR, hS⟩ := t_addTo (d := d + 2) (h := 160 + 2 * b.toNat) (m := V (160 + 2 * b.toNat)) (e := S 155 b.toNat - S 153 b.toNat) (sg := 0) hR hS (iNp (r := b) (by omega) (by omega)) ((hS.2.1 _ (by omega))) (by omega) (by omega) (by omega) (by first | omega | decide | exact Nat.le_trans (pl_b (n := 70000) (by decide) (Nat.le_trans (xbl_powle _ _) (by omega))) (by decide) | exact Nat.le_trans (mi_b (n := 70000) (by decide) (Nat.le_trans (xbl_powle _ _) (by omega))) (by decide) | exact Nat.le_trans (pl_b (n := 70001) (pl_b (n := 70000) (by decide) (Nat.le_trans (xbl_powle _ _) (by omega))) (Nat.le_trans (xbl_powle _ _) (by omega))) (by decide) | exact Nat.le_trans (mi_b (n := 70001) (mi_b (n := 70000) (by decide) (Nat.le_trans (xbl_powle _ _) (by omega))) (Nat.le_trans (xbl_powle _ _) (by omega))) (by decide)) (by first | omega | decide | exact Nat.le_trans (pl_b (n := 70000) (by decide) (Nat.le_trans (xbl_powle _ _) (by omega))) (by decide) | exact Nat.le_trans (mi_b (n := 70000) (by decide) (Nat.le_trans (xbl_powle _ _) (by omega))) (by decide) | exact Nat.le_trans (pl_b (n := 70001) (pl_b (n := 70000) (by decide) (Nat.le_trans (xbl_powle _ _) (by omega))) (Nat.le_trans (xbl_powle _ _) (by omega))) (by decide) | exact Nat.le_trans (mi_b (n := 70001) (mi_b (n := 70000) (by decide) (Nat.le_trans (xbl_powle _ _) (by omega))) (Nat.le_trans (xbl_powle _ _) (by omega))) (by decide)) (by first | omega | decide | exact Nat.le_trans (pl_b (n := 70000) (by decide) (Nat.le_trans (xbl_powle _ _) (by omega))) (by decide) | exact Nat.le_trans (mi_b (n := 70000) (by decide) (Nat.le_trans (xbl_powle _ _) (by omega))) (by decide) | exact Nat.le_trans (pl_b (n := 70001) (pl_b (n := 70000) (by decide) (Nat.le_trans (xbl_powle _ _) (by omega))) (Nat.le_trans (xbl_powle _ _) (by omega))) (by decide) | exact Nat.le_trans (mi_b (n := 70001) (mi_b (n := 70000) (by decide) (Nat.le_trans (xbl_powle _ _) (by omega))) (Nat.le_trans (xbl_powle _ _) (by omega))) (by decide))
              refine i_212_224 hobj (Nat.le_of_ble_eq_true rfl) hrun ?_
              refine i_212_227 ?_
              refine i_212_236 (x := 128) rfl ?_
              refine i_212_237 (x := Int32.ofInt r) rfl ?_
              refine i_212_238 (x := Int32.ofInt mode) rfl ?_
              have hobj := hR.c128
              obtain ⟨w, hrun, S2, V2, hR, hP⟩ := t_close (d := d) (r := r) (mode := mode) hR hS hI (by omega) (by omega) (by refine ⟨?_, ?_, ?_⟩ <;> (repeat' split) <;> simp) (by first | omega | decide | exact Nat.le_trans (pl_b (n := 70000) (by decide) (Nat.le_trans (xbl_powle _ _) (by omega))) (by decide) | exact Nat.le_trans (mi_b (n := 70000) (by decide) (Nat.le_trans (xbl_powle _ _) (by omega))) (by decide) | exact Nat.le_trans (pl_b (n := 70001) (pl_b (n := 70000) (by decide) (Nat.le_trans (xbl_powle _ _) (by omega))) (Nat.le_trans (xbl_powle _ _) (by omega))) (by decide) | exact Nat.le_trans (mi_b (n := 70001) (mi_b (n := 70000) (by decide) (Nat.le_trans (xbl_powle _ _) (by omega))) (Nat.le_trans (xbl_powle _ _) (by omega))) (by decide)) (by first | omega | decide | exact Nat.le_trans (pl_b (n := 70000) (by decide) (Nat.le_trans (xbl_powle _ _) (by omega))) (by decide) | exact Nat.le_trans (mi_b (n := 70000) (by decide) (Nat.le_trans (xbl_powle _ _) (by omega))) (by decide) | exact Nat.le_trans (pl_b (n := 70001) (pl_b (n := 70000) (by decide) (Nat.le_trans (xbl_powle _ _) (by omega))) (Nat.le_trans (xbl_powle _ _) (by omega))) (by decide) | exact Nat.le_trans (mi_b (n := 70001) (mi_b (n := 70000) (by decide) (Nat.le_trans (xbl_powle _ _) (by omega))) (Nat.le_trans (xbl_powle _ _) (by omega))) (by decide)) (by intro _; omega)
              refine i_212_240 hobj (Nat.le_of_ble_eq_true rfl) hrun ?_
              refine i_212_243 ?_
              have eo : sAdd S V r.toNat a.toNat b.toNat tu mode = sumS (S 153 r.toNat) (S 128 17) (S 128 18) (S 128 20) (S 128 19) mode ((0 + if S 156 ((a).toNat) = 0 then (V (160 + 2 * a.toNat)) * 2 ^ ((S 155 a.toNat - S 153 a.toNat) - (min (S 155 a.toNat - S 153 a.toNat) (S 155 b.toNat - S 153 b.toNat))).toNat else 0) + if 0 = 0 then (V (160 + 2 * b.toNat)) * 2 ^ ((S 155 b.toNat - S 153 b.toNat) - (min (S 155 a.toNat - S 153 a.toNat) (S 155 b.toNat - S 153 b.toNat))).toNat else 0) ((0 + if S 156 ((a).toNat) = 0 then 0 else (V (160 + 2 * a.toNat)) * 2 ^ ((S 155 a.toNat - S 153 a.toNat) - (min (S 155 a.toNat - S 153 a.toNat) (S 155 b.toNat - S 153 b.toNat))).toNat) + if 0 = 0 then 0 else (V (160 + 2 * b.toNat)) * 2 ^ ((S 155 b.toNat - S 153 b.toNat) - (min (S 155 a.toNat - S 153 a.toNat) (S 155 b.toNat - S 153 b.toNat))).toNat) (min (S 155 a.toNat - S 153 a.toNat) (S 155 b.toNat - S 153 b.toNat)) 0 0 0 := by clear hR hrun hP; first | (simp [sAdd, *]; done) | grind [sAdd, sum2, base2, cP, cN, zP, zN, ex, xorI]
              rw [eo]
              exact ⟨rfl, _, _, hR, hP⟩
            · refine i_212_132 (x := 128) rfl ?_
              refine i_212_133 (x := Int32.ofInt a) rfl ?_
              have hobj := hR.c128
              obtain ⟨w, hrun, hR⟩ := s_exponent (d := d + 4) (r := a) hR (by omega) (by omega)
              refine i_212_134 hobj (Nat.le_of_ble_eq_true rfl) hrun ?_
              refine i_212_137 ?_
              have hobj := hR.c128
              obtain ⟨w, S1, V1, hrun, hR, hS⟩ := t_open (d := d + 2) (e := S 155 a.toNat - S 153 a.toNat) hR nS.refl nV.refl
              refine i_212_153 hobj (Nat.le_of_ble_eq_true rfl) hrun ?_
              refine i_212_156 (x := 128) rfl ?_
              refine i_212_157 (v := Value.ref 154) hR.c128 rfl ?_
              refine i_212_160 (x := Int32.ofInt a) rfl ?_
              refine i_212_161 (v := Value.int (Int32.ofInt (S 154 ((a).toNat)))) (hR.row a154) (ix0 (T := a) (by omega) (by omega)) (ix1 (T := a) (by omega) (by omega) (by omega)) (ra (T := a) (by omega) (by omega) (hS.1.1 _ _ (by decide))) ?_
              refine i_212_162 ?_
              refine i_212_163 (b_ne (a := S 154 ((a).toNat)) (b := 3) ⟨by omega, by omega⟩ ⟨by decide, by decide⟩ fun c8 => absurd c8 (by omega)) (b_eq (a := S 154 ((a).toNat)) (b := 3) ⟨by omega, by omega⟩ ⟨by decide, by decide⟩ fun c8 => ?_)
              refine i_212_166 (x := 128) rfl ?_
              refine i_212_167 (x := 128) rfl ?_
              refine i_212_168 (v := Value.ref 157) hR.c128 rfl ?_
              refine i_212_171 (x := Int32.ofInt a) rfl ?_
              obtain ⟨gp, hgp, hgr⟩ := hR.part (j := (a).toNat) (by omega)
              refine i_212_172 (v := Value.ref (160 + 2 * a.toNat)) hgp (ix0 (by omega) (by omega)) (ix1 (by omega) (by omega) (by omega)) (by rw [ixn (by omega) (by omega)]; exact hgr) ?_
              refine i_212_173 (x := 128) rfl ?_
              refine i_212_174 (x := Int32.ofInt a) rfl ?_
              have hobj := hR.c128
              obtain ⟨w, hrun, hR⟩ := s_exponent (d := d + 4) (r := a) hR (by omega) (by omega)
              rw [hS.1.1 155 _ (by decide), hS.1.1 153 _ (by decide)] at hrun
              refine i_212_175 hobj (Nat.le_of_ble_eq_true rfl) hrun ?_
              refine i_212_178 (x := 128) rfl ?_
              refine i_212_179 (v := Value.ref 156) hR.c128 rfl ?_
              refine i_212_182 (x := Int32.ofInt a) rfl ?_
              refine i_212_183z (v := Value.int (Int32.ofInt (S 156 ((a).toNat)))) (hR.row a156) (ix0 (T := a) (by omega) (by omega)) (ix1 (T := a) (by omega) (by omega) (by omega)) (ra (T := a) (by omega) (by omega) (hS.1.1 _ _ (by decide))) ?_
              have hobj := hR.c128
              obtain ⟨w, S1, V1, hrun, hR, hS⟩ := t_addTo (d := d + 2) (h := 160 + 2 * a.toNat) (m := V (160 + 2 * a.toNat)) (e := S 155 a.toNat - S 153 a.toNat) (sg := S 156 ((a).toNat)) hR hS (iNp (r := a) (by omega) (by omega)) ((hS.2.1 _ (by omega))) (by omega) (by omega) (by omega) (by first | omega | decide | exact Nat.le_trans (pl_b (n := 70000) (by decide) (Nat.le_trans (xbl_powle _ _) (by omega))) (by decide) | exact Nat.le_trans (mi_b (n := 70000) (by decide) (Nat.le_trans (xbl_powle _ _) (by omega))) (by decide) | exact Nat.le_trans (pl_b (n := 70001) (pl_b (n := 70000) (by decide) (Nat.le_trans (xbl_powle _ _) (by omega))) (Nat.le_trans (xbl_powle _ _) (by omega))) (by decide) | exact Nat.le_trans (mi_b (n := 70001) (mi_b (n := 70000) (by decide) (Nat.le_trans (xbl_powle _ _) (by omega))) (Nat.le_trans (xbl_powle _ _) (by omega))) (by decide)) (by first | omega | decide | exact Nat.le_trans (pl_b (n := 70000) (by decide) (Nat.le_trans (xbl_powle _ _) (by omega))) (by decide) | exact Nat.le_trans (mi_b (n := 70000) (by decide) (Nat.le_trans (xbl_powle _ _) (by omega))) (by decide) | exact Nat.le_trans (pl_b (n := 70001) (pl_b (n := 70000) (by decide) (Nat.le_trans (xbl_powle _ _) (by omega))) (Nat.le_trans (xbl_powle _ _) (by omega))) (by decide) | exact Nat.le_trans (mi_b (n := 70001) (mi_b (n := 70000) (by decide) (Nat.le_trans (xbl_powle _ _) (by omega))) (Nat.le_trans (xbl_powle _ _) (by omega))) (by decide)) (by first | omega | decide | exact Nat.le_trans (pl_b (n := 70000) (by decide) (Nat.le_trans (xbl_powle _ _) (by omega))) (by decide) | exact Nat.le_trans (mi_b (n := 70000) (by decide) (Nat.le_trans (xbl_powle _ _) (by omega))) (by decide) | exact Nat.le_trans (pl_b (n := 70001) (pl_b (n := 70000) (by decide) (Nat.le_trans (xbl_powle _ _) (by omega))) (Nat.le_trans (xbl_powle _ _) (by omega))) (by decide) | exact Nat.le_trans (mi_b (n := 70001) (mi_b (n := 70000) (by decide) (Nat.le_trans (xbl_powle _ _) (by omega))) (Nat.le_trans (xbl_powle _ _) (by omega))) (by decide))
              refine i_212_184 hobj (Nat.le_of_ble_eq_true rfl) hrun ?_
              refine i_212_187 ?_
              refine i_212_200 (x := 128) rfl ?_
              refine i_212_201 (v := Value.ref 154) hR.c128 rfl ?_
              refine i_212_204 (x := Int32.ofInt b) rfl ?_
              refine i_212_205 (v := Value.int (Int32.ofInt (S 154 ((b).toNat)))) (hR.row a154) (ix0 (T := b) (by omega) (by omega)) (ix1 (T := b) (by omega) (by omega) (by omega)) (ra (T := b) (by omega) (by omega) (hS.1.1 _ _ (by decide))) ?_
              refine i_212_206 ?_
              refine i_212_207 (b_ne (a := S 154 ((b).toNat)) (b := 3) ⟨by omega, by omega⟩ ⟨by decide, by decide⟩ fun c9 => ?_) (b_eq (a := S 154 ((b).toNat)) (b := 3) ⟨by omega, by omega⟩ ⟨by decide, by decide⟩ fun c9 => absurd c9 (by omega))
              refine i_212_230 (x := 128) rfl ?_
              refine i_212_231 (x := 0) rfl ?_
              have hobj := hR.c128
              obtain ⟨w, S1, V1, hrun, hR, hS⟩ := t_addZero (d := d + 4) (sg := 0) hR hS (by omega)
              refine i_212_233 hobj (Nat.le_of_ble_eq_true rfl) hrun ?_
              refine i_212_236 (x := 128) rfl ?_
              refine i_212_237 (x := Int32.ofInt r) rfl ?_
              refine i_212_238 (x := Int32.ofInt mode) rfl ?_
              have hobj := hR.c128
              obtain ⟨w, hrun, S2, V2, hR, hP⟩ := t_close (d := d) (r := r) (mode := mode) hR hS hI (by omega) (by omega) (by refine ⟨?_, ?_, ?_⟩ <;> (repeat' split) <;> simp) (by first | omega | decide | exact Nat.le_trans (pl_b (n := 70000) (by decide) (Nat.le_trans (xbl_powle _ _) (by omega))) (by decide) | exact Nat.le_trans (mi_b (n := 70000) (by decide) (Nat.le_trans (xbl_powle _ _) (by omega))) (by decide) | exact Nat.le_trans (pl_b (n := 70001) (pl_b (n := 70000) (by decide) (Nat.le_trans (xbl_powle _ _) (by omega))) (Nat.le_trans (xbl_powle _ _) (by omega))) (by decide) | exact Nat.le_trans (mi_b (n := 70001) (mi_b (n := 70000) (by decide) (Nat.le_trans (xbl_powle _ _) (by omega))) (Nat.le_trans (xbl_powle _ _) (by omega))) (by decide)) (by first | omega | decide | exact Nat.le_trans (pl_b (n := 70000) (by decide) (Nat.le_trans (xbl_powle _ _) (by omega))) (by decide) | exact Nat.le_trans (mi_b (n := 70000) (by decide) (Nat.le_trans (xbl_powle _ _) (by omega))) (by decide) | exact Nat.le_trans (pl_b (n := 70001) (pl_b (n := 70000) (by decide) (Nat.le_trans (xbl_powle _ _) (by omega))) (Nat.le_trans (xbl_powle _ _) (by omega))) (by decide) | exact Nat.le_trans (mi_b (n := 70001) (mi_b (n := 70000) (by decide) (Nat.le_trans (xbl_powle _ _) (by omega))) (Nat.le_trans (xbl_powle _ _) (by omega))) (by decide)) (by intro _; omega)
              refine i_212_240 hobj (Nat.le_of_ble_eq_true rfl) hrun ?_
              refine i_212_243 ?_
              have eo : sAdd S V r.toNat a.toNat b.toNat tu mode = sumS (S 153 r.toNat) (S 128 17) (S 128 18) (S 128 20) (S 128 19) mode (0 + if S 156 ((a).toNat) = 0 then (V (160 + 2 * a.toNat)) * 2 ^ ((S 155 a.toNat - S 153 a.toNat) - (S 155 a.toNat - S 153 a.toNat)).toNat else 0) (0 + if S 156 ((a).toNat) = 0 then 0 else (V (160 + 2 * a.toNat)) * 2 ^ ((S 155 a.toNat - S 153 a.toNat) - (S 155 a.toNat - S 153 a.toNat)).toNat) (S 155 a.toNat - S 153 a.toNat) 0 (if 0 = 0 then 1 else 0) (if 0 = 0 then 0 else 1) := by clear hR hrun hP; first | (simp [sAdd, *]; done) | grind [sAdd, sum2, base2, cP, cN, zP, zN, ex, xorI]
              rw [eo]
              exact ⟨rfl, _, _, hR, hP⟩
          · refine i_212_114 (x := 128) rfl ?_
            refine i_212_115 (x := Int32.ofInt b) rfl ?_
            have hobj := hR.c128
            obtain ⟨w, hrun, hR⟩ := s_exponent (d := d + 4) (r := b) hR (by omega) (by omega)
            refine i_212_116 hobj (Nat.le_of_ble_eq_true rfl) hrun ?_
            refine i_212_119 ?_
            have hobj := hR.c128
            obtain ⟨w, S1, V1, hrun, hR, hS⟩ := t_open (d := d + 2) (e := S 155 b.toNat - S 153 b.toNat) hR nS.refl nV.refl
            refine i_212_153 hobj (Nat.le_of_ble_eq_true rfl) hrun ?_
            refine i_212_156 (x := 128) rfl ?_
            refine i_212_157 (v := Value.ref 154) hR.c128 rfl ?_
            refine i_212_160 (x := Int32.ofInt a) rfl ?_
            refine i_212_161 (v := Value.int (Int32.ofInt (S 154 ((a).toNat)))) (hR.row a154) (ix0 (T := a) (by omega) (by omega)) (ix1 (T := a) (by omega) (by omega) (by omega)) (ra (T := a) (by omega) (by omega) (hS.1.1 _ _ (by decide))) ?_
            refine i_212_162 ?_
            refine i_212_163 (b_ne (a := S 154 ((a).toNat)) (b := 3) ⟨by omega, by omega⟩ ⟨by decide, by decide⟩ fun c10 => ?_) (b_eq (a := S 154 ((a).toNat)) (b := 3) ⟨by omega, by omega⟩ ⟨by decide, by decide⟩ fun c10 => absurd c10 (by omega))
            refine i_212_190 (x := 128) rfl ?_
            refine i_212_191 (x := 128) rfl ?_
            refine i_212_192 (v := Value.ref 156) hR.c128 rfl ?_
            refine i_212_195 (x := Int32.ofInt a) rfl ?_
            refine i_212_196z (v := Value.int (Int32.ofInt (S 156 ((a).toNat)))) (hR.row a156) (ix0 (T := a) (by omega) (by omega)) (ix1 (T := a) (by omega) (by omega) (by omega)) (ra (T := a) (by omega) (by omega) (hS.1.1 _ _ (by decide))) ?_
            have hobj := hR.c128
            obtain ⟨w, S1, V1, hrun, hR, hS⟩ := t_addZero (d := d + 4) (sg := S 156 ((a).toNat)) hR hS (by omega)
            refine i_212_197 hobj (Nat.le_of_ble_eq_true rfl) hrun ?_
            refine i_212_200 (x := 128) rfl ?_
            refine i_212_201 (v := Value.ref 154) hR.c128 rfl ?_
            refine i_212_204 (x := Int32.ofInt b) rfl ?_
            refine i_212_205 (v := Value.int (Int32.ofInt (S 154 ((b).toNat)))) (hR.row a154) (ix0 (T := b) (by omega) (by omega)) (ix1 (T := b) (by omega) (by omega) (by omega)) (ra (T := b) (by omega) (by omega) (hS.1.1 _ _ (by decide))) ?_
            refine i_212_206 ?_
            refine i_212_207 (b_ne (a := S 154 ((b).toNat)) (b := 3) ⟨by omega, by omega⟩ ⟨by decide, by decide⟩ fun c11 => ?_) (b_eq (a := S 154 ((b).toNat)) (b := 3) ⟨by omega, by omega⟩ ⟨by decide, by decide⟩ fun c11 => ?_)
            · refine i_212_230 (x := 128) rfl ?_
              refine i_212_231 (x := 0) rfl ?_
              have hobj := hR.c128
              obtain ⟨w, S1, V1, hrun, hR, hS⟩ := t_addZero (d := d + 4) (sg := 0) hR hS (by omega)
              refine i_212_233 hobj (Nat.le_of_ble_eq_true rfl) hrun ?_
              refine i_212_236 (x := 128) rfl ?_
              refine i_212_237 (x := Int32.ofInt r) rfl ?_
              refine i_212_238 (x := Int32.ofInt mode) rfl ?_
              have hobj := hR.c128
              obtain ⟨w, hrun, S2, V2, hR, hP⟩ := t_close (d := d) (r := r) (mode := mode) hR hS hI (by omega) (by omega) (by refine ⟨?_, ?_, ?_⟩ <;> (repeat' split) <;> simp) (by first | omega | decide | exact Nat.le_trans (pl_b (n := 70000) (by decide) (Nat.le_trans (xbl_powle _ _) (by omega))) (by decide) | exact Nat.le_trans (mi_b (n := 70000) (by decide) (Nat.le_trans (xbl_powle _ _) (by omega))) (by decide) | exact Nat.le_trans (pl_b (n := 70001) (pl_b (n := 70000) (by decide) (Nat.le_trans (xbl_powle _ _) (by omega))) (Nat.le_trans (xbl_powle _ _) (by omega))) (by decide) | exact Nat.le_trans (mi_b (n := 70001) (mi_b (n := 70000) (by decide) (Nat.le_trans (xbl_powle _ _) (by omega))) (Nat.le_trans (xbl_powle _ _) (by omega))) (by decide)) (by first | omega | decide | exact Nat.le_trans (pl_b (n := 70000) (by decide) (Nat.le_trans (xbl_powle _ _) (by omega))) (by decide) | exact Nat.le_trans (mi_b (n := 70000) (by decide) (Nat.le_trans (xbl_powle _ _) (by omega))) (by decide) | exact Nat.le_trans (pl_b (n := 70001) (pl_b (n := 70000) (by decide) (Nat.le_trans (xbl_powle _ _) (by omega))) (Nat.le_trans (xbl_powle _ _) (by omega))) (by decide) | exact Nat.le_trans (mi_b (n := 70001) (mi_b (n := 70000) (by decide) (Nat.le_trans (xbl_powle _ _) (by omega))) (Nat.le_trans (xbl_powle _ _) (by omega))) (by decide)) (by intro _; omega)
              refine i_212_240 hobj (Nat.le_of_ble_eq_true rfl) hrun ?_
              refine i_212_243 ?_
              have eo : sAdd S V r.toNat a.toNat b.toNat tu mode = sumS (S 153 r.toNat) (S 128 17) (S 128 18) (S 128 20) (S 128 19) mode 0 0 (S 155 b.toNat - S 153 b.toNat) 1 (if 0 = 0 then 1 else if S 156 ((a).toNat) = 0 then 1 else 0) (if 0 = 0 then if S 156 ((a).toNat) = 0 then 0 else 1 else 1) := by clear hR hrun hP; first | (simp [sAdd, *]; done) | grind [sAdd, sum2, base2, cP, cN, zP, zN, ex, xorI]
              rw [eo]
              exact ⟨rfl, _, _, hR, hP⟩
            · refine i_212_210 (x := 128) rfl ?_
              refine i_212_211 (x := 128) rfl ?_
              refine i_212_212 (v := Value.ref 157) hR.c128 rfl ?_
              refine i_212_215 (x := Int32.ofInt b) rfl ?_
              obtain ⟨gp, hgp, hgr⟩ := hR.part (j := (b).toNat) (by omega)
              refine i_212_216 (v := Value.ref (160 + 2 * b.toNat)) hgp (ix0 (by omega) (by omega)) (ix1 (by omega) (by omega) (by omega)) (by rw [ixn (by omega) (by omega)]; exact hgr) ?_
              refine i_212_217 (x := 128) rfl ?_
              refine i_212_218 (x := Int32.ofInt b) rfl ?_
              have hobj := hR.c128
              obtain ⟨w, hrun, hR⟩ := s_exponent (d := d + 4) (r := b) hR (by omega) (by omega)
              rw [hS.1.1 155 _ (by decide), hS.1.1 153 _ (by decide)] at hrun
              refine i_212_219 hobj (Nat.le_of_ble_eq_true rfl) hrun ?_
              refine i_212_222 (x := 0) rfl ?_
              have hobj := hR.c128
              obtain ⟨w, S1, V1, hrun, hR, hS⟩ := t_addTo (d := d + 2) (h := 160 + 2 * b.toNat) (m := V (160 + 2 * b.toNat)) (e := S 155 b.toNat - S 153 b.toNat) (sg := 0) hR hS (iNp (r := b) (by omega) (by omega)) ((hS.2.1 _ (by omega))) (by omega) (by omega) (by omega) (by first | omega | decide | exact Nat.le_trans (pl_b (n := 70000) (by decide) (Nat.le_trans (xbl_powle _ _) (by omega))) (by decide) | exact Nat.le_trans (mi_b (n := 70000) (by decide) (Nat.le_trans (xbl_powle _ _) (by omega))) (by decide) | exact Nat.le_trans (pl_b (n := 70001) (pl_b (n := 70000) (by decide) (Nat.le_trans (xbl_powle _ _) (by omega))) (Nat.le_trans (xbl_powle _ _) (by omega))) (by decide) | exact Nat.le_trans (mi_b (n := 70001) (mi_b (n := 70000) (by decide) (Nat.le_trans (xbl_powle _ _) (by omega))) (Nat.le_trans (xbl_powle _ _) (by omega))) (by decide)) (by first | omega | decide | exact Nat.le_trans (pl_b (n := 70000) (by decide) (Nat.le_trans (xbl_powle _ _) (by omega))) (by decide) | exact Nat.le_trans (mi_b (n := 70000) (by decide) (Nat.le_trans (xbl_powle _ _) (by omega))) (by decide) | exact Nat.le_trans (pl_b (n := 70001) (pl_b (n := 70000) (by decide) (Nat.le_trans (xbl_powle _ _) (by omega))) (Nat.le_trans (xbl_powle _ _) (by omega))) (by decide) | exact Nat.le_trans (mi_b (n := 70001) (mi_b (n := 70000) (by decide) (Nat.le_trans (xbl_powle _ _) (by omega))) (Nat.le_trans (xbl_powle _ _) (by omega))) (by decide)) (by first | omega | decide | exact Nat.le_trans (pl_b (n := 70000) (by decide) (Nat.le_trans (xbl_powle _ _) (by omega))) (by decide) | exact Nat.le_trans (mi_b (n := 70000) (by decide) (Nat.le_trans (xbl_powle _ _) (by omega))) (by decide) | exact Nat.le_trans (pl_b (n := 70001) (pl_b (n := 70000) (by decide) (Nat.le_trans (xbl_powle _ _) (by omega))) (Nat.le_trans (xbl_powle _ _) (by omega))) (by decide) | exact Nat.le_trans (mi_b (n := 70001) (mi_b (n := 70000) (by decide) (Nat.le_trans (xbl_powle _ _) (by omega))) (Nat.le_trans (xbl_powle _ _) (by omega))) (by decide))
              refine i_212_224 hobj (Nat.le_of_ble_eq_true rfl) hrun ?_
              refine i_212_227 ?_
              refine i_212_236 (x := 128) rfl ?_
              refine i_212_237 (x := Int32.ofInt r) rfl ?_
              refine i_212_238 (x := Int32.ofInt mode) rfl ?_
              have hobj := hR.c128
              obtain ⟨w, hrun, S2, V2, hR, hP⟩ := t_close (d := d) (r := r) (mode := mode) hR hS hI (by omega) (by omega) (by refine ⟨?_, ?_, ?_⟩ <;> (repeat' split) <;> simp) (by first | omega | decide | exact Nat.le_trans (pl_b (n := 70000) (by decide) (Nat.le_trans (xbl_powle _ _) (by omega))) (by decide) | exact Nat.le_trans (mi_b (n := 70000) (by decide) (Nat.le_trans (xbl_powle _ _) (by omega))) (by decide) | exact Nat.le_trans (pl_b (n := 70001) (pl_b (n := 70000) (by decide) (Nat.le_trans (xbl_powle _ _) (by omega))) (Nat.le_trans (xbl_powle _ _) (by omega))) (by decide) | exact Nat.le_trans (mi_b (n := 70001) (mi_b (n := 70000) (by decide) (Nat.le_trans (xbl_powle _ _) (by omega))) (Nat.le_trans (xbl_powle _ _) (by omega))) (by decide)) (by first | omega | decide | exact Nat.le_trans (pl_b (n := 70000) (by decide) (Nat.le_trans (xbl_powle _ _) (by omega))) (by decide) | exact Nat.le_trans (mi_b (n := 70000) (by decide) (Nat.le_trans (xbl_powle _ _) (by omega))) (by decide) | exact Nat.le_trans (pl_b (n := 70001) (pl_b (n := 70000) (by decide) (Nat.le_trans (xbl_powle _ _) (by omega))) (Nat.le_trans (xbl_powle _ _) (by omega))) (by decide) | exact Nat.le_trans (mi_b (n := 70001) (mi_b (n := 70000) (by decide) (Nat.le_trans (xbl_powle _ _) (by omega))) (Nat.le_trans (xbl_powle _ _) (by omega))) (by decide)) (by intro _; omega)
              refine i_212_240 hobj (Nat.le_of_ble_eq_true rfl) hrun ?_
              refine i_212_243 ?_
              have eo : sAdd S V r.toNat a.toNat b.toNat tu mode = sumS (S 153 r.toNat) (S 128 17) (S 128 18) (S 128 20) (S 128 19) mode (0 + if 0 = 0 then (V (160 + 2 * b.toNat)) * 2 ^ ((S 155 b.toNat - S 153 b.toNat) - (S 155 b.toNat - S 153 b.toNat)).toNat else 0) (0 + if 0 = 0 then 0 else (V (160 + 2 * b.toNat)) * 2 ^ ((S 155 b.toNat - S 153 b.toNat) - (S 155 b.toNat - S 153 b.toNat)).toNat) (S 155 b.toNat - S 153 b.toNat) 0 (if S 156 ((a).toNat) = 0 then 1 else 0) (if S 156 ((a).toNat) = 0 then 0 else 1) := by clear hR hrun hP; first | (simp [sAdd, *]; done) | grind [sAdd, sum2, base2, cP, cN, zP, zN, ex, xorI]
              rw [eo]
              exact ⟨rfl, _, _, hR, hP⟩
        · refine i_212_75 (x := 128) rfl ?_
          refine i_212_76 (x := Int32.ofInt r) rfl ?_
          refine i_212_77 ?_
          refine i_212_78 (x := 128) rfl ?_
          refine i_212_79 (v := Value.ref 154) hR.c128 rfl ?_
          refine i_212_82 (x := Int32.ofInt a) rfl ?_
          refine i_212_83 (v := Value.int (Int32.ofInt (S 154 ((a).toNat)))) (hR.row a154) (ix0 (T := a) (by omega) (by omega)) (ix1 (T := a) (by omega) (by omega) (by omega)) (ra (T := a) (by omega) (by omega) rfl) ?_
          refine i_212_84 ?_
          refine i_212_85 (b_ne (a := S 154 ((a).toNat)) (b := 1) ⟨by omega, by omega⟩ ⟨by decide, by decide⟩ fun c12 => ?_) (b_eq (a := S 154 ((a).toNat)) (b := 1) ⟨by omega, by omega⟩ ⟨by decide, by decide⟩ fun c12 => absurd c12 (by omega))
          refine i_212_97 (x := 0) rfl ?_
          have hobj := hR.c128
          obtain ⟨w, hrun, hR⟩ := s_special (d := d + 4) (r := r) (k := 1) (s := 0) hR (by omega) (by omega) (by omega)
          refine i_212_99 hobj (Nat.le_of_ble_eq_true rfl) hrun ?_
          refine i_212_102 ?_
          have eo : sAdd S V r.toNat a.toNat b.toNat tu mode = oS 1 0 (S 128 19) := by clear hR hrun; first | (simp [sAdd, *]; done) | grind [sAdd, sum2, base2, cP, cN, zP, zN, ex, xorI]
          rw [eo]
          exact ⟨rfl, _, _, hR, oP_special (by omega) (by decide) nS.refl nV.refl rfl⟩
      · refine i_212_28 (x := 128) rfl ?_
        refine i_212_29 (v := Value.ref 154) hR.c128 rfl ?_
        refine i_212_32 (x := Int32.ofInt b) rfl ?_
        refine i_212_33 (v := Value.int (Int32.ofInt (S 154 ((b).toNat)))) (hR.row a154) (ix0 (T := b) (by omega) (by omega)) (ix1 (T := b) (by omega) (by omega) (by omega)) (ra (T := b) (by omega) (by omega) rfl) ?_
        refine i_212_34 ?_
        refine i_212_35 (b_ne (a := S 154 ((b).toNat)) (b := 1) ⟨by omega, by omega⟩ ⟨by decide, by decide⟩ fun c13 => ?_) (b_eq (a := S 154 ((b).toNat)) (b := 1) ⟨by omega, by omega⟩ ⟨by decide, by decide⟩ fun c13 => ?_)
        · refine i_212_55 (x := 128) rfl ?_
          refine i_212_56 (v := Value.ref 154) hR.c128 rfl ?_
          refine i_212_59 (x := Int32.ofInt a) rfl ?_
          refine i_212_60 (v := Value.int (Int32.ofInt (S 154 ((a).toNat)))) (hR.row a154) (ix0 (T := a) (by omega) (by omega)) (ix1 (T := a) (by omega) (by omega) (by omega)) (ra (T := a) (by omega) (by omega) rfl) ?_
          refine i_212_61 ?_
          refine i_212_62 (b_eq (a := S 154 ((a).toNat)) (b := 1) ⟨by omega, by omega⟩ ⟨by decide, by decide⟩ fun c14 => ?_) (b_ne (a := S 154 ((a).toNat)) (b := 1) ⟨by omega, by omega⟩ ⟨by decide, by decide⟩ fun c14 => absurd c14 (by omega))
          refine i_212_75 (x := 128) rfl ?_
          refine i_212_76 (x := Int32.ofInt r) rfl ?_
          refine i_212_77 ?_
          refine i_212_78 (x := 128) rfl ?_
          refine i_212_79 (v := Value.ref 154) hR.c128 rfl ?_
          refine i_212_82 (x := Int32.ofInt a) rfl ?_
          refine i_212_83 (v := Value.int (Int32.ofInt (S 154 ((a).toNat)))) (hR.row a154) (ix0 (T := a) (by omega) (by omega)) (ix1 (T := a) (by omega) (by omega) (by omega)) (ra (T := a) (by omega) (by omega) rfl) ?_
          refine i_212_84 ?_
          refine i_212_85 (b_ne (a := S 154 ((a).toNat)) (b := 1) ⟨by omega, by omega⟩ ⟨by decide, by decide⟩ fun c15 => absurd c15 (by omega)) (b_eq (a := S 154 ((a).toNat)) (b := 1) ⟨by omega, by omega⟩ ⟨by decide, by decide⟩ fun c15 => ?_)
          refine i_212_88 (x := 128) rfl ?_
          refine i_212_89 (v := Value.ref 156) hR.c128 rfl ?_
          refine i_212_92 (x := Int32.ofInt a) rfl ?_
          refine i_212_93z (v := Value.int (Int32.ofInt (S 156 ((a).toNat)))) (hR.row a156) (ix0 (T := a) (by omega) (by omega)) (ix1 (T := a) (by omega) (by omega) (by omega)) (ra (T := a) (by omega) (by omega) rfl) ?_
          refine i_212_94 ?_
          have hobj := hR.c128
          obtain ⟨w, hrun, hR⟩ := s_special (d := d + 4) (r := r) (k := 1) (s := S 156 ((a).toNat)) hR (by omega) (by omega) (by omega)
          refine i_212_99 hobj (Nat.le_of_ble_eq_true rfl) hrun ?_
          refine i_212_102 ?_
          have eo : sAdd S V r.toNat a.toNat b.toNat tu mode = oS 1 (S 156 ((a).toNat)) (S 128 19) := by clear hR hrun; first | (simp [sAdd, *]; done) | grind [sAdd, sum2, base2, cP, cN, zP, zN, ex, xorI]
          rw [eo]
          exact ⟨rfl, _, _, hR, oP_special (by omega) (by decide) nS.refl nV.refl rfl⟩
        · refine i_212_38 (x := 128) rfl ?_
          refine i_212_39 (v := Value.ref 156) hR.c128 rfl ?_
          refine i_212_42 (x := Int32.ofInt a) rfl ?_
          refine i_212_43z (v := Value.int (Int32.ofInt (S 156 ((a).toNat)))) (hR.row a156) (ix0 (T := a) (by omega) (by omega)) (ix1 (T := a) (by omega) (by omega) (by omega)) (ra (T := a) (by omega) (by omega) rfl) ?_
          refine i_212_44 (x := 0) rfl ?_
          refine i_212_46 (b_eq (a := S 156 ((a).toNat)) (b := 0) ⟨by omega, by omega⟩ ⟨by decide, by decide⟩ fun c16 => ?_) (b_ne (a := S 156 ((a).toNat)) (b := 0) ⟨by omega, by omega⟩ ⟨by decide, by decide⟩ fun c16 => ?_)
          · refine i_212_55 (x := 128) rfl ?_
            refine i_212_56 (v := Value.ref 154) hR.c128 rfl ?_
            refine i_212_59 (x := Int32.ofInt a) rfl ?_
            refine i_212_60 (v := Value.int (Int32.ofInt (S 154 ((a).toNat)))) (hR.row a154) (ix0 (T := a) (by omega) (by omega)) (ix1 (T := a) (by omega) (by omega) (by omega)) (ra (T := a) (by omega) (by omega) rfl) ?_
            refine i_212_61 ?_
            refine i_212_62 (b_eq (a := S 154 ((a).toNat)) (b := 1) ⟨by omega, by omega⟩ ⟨by decide, by decide⟩ fun c17 => ?_) (b_ne (a := S 154 ((a).toNat)) (b := 1) ⟨by omega, by omega⟩ ⟨by decide, by decide⟩ fun c17 => absurd c17 (by omega))
            refine i_212_75 (x := 128) rfl ?_
            refine i_212_76 (x := Int32.ofInt r) rfl ?_
            refine i_212_77 ?_
            refine i_212_78 (x := 128) rfl ?_
            refine i_212_79 (v := Value.ref 154) hR.c128 rfl ?_
            refine i_212_82 (x := Int32.ofInt a) rfl ?_
            refine i_212_83 (v := Value.int (Int32.ofInt (S 154 ((a).toNat)))) (hR.row a154) (ix0 (T := a) (by omega) (by omega)) (ix1 (T := a) (by omega) (by omega) (by omega)) (ra (T := a) (by omega) (by omega) rfl) ?_
            refine i_212_84 ?_
            refine i_212_85 (b_ne (a := S 154 ((a).toNat)) (b := 1) ⟨by omega, by omega⟩ ⟨by decide, by decide⟩ fun c18 => absurd c18 (by omega)) (b_eq (a := S 154 ((a).toNat)) (b := 1) ⟨by omega, by omega⟩ ⟨by decide, by decide⟩ fun c18 => ?_)
            refine i_212_88 (x := 128) rfl ?_
            refine i_212_89 (v := Value.ref 156) hR.c128 rfl ?_
            refine i_212_92 (x := Int32.ofInt a) rfl ?_
            refine i_212_93z (v := Value.int (Int32.ofInt (S 156 ((a).toNat)))) (hR.row a156) (ix0 (T := a) (by omega) (by omega)) (ix1 (T := a) (by omega) (by omega) (by omega)) (ra (T := a) (by omega) (by omega) rfl) ?_
            refine i_212_94 ?_
            have hobj := hR.c128
            obtain ⟨w, hrun, hR⟩ := s_special (d := d + 4) (r := r) (k := 1) (s := S 156 ((a).toNat)) hR (by omega) (by omega) (by omega)
            refine i_212_99 hobj (Nat.le_of_ble_eq_true rfl) hrun ?_
            refine i_212_102 ?_
            have eo : sAdd S V r.toNat a.toNat b.toNat tu mode = oS 1 (S 156 ((a).toNat)) (S 128 19) := by clear hR hrun; first | (simp [sAdd, *]; done) | grind [sAdd, sum2, base2, cP, cN, zP, zN, ex, xorI]
            rw [eo]
            exact ⟨rfl, _, _, hR, oP_special (by omega) (by decide) nS.refl nV.refl rfl⟩
          · refine i_212_49 (x := 128) rfl ?_
            refine i_212_50 (x := Int32.ofInt r) rfl ?_
            have hobj := hR.c128
            obtain ⟨w, hrun, hR⟩ := s_invalid (d := d + 3) (r := r) hR (by omega) (by omega)
            refine i_212_51 hobj (Nat.le_of_ble_eq_true rfl) hrun ?_
            refine i_212_54 ?_
            have eo : sAdd S V r.toNat a.toNat b.toNat tu mode = oS 0 0 (zor (S 128 19) 8) := by clear hR hrun; first | (simp [sAdd, *]; done) | grind [sAdd, sum2, base2, cP, cN, zP, zN, ex, xorI]
            rw [eo]
            exact ⟨rfl, _, _, hR, oP_flag (by omega) (by decide) nS.refl nV.refl rfl⟩
    · refine i_212_11 ?_
      refine i_212_12 ?_
      refine i_212_16 (lv2 := [(6, Value.int 1), (0, Value.ref 128), (1, Value.int (Int32.ofInt r)), (2, Value.int (Int32.ofInt a)), (3, Value.int (Int32.ofInt b)), (4, Value.int (Int32.ofInt tu)), (5, Value.int (Int32.ofInt mode))]) rfl ?_
      refine i_212_18 (x := 128) rfl ?_
      refine i_212_19 (v := Value.ref 154) hR.c128 rfl ?_
      refine i_212_22 (x := Int32.ofInt a) rfl ?_
      refine i_212_23 (v := Value.int (Int32.ofInt (S 154 ((a).toNat)))) (hR.row a154) (ix0 (T := a) (by omega) (by omega)) (ix1 (T := a) (by omega) (by omega) (by omega)) (ra (T := a) (by omega) (by omega) rfl) ?_
      refine i_212_24 ?_
      refine i_212_25 (b_ne (a := S 154 ((a).toNat)) (b := 1) ⟨by omega, by omega⟩ ⟨by decide, by decide⟩ fun c19 => ?_) (b_eq (a := S 154 ((a).toNat)) (b := 1) ⟨by omega, by omega⟩ ⟨by decide, by decide⟩ fun c19 => ?_)
      · refine i_212_55 (x := 128) rfl ?_
        refine i_212_56 (v := Value.ref 154) hR.c128 rfl ?_
        refine i_212_59 (x := Int32.ofInt a) rfl ?_
        refine i_212_60 (v := Value.int (Int32.ofInt (S 154 ((a).toNat)))) (hR.row a154) (ix0 (T := a) (by omega) (by omega)) (ix1 (T := a) (by omega) (by omega) (by omega)) (ra (T := a) (by omega) (by omega) rfl) ?_
        refine i_212_61 ?_
        refine i_212_62 (b_eq (a := S 154 ((a).toNat)) (b := 1) ⟨by omega, by omega⟩ ⟨by decide, by decide⟩ fun c20 => absurd c20 (by omega)) (b_ne (a := S 154 ((a).toNat)) (b := 1) ⟨by omega, by omega⟩ ⟨by decide, by decide⟩ fun c20 => ?_)
        refine i_212_65 (x := 128) rfl ?_
        refine i_212_66 (v := Value.ref 154) hR.c128 rfl ?_
        refine i_212_69 (x := Int32.ofInt b) rfl ?_
        refine i_212_70 (v := Value.int (Int32.ofInt (S 154 ((b).toNat)))) (hR.row a154) (ix0 (T := b) (by omega) (by omega)) (ix1 (T := b) (by omega) (by omega) (by omega)) (ra (T := b) (by omega) (by omega) rfl) ?_
        refine i_212_71 ?_
        refine i_212_72 (b_ne (a := S 154 ((b).toNat)) (b := 1) ⟨by omega, by omega⟩ ⟨by decide, by decide⟩ fun c21 => ?_) (b_eq (a := S 154 ((b).toNat)) (b := 1) ⟨by omega, by omega⟩ ⟨by decide, by decide⟩ fun c21 => ?_)
        · refine i_212_103 (x := 128) rfl ?_
          refine i_212_104 (x := 128) rfl ?_
          refine i_212_105 (v := Value.ref 154) hR.c128 rfl ?_
          refine i_212_108 (x := Int32.ofInt a) rfl ?_
          refine i_212_109 (v := Value.int (Int32.ofInt (S 154 ((a).toNat)))) (hR.row a154) (ix0 (T := a) (by omega) (by omega)) (ix1 (T := a) (by omega) (by omega) (by omega)) (ra (T := a) (by omega) (by omega) rfl) ?_
          refine i_212_110 ?_
          refine i_212_111 (b_eq (a := S 154 ((a).toNat)) (b := 3) ⟨by omega, by omega⟩ ⟨by decide, by decide⟩ fun c22 => ?_) (b_ne (a := S 154 ((a).toNat)) (b := 3) ⟨by omega, by omega⟩ ⟨by decide, by decide⟩ fun c22 => ?_)
          · refine i_212_122 (x := 128) rfl ?_
            refine i_212_123 (v := Value.ref 154) hR.c128 rfl ?_
            refine i_212_126 (x := Int32.ofInt b) rfl ?_
            refine i_212_127 (v := Value.int (Int32.ofInt (S 154 ((b).toNat)))) (hR.row a154) (ix0 (T := b) (by omega) (by omega)) (ix1 (T := b) (by omega) (by omega) (by omega)) (ra (T := b) (by omega) (by omega) rfl) ?_
            refine i_212_128 ?_
            refine i_212_129 (b_eq (a := S 154 ((b).toNat)) (b := 3) ⟨by omega, by omega⟩ ⟨by decide, by decide⟩ fun c23 => ?_) (b_ne (a := S 154 ((b).toNat)) (b := 3) ⟨by omega, by omega⟩ ⟨by decide, by decide⟩ fun c23 => ?_)
            · refine i_212_140 (x := 128) rfl ?_
              refine i_212_141 (x := Int32.ofInt a) rfl ?_
              have hobj := hR.c128
              obtain ⟨w, hrun, hR⟩ := s_exponent (d := d + 4) (r := a) hR (by omega) (by omega)
              refine i_212_142 hobj (Nat.le_of_ble_eq_true rfl) hrun ?_
              refine i_212_145 (x := 128) rfl ?_
              refine i_212_146 (x := Int32.ofInt b) rfl ?_
              have hobj := hR.c128
              obtain ⟨w, hrun, hR⟩ := s_exponent (d := d + 4) (r := b) hR (by omega) (by omega)
              refine i_212_147 hobj (Nat.le_of_ble_eq_true rfl) hrun ?_
              have hrun := s_min (d := d + 4) (w := w) (a := S 155 a.toNat - S 153 a.toNat) (b := S 155 b.toNat - S 153 b.toNat) ⟨by omega, by omega⟩ ⟨by omega, by omega⟩
              refine i_212_150 (Nat.le_of_ble_eq_true rfl) hrun ?_
              have hobj := hR.c128
              obtain ⟨w, S1, V1, hrun, hR, hS⟩ := t_open (d := d + 2) (e := min (S 155 a.toNat - S 153 a.toNat) (S 155 b.toNat - S 153 b.toNat)) hR nS.refl nV.refl
              refine i_212_153 hobj (Nat.le_of_ble_eq_true rfl) hrun ?_
              refine i_212_156 (x := 128) rfl ?_
              refine i_212_157 (v := Value.ref 154) hR.c128 rfl ?_
              refine i_212_160 (x := Int32.ofInt a) rfl ?_
              refine i_212_161 (v := Value.int (Int32.ofInt (S 154 ((a).toNat)))) (hR.row a154) (ix0 (T := a) (by omega) (by omega)) (ix1 (T := a) (by omega) (by omega) (by omega)) (ra (T := a) (by omega) (by omega) (hS.1.1 _ _ (by decide))) ?_
              refine i_212_162 ?_
              refine i_212_163 (b_ne (a := S 154 ((a).toNat)) (b := 3) ⟨by omega, by omega⟩ ⟨by decide, by decide⟩ fun c24 => absurd c24 (by omega)) (b_eq (a := S 154 ((a).toNat)) (b := 3) ⟨by omega, by omega⟩ ⟨by decide, by decide⟩ fun c24 => ?_)
              refine i_212_166 (x := 128) rfl ?_
              refine i_212_167 (x := 128) rfl ?_
              refine i_212_168 (v := Value.ref 157) hR.c128 rfl ?_
              refine i_212_171 (x := Int32.ofInt a) rfl ?_
              obtain ⟨gp, hgp, hgr⟩ := hR.part (j := (a).toNat) (by omega)
              refine i_212_172 (v := Value.ref (160 + 2 * a.toNat)) hgp (ix0 (by omega) (by omega)) (ix1 (by omega) (by omega) (by omega)) (by rw [ixn (by omega) (by omega)]; exact hgr) ?_
              refine i_212_173 (x := 128) rfl ?_
              refine i_212_174 (x := Int32.ofInt a) rfl ?_
              have hobj := hR.c128
              obtain ⟨w, hrun, hR⟩ := s_exponent (d := d + 4) (r := a) hR (by omega) (by omega)
              rw [hS.1.1 155 _ (by decide), hS.1.1 153 _ (by decide)] at hrun
              refine i_212_175 hobj (Nat.le_of_ble_eq_true rfl) hrun ?_
              refine i_212_178 (x := 128) rfl ?_
              refine i_212_179 (v := Value.ref 156) hR.c128 rfl ?_
              refine i_212_182 (x := Int32.ofInt a) rfl ?_
              refine i_212_183z (v := Value.int (Int32.ofInt (S 156 ((a).toNat)))) (hR.row a156) (ix0 (T := a) (by omega) (by omega)) (ix1 (T := a) (by omega) (by omega) (by omega)) (ra (T := a) (by omega) (by omega) (hS.1.1 _ _ (by decide))) ?_
              have hobj := hR.c128
              obtain ⟨w, S1, V1, hrun, hR, hS⟩ := t_addTo (d := d + 2) (h := 160 + 2 * a.toNat) (m := V (160 + 2 * a.toNat)) (e := S 155 a.toNat - S 153 a.toNat) (sg := S 156 ((a).toNat)) hR hS (iNp (r := a) (by omega) (by omega)) ((hS.2.1 _ (by omega))) (by omega) (by omega) (by omega) (by first | omega | decide | exact Nat.le_trans (pl_b (n := 70000) (by decide) (Nat.le_trans (xbl_powle _ _) (by omega))) (by decide) | exact Nat.le_trans (mi_b (n := 70000) (by decide) (Nat.le_trans (xbl_powle _ _) (by omega))) (by decide) | exact Nat.le_trans (pl_b (n := 70001) (pl_b (n := 70000) (by decide) (Nat.le_trans (xbl_powle _ _) (by omega))) (Nat.le_trans (xbl_powle _ _) (by omega))) (by decide) | exact Nat.le_trans (mi_b (n := 70001) (mi_b (n := 70000) (by decide) (Nat.le_trans (xbl_powle _ _) (by omega))) (Nat.le_trans (xbl_powle _ _) (by omega))) (by decide)) (by first | omega | decide | exact Nat.le_trans (pl_b (n := 70000) (by decide) (Nat.le_trans (xbl_powle _ _) (by omega))) (by decide) | exact Nat.le_trans (mi_b (n := 70000) (by decide) (Nat.le_trans (xbl_powle _ _) (by omega))) (by decide) | exact Nat.le_trans (pl_b (n := 70001) (pl_b (n := 70000) (by decide) (Nat.le_trans (xbl_powle _ _) (by omega))) (Nat.le_trans (xbl_powle _ _) (by omega))) (by decide) | exact Nat.le_trans (mi_b (n := 70001) (mi_b (n := 70000) (by decide) (Nat.le_trans (xbl_powle _ _) (by omega))) (Nat.le_trans (xbl_powle _ _) (by omega))) (by decide)) (by first | omega | decide | exact Nat.le_trans (pl_b (n := 70000) (by decide) (Nat.le_trans (xbl_powle _ _) (by omega))) (by decide) | exact Nat.le_trans (mi_b (n := 70000) (by decide) (Nat.le_trans (xbl_powle _ _) (by omega))) (by decide) | exact Nat.le_trans (pl_b (n := 70001) (pl_b (n := 70000) (by decide) (Nat.le_trans (xbl_powle _ _) (by omega))) (Nat.le_trans (xbl_powle _ _) (by omega))) (by decide) | exact Nat.le_trans (mi_b (n := 70001) (mi_b (n := 70000) (by decide) (Nat.le_trans (xbl_powle _ _) (by omega))) (Nat.le_trans (xbl_powle _ _) (by omega))) (by decide))
              refine i_212_184 hobj (Nat.le_of_ble_eq_true rfl) hrun ?_
              refine i_212_187 ?_
              refine i_212_200 (x := 128) rfl ?_
              refine i_212_201 (v := Value.ref 154) hR.c128 rfl ?_
              refine i_212_204 (x := Int32.ofInt b) rfl ?_
              refine i_212_205 (v := Value.int (Int32.ofInt (S 154 ((b).toNat)))) (hR.row a154) (ix0 (T := b) (by omega) (by omega)) (ix1 (T := b) (by omega) (by omega) (by omega)) (ra (T := b) (by omega) (by omega) (hS.1.1 _ _ (by decide))) ?_
              refine i_212_206 ?_
              refine i_212_207 (b_ne (a := S 154 ((b).toNat)) (b := 3) ⟨by omega, by omega⟩ ⟨by decide, by decide⟩ fun c25 => absurd c25 (by omega)) (b_eq (a := S 154 ((b).toNat)) (b := 3) ⟨by omega, by omega⟩ ⟨by decide, by decide⟩ fun c25 => ?_)
              refine i_212_210 (x := 128) rfl ?_
              refine i_212_211 (x := 128) rfl ?_
              refine i_212_212 (v := Value.ref 157) hR.c128 rfl ?_
              refine i_212_215 (x := Int32.ofInt b) rfl ?_
              obtain ⟨gp, hgp, hgr⟩ := hR.part (j := (b).toNat) (by omega)
              refine i_212_216 (v := Value.ref (160 + 2 * b.toNat)) hgp (ix0 (by omega) (by omega)) (ix1 (by omega) (by omega) (by omega)) (by rw [ixn (by omega) (by omega)]; exact hgr) ?_
              refine i_212_217 (x := 128) rfl ?_
              refine i_212_218 (x := Int32.ofInt b) rfl ?_
              have hobj := hR.c128
              obtain ⟨w, hrun, hR⟩ := s_exponent (d := d + 4) (r := b) hR (by omega) (by omega)
              rw [hS.1.1 155 _ (by decide), hS.1.1 153 _ (by decide)] at hrun
              refine i_212_219 hobj (Nat.le_of_ble_eq_true rfl) hrun ?_
              refine i_212_222 (x := 1) rfl ?_
              have hobj := hR.c128
              obtain ⟨w, S1, V1, hrun, hR, hS⟩ := t_addTo (d := d + 2) (h := 160 + 2 * b.toNat) (m := V (160 + 2 * b.toNat)) (e := S 155 b.toNat - S 153 b.toNat) (sg := 1) hR hS (iNp (r := b) (by omega) (by omega)) ((hS.2.1 _ (by omega))) (by omega) (by omega) (by omega) (by first | omega | decide | exact Nat.le_trans (pl_b (n := 70000) (by decide) (Nat.le_trans (xbl_powle _ _) (by omega))) (by decide) | exact Nat.le_trans (mi_b (n := 70000) (by decide) (Nat.le_trans (xbl_powle _ _) (by omega))) (by decide) | exact Nat.le_trans (pl_b (n := 70001) (pl_b (n := 70000) (by decide) (Nat.le_trans (xbl_powle _ _) (by omega))) (Nat.le_trans (xbl_powle _ _) (by omega))) (by decide) | exact Nat.le_trans (mi_b (n := 70001) (mi_b (n := 70000) (by decide) (Nat.le_trans (xbl_powle _ _) (by omega))) (Nat.le_trans (xbl_powle _ _) (by omega))) (by decide)) (by first | omega | decide | exact Nat.le_trans (pl_b (n := 70000) (by decide) (Nat.le_trans (xbl_powle _ _) (by omega))) (by decide) | exact Nat.le_trans (mi_b (n := 70000) (by decide) (Nat.le_trans (xbl_powle _ _) (by omega))) (by decide) | exact Nat.le_trans (pl_b (n := 70001) (pl_b (n := 70000) (by decide) (Nat.le_trans (xbl_powle _ _) (by omega))) (Nat.le_trans (xbl_powle _ _) (by omega))) (by decide) | exact Nat.le_trans (mi_b (n := 70001) (mi_b (n := 70000) (by decide) (Nat.le_trans (xbl_powle _ _) (by omega))) (Nat.le_trans (xbl_powle _ _) (by omega))) (by decide)) (by first | omega | decide | exact Nat.le_trans (pl_b (n := 70000) (by decide) (Nat.le_trans (xbl_powle _ _) (by omega))) (by decide) | exact Nat.le_trans (mi_b (n := 70000) (by decide) (Nat.le_trans (xbl_powle _ _) (by omega))) (by decide) | exact Nat.le_trans (pl_b (n := 70001) (pl_b (n := 70000) (by decide) (Nat.le_trans (xbl_powle _ _) (by omega))) (Nat.le_trans (xbl_powle _ _) (by omega))) (by decide) | exact Nat.le_trans (mi_b (n := 70001) (mi_b (n := 70000) (by decide) (Nat.le_trans (xbl_powle _ _) (by omega))) (Nat.le_trans (xbl_powle _ _) (by omega))) (by decide))
              refine i_212_224 hobj (Nat.le_of_ble_eq_true rfl) hrun ?_
              refine i_212_227 ?_
              refine i_212_236 (x := 128) rfl ?_
              refine i_212_237 (x := Int32.ofInt r) rfl ?_
              refine i_212_238 (x := Int32.ofInt mode) rfl ?_
              have hobj := hR.c128
              obtain ⟨w, hrun, S2, V2, hR, hP⟩ := t_close (d := d) (r := r) (mode := mode) hR hS hI (by omega) (by omega) (by refine ⟨?_, ?_, ?_⟩ <;> (repeat' split) <;> simp) (by first | omega | decide | exact Nat.le_trans (pl_b (n := 70000) (by decide) (Nat.le_trans (xbl_powle _ _) (by omega))) (by decide) | exact Nat.le_trans (mi_b (n := 70000) (by decide) (Nat.le_trans (xbl_powle _ _) (by omega))) (by decide) | exact Nat.le_trans (pl_b (n := 70001) (pl_b (n := 70000) (by decide) (Nat.le_trans (xbl_powle _ _) (by omega))) (Nat.le_trans (xbl_powle _ _) (by omega))) (by decide) | exact Nat.le_trans (mi_b (n := 70001) (mi_b (n := 70000) (by decide) (Nat.le_trans (xbl_powle _ _) (by omega))) (Nat.le_trans (xbl_powle _ _) (by omega))) (by decide)) (by first | omega | decide | exact Nat.le_trans (pl_b (n := 70000) (by decide) (Nat.le_trans (xbl_powle _ _) (by omega))) (by decide) | exact Nat.le_trans (mi_b (n := 70000) (by decide) (Nat.le_trans (xbl_powle _ _) (by omega))) (by decide) | exact Nat.le_trans (pl_b (n := 70001) (pl_b (n := 70000) (by decide) (Nat.le_trans (xbl_powle _ _) (by omega))) (Nat.le_trans (xbl_powle _ _) (by omega))) (by decide) | exact Nat.le_trans (mi_b (n := 70001) (mi_b (n := 70000) (by decide) (Nat.le_trans (xbl_powle _ _) (by omega))) (Nat.le_trans (xbl_powle _ _) (by omega))) (by decide)) (by intro _; omega)
              refine i_212_240 hobj (Nat.le_of_ble_eq_true rfl) hrun ?_
              refine i_212_243 ?_
              have eo : sAdd S V r.toNat a.toNat b.toNat tu mode = sumS (S 153 r.toNat) (S 128 17) (S 128 18) (S 128 20) (S 128 19) mode ((0 + if S 156 ((a).toNat) = 0 then (V (160 + 2 * a.toNat)) * 2 ^ ((S 155 a.toNat - S 153 a.toNat) - (min (S 155 a.toNat - S 153 a.toNat) (S 155 b.toNat - S 153 b.toNat))).toNat else 0) + if 1 = 0 then (V (160 + 2 * b.toNat)) * 2 ^ ((S 155 b.toNat - S 153 b.toNat) - (min (S 155 a.toNat - S 153 a.toNat) (S 155 b.toNat - S 153 b.toNat))).toNat else 0) ((0 + if S 156 ((a).toNat) = 0 then 0 else (V (160 + 2 * a.toNat)) * 2 ^ ((S 155 a.toNat - S 153 a.toNat) - (min (S 155 a.toNat - S 153 a.toNat) (S 155 b.toNat - S 153 b.toNat))).toNat) + if 1 = 0 then 0 else (V (160 + 2 * b.toNat)) * 2 ^ ((S 155 b.toNat - S 153 b.toNat) - (min (S 155 a.toNat - S 153 a.toNat) (S 155 b.toNat - S 153 b.toNat))).toNat) (min (S 155 a.toNat - S 153 a.toNat) (S 155 b.toNat - S 153 b.toNat)) 0 0 0 := by clear hR hrun hP; first | (simp [sAdd, *]; done) | grind [sAdd, sum2, base2, cP, cN, zP, zN, ex, xorI]
              rw [eo]
              exact ⟨rfl, _, _, hR, hP⟩
            · refine i_212_132 (x := 128) rfl ?_
              refine i_212_133 (x := Int32.ofInt a) rfl ?_
              have hobj := hR.c128
              obtain ⟨w, hrun, hR⟩ := s_exponent (d := d + 4) (r := a) hR (by omega) (by omega)
              refine i_212_134 hobj (Nat.le_of_ble_eq_true rfl) hrun ?_
              refine i_212_137 ?_
              have hobj := hR.c128
              obtain ⟨w, S1, V1, hrun, hR, hS⟩ := t_open (d := d + 2) (e := S 155 a.toNat - S 153 a.toNat) hR nS.refl nV.refl
              refine i_212_153 hobj (Nat.le_of_ble_eq_true rfl) hrun ?_
              refine i_212_156 (x := 128) rfl ?_
              refine i_212_157 (v := Value.ref 154) hR.c128 rfl ?_
              refine i_212_160 (x := Int32.ofInt a) rfl ?_
              refine i_212_161 (v := Value.int (Int32.ofInt (S 154 ((a).toNat)))) (hR.row a154) (ix0 (T := a) (by omega) (by omega)) (ix1 (T := a) (by omega) (by omega) (by omega)) (ra (T := a) (by omega) (by omega) (hS.1.1 _ _ (by decide))) ?_
              refine i_212_162 ?_
              refine i_212_163 (b_ne (a := S 154 ((a).toNat)) (b := 3) ⟨by omega, by omega⟩ ⟨by decide, by decide⟩ fun c26 => absurd c26 (by omega)) (b_eq (a := S 154 ((a).toNat)) (b := 3) ⟨by omega, by omega⟩ ⟨by decide, by decide⟩ fun c26 => ?_)
              refine i_212_166 (x := 128) rfl ?_
              refine i_212_167 (x := 128) rfl ?_
              refine i_212_168 (v := Value.ref 157) hR.c128 rfl ?_
              refine i_212_171 (x := Int32.ofInt a) rfl ?_
              obtain ⟨gp, hgp, hgr⟩ := hR.part (j := (a).toNat) (by omega)
              refine i_212_172 (v := Value.ref (160 + 2 * a.toNat)) hgp (ix0 (by omega) (by omega)) (ix1 (by omega) (by omega) (by omega)) (by rw [ixn (by omega) (by omega)]; exact hgr) ?_
              refine i_212_173 (x := 128) rfl ?_
              refine i_212_174 (x := Int32.ofInt a) rfl ?_
              have hobj := hR.c128
              obtain ⟨w, hrun, hR⟩ := s_exponent (d := d + 4) (r := a) hR (by omega) (by omega)
              rw [hS.1.1 155 _ (by decide), hS.1.1 153 _ (by decide)] at hrun
              refine i_212_175 hobj (Nat.le_of_ble_eq_true rfl) hrun ?_
              refine i_212_178 (x := 128) rfl ?_
              refine i_212_179 (v := Value.ref 156) hR.c128 rfl ?_
              refine i_212_182 (x := Int32.ofInt a) rfl ?_
              refine i_212_183z (v := Value.int (Int32.ofInt (S 156 ((a).toNat)))) (hR.row a156) (ix0 (T := a) (by omega) (by omega)) (ix1 (T := a) (by omega) (by omega) (by omega)) (ra (T := a) (by omega) (by omega) (hS.1.1 _ _ (by decide))) ?_
              have hobj := hR.c128
              obtain ⟨w, S1, V1, hrun, hR, hS⟩ := t_addTo (d := d + 2) (h := 160 + 2 * a.toNat) (m := V (160 + 2 * a.toNat)) (e := S 155 a.toNat - S 153 a.toNat) (sg := S 156 ((a).toNat)) hR hS (iNp (r := a) (by omega) (by omega)) ((hS.2.1 _ (by omega))) (by omega) (by omega) (by omega) (by first | omega | decide | exact Nat.le_trans (pl_b (n := 70000) (by decide) (Nat.le_trans (xbl_powle _ _) (by omega))) (by decide) | exact Nat.le_trans (mi_b (n := 70000) (by decide) (Nat.le_trans (xbl_powle _ _) (by omega))) (by decide) | exact Nat.le_trans (pl_b (n := 70001) (pl_b (n := 70000) (by decide) (Nat.le_trans (xbl_powle _ _) (by omega))) (Nat.le_trans (xbl_powle _ _) (by omega))) (by decide) | exact Nat.le_trans (mi_b (n := 70001) (mi_b (n := 70000) (by decide) (Nat.le_trans (xbl_powle _ _) (by omega))) (Nat.le_trans (xbl_powle _ _) (by omega))) (by decide)) (by first | omega | decide | exact Nat.le_trans (pl_b (n := 70000) (by decide) (Nat.le_trans (xbl_powle _ _) (by omega))) (by decide) | exact Nat.le_trans (mi_b (n := 70000) (by decide) (Nat.le_trans (xbl_powle _ _) (by omega))) (by decide) | exact Nat.le_trans (pl_b (n := 70001) (pl_b (n := 70000) (by decide) (Nat.le_trans (xbl_powle _ _) (by omega))) (Nat.le_trans (xbl_powle _ _) (by omega))) (by decide) | exact Nat.le_trans (mi_b (n := 70001) (mi_b (n := 70000) (by decide) (Nat.le_trans (xbl_powle _ _) (by omega))) (Nat.le_trans (xbl_powle _ _) (by omega))) (by decide)) (by first | omega | decide | exact Nat.le_trans (pl_b (n := 70000) (by decide) (Nat.le_trans (xbl_powle _ _) (by omega))) (by decide) | exact Nat.le_trans (mi_b (n := 70000) (by decide) (Nat.le_trans (xbl_powle _ _) (by omega))) (by decide) | exact Nat.le_trans (pl_b (n := 70001) (pl_b (n := 70000) (by decide) (Nat.le_trans (xbl_powle _ _) (by omega))) (Nat.le_trans (xbl_powle _ _) (by omega))) (by decide) | exact Nat.le_trans (mi_b (n := 70001) (mi_b (n := 70000) (by decide) (Nat.le_trans (xbl_powle _ _) (by omega))) (Nat.le_trans (xbl_powle _ _) (by omega))) (by decide))
              refine i_212_184 hobj (Nat.le_of_ble_eq_true rfl) hrun ?_
              refine i_212_187 ?_
              refine i_212_200 (x := 128) rfl ?_
              refine i_212_201 (v := Value.ref 154) hR.c128 rfl ?_
              refine i_212_204 (x := Int32.ofInt b) rfl ?_
              refine i_212_205 (v := Value.int (Int32.ofInt (S 154 ((b).toNat)))) (hR.row a154) (ix0 (T := b) (by omega) (by omega)) (ix1 (T := b) (by omega) (by omega) (by omega)) (ra (T := b) (by omega) (by omega) (hS.1.1 _ _ (by decide))) ?_
              refine i_212_206 ?_
              refine i_212_207 (b_ne (a := S 154 ((b).toNat)) (b := 3) ⟨by omega, by omega⟩ ⟨by decide, by decide⟩ fun c27 => ?_) (b_eq (a := S 154 ((b).toNat)) (b := 3) ⟨by omega, by omega⟩ ⟨by decide, by decide⟩ fun c27 => absurd c27 (by omega))
              refine i_212_230 (x := 128) rfl ?_
              refine i_212_231 (x := 1) rfl ?_
              have hobj := hR.c128
              obtain ⟨w, S1, V1, hrun, hR, hS⟩ := t_addZero (d := d + 4) (sg := 1) hR hS (by omega)
              refine i_212_233 hobj (Nat.le_of_ble_eq_true rfl) hrun ?_
              refine i_212_236 (x := 128) rfl ?_
              refine i_212_237 (x := Int32.ofInt r) rfl ?_
              refine i_212_238 (x := Int32.ofInt mode) rfl ?_
              have hobj := hR.c128
              obtain ⟨w, hrun, S2, V2, hR, hP⟩ := t_close (d := d) (r := r) (mode := mode) hR hS hI (by omega) (by omega) (by refine ⟨?_, ?_, ?_⟩ <;> (repeat' split) <;> simp) (by first | omega | decide | exact Nat.le_trans (pl_b (n := 70000) (by decide) (Nat.le_trans (xbl_powle _ _) (by omega))) (by decide) | exact Nat.le_trans (mi_b (n := 70000) (by decide) (Nat.le_trans (xbl_powle _ _) (by omega))) (by decide) | exact Nat.le_trans (pl_b (n := 70001) (pl_b (n := 70000) (by decide) (Nat.le_trans (xbl_powle _ _) (by omega))) (Nat.le_trans (xbl_powle _ _) (by omega))) (by decide) | exact Nat.le_trans (mi_b (n := 70001) (mi_b (n := 70000) (by decide) (Nat.le_trans (xbl_powle _ _) (by omega))) (Nat.le_trans (xbl_powle _ _) (by omega))) (by decide)) (by first | omega | decide | exact Nat.le_trans (pl_b (n := 70000) (by decide) (Nat.le_trans (xbl_powle _ _) (by omega))) (by decide) | exact Nat.le_trans (mi_b (n := 70000) (by decide) (Nat.le_trans (xbl_powle _ _) (by omega))) (by decide) | exact Nat.le_trans (pl_b (n := 70001) (pl_b (n := 70000) (by decide) (Nat.le_trans (xbl_powle _ _) (by omega))) (Nat.le_trans (xbl_powle _ _) (by omega))) (by decide) | exact Nat.le_trans (mi_b (n := 70001) (mi_b (n := 70000) (by decide) (Nat.le_trans (xbl_powle _ _) (by omega))) (Nat.le_trans (xbl_powle _ _) (by omega))) (by decide)) (by intro _; omega)
              refine i_212_240 hobj (Nat.le_of_ble_eq_true rfl) hrun ?_
              refine i_212_243 ?_
              have eo : sAdd S V r.toNat a.toNat b.toNat tu mode = sumS (S 153 r.toNat) (S 128 17) (S 128 18) (S 128 20) (S 128 19) mode (0 + if S 156 ((a).toNat) = 0 then (V (160 + 2 * a.toNat)) * 2 ^ ((S 155 a.toNat - S 153 a.toNat) - (S 155 a.toNat - S 153 a.toNat)).toNat else 0) (0 + if S 156 ((a).toNat) = 0 then 0 else (V (160 + 2 * a.toNat)) * 2 ^ ((S 155 a.toNat - S 153 a.toNat) - (S 155 a.toNat - S 153 a.toNat)).toNat) (S 155 a.toNat - S 153 a.toNat) 0 (if 1 = 0 then 1 else 0) (if 1 = 0 then 0 else 1) := by clear hR hrun hP; first | (simp [sAdd, *]; done) | grind [sAdd, sum2, base2, cP, cN, zP, zN, ex, xorI]
              rw [eo]
              exact ⟨rfl, _, _, hR, hP⟩
          · refine i_212_114 (x := 128) rfl ?_
            refine i_212_115 (x := Int32.ofInt b) rfl ?_
            have hobj := hR.c128
            obtain ⟨w, hrun, hR⟩ := s_exponent (d := d + 4) (r := b) hR (by omega) (by omega)
            refine i_212_116 hobj (Nat.le_of_ble_eq_true rfl) hrun ?_
            refine i_212_119 ?_
            have hobj := hR.c128
            obtain ⟨w, S1, V1, hrun, hR, hS⟩ := t_open (d := d + 2) (e := S 155 b.toNat - S 153 b.toNat) hR nS.refl nV.refl
            refine i_212_153 hobj (Nat.le_of_ble_eq_true rfl) hrun ?_
            refine i_212_156 (x := 128) rfl ?_
            refine i_212_157 (v := Value.ref 154) hR.c128 rfl ?_
            refine i_212_160 (x := Int32.ofInt a) rfl ?_
            refine i_212_161 (v := Value.int (Int32.ofInt (S 154 ((a).toNat)))) (hR.row a154) (ix0 (T := a) (by omega) (by omega)) (ix1 (T := a) (by omega) (by omega) (by omega)) (ra (T := a) (by omega) (by omega) (hS.1.1 _ _ (by decide))) ?_
            refine i_212_162 ?_
            refine i_212_163 (b_ne (a := S 154 ((a).toNat)) (b := 3) ⟨by omega, by omega⟩ ⟨by decide, by decide⟩ fun c28 => ?_) (b_eq (a := S 154 ((a).toNat)) (b := 3) ⟨by omega, by omega⟩ ⟨by decide, by decide⟩ fun c28 => absurd c28 (by omega))
            refine i_212_190 (x := 128) rfl ?_
            refine i_212_191 (x := 128) rfl ?_
            refine i_212_192 (v := Value.ref 156) hR.c128 rfl ?_
            refine i_212_195 (x := Int32.ofInt a) rfl ?_
            refine i_212_196z (v := Value.int (Int32.ofInt (S 156 ((a).toNat)))) (hR.row a156) (ix0 (T := a) (by omega) (by omega)) (ix1 (T := a) (by omega) (by omega) (by omega)) (ra (T := a) (by omega) (by omega) (hS.1.1 _ _ (by decide))) ?_
            have hobj := hR.c128
            obtain ⟨w, S1, V1, hrun, hR, hS⟩ := t_addZero (d := d + 4) (sg := S 156 ((a).toNat)) hR hS (by omega)
            refine i_212_197 hobj (Nat.le_of_ble_eq_true rfl) hrun ?_
            refine i_212_200 (x := 128) rfl ?_
            refine i_212_201 (v := Value.ref 154) hR.c128 rfl ?_
            refine i_212_204 (x := Int32.ofInt b) rfl ?_
            refine i_212_205 (v := Value.int (Int32.ofInt (S 154 ((b).toNat)))) (hR.row a154) (ix0 (T := b) (by omega) (by omega)) (ix1 (T := b) (by omega) (by omega) (by omega)) (ra (T := b) (by omega) (by omega) (hS.1.1 _ _ (by decide))) ?_
            refine i_212_206 ?_
            refine i_212_207 (b_ne (a := S 154 ((b).toNat)) (b := 3) ⟨by omega, by omega⟩ ⟨by decide, by decide⟩ fun c29 => ?_) (b_eq (a := S 154 ((b).toNat)) (b := 3) ⟨by omega, by omega⟩ ⟨by decide, by decide⟩ fun c29 => ?_)
            · refine i_212_230 (x := 128) rfl ?_
              refine i_212_231 (x := 1) rfl ?_
              have hobj := hR.c128
              obtain ⟨w, S1, V1, hrun, hR, hS⟩ := t_addZero (d := d + 4) (sg := 1) hR hS (by omega)
              refine i_212_233 hobj (Nat.le_of_ble_eq_true rfl) hrun ?_
              refine i_212_236 (x := 128) rfl ?_
              refine i_212_237 (x := Int32.ofInt r) rfl ?_
              refine i_212_238 (x := Int32.ofInt mode) rfl ?_
              have hobj := hR.c128
              obtain ⟨w, hrun, S2, V2, hR, hP⟩ := t_close (d := d) (r := r) (mode := mode) hR hS hI (by omega) (by omega) (by refine ⟨?_, ?_, ?_⟩ <;> (repeat' split) <;> simp) (by first | omega | decide | exact Nat.le_trans (pl_b (n := 70000) (by decide) (Nat.le_trans (xbl_powle _ _) (by omega))) (by decide) | exact Nat.le_trans (mi_b (n := 70000) (by decide) (Nat.le_trans (xbl_powle _ _) (by omega))) (by decide) | exact Nat.le_trans (pl_b (n := 70001) (pl_b (n := 70000) (by decide) (Nat.le_trans (xbl_powle _ _) (by omega))) (Nat.le_trans (xbl_powle _ _) (by omega))) (by decide) | exact Nat.le_trans (mi_b (n := 70001) (mi_b (n := 70000) (by decide) (Nat.le_trans (xbl_powle _ _) (by omega))) (Nat.le_trans (xbl_powle _ _) (by omega))) (by decide)) (by first | omega | decide | exact Nat.le_trans (pl_b (n := 70000) (by decide) (Nat.le_trans (xbl_powle _ _) (by omega))) (by decide) | exact Nat.le_trans (mi_b (n := 70000) (by decide) (Nat.le_trans (xbl_powle _ _) (by omega))) (by decide) | exact Nat.le_trans (pl_b (n := 70001) (pl_b (n := 70000) (by decide) (Nat.le_trans (xbl_powle _ _) (by omega))) (Nat.le_trans (xbl_powle _ _) (by omega))) (by decide) | exact Nat.le_trans (mi_b (n := 70001) (mi_b (n := 70000) (by decide) (Nat.le_trans (xbl_powle _ _) (by omega))) (Nat.le_trans (xbl_powle _ _) (by omega))) (by decide)) (by intro _; omega)
              refine i_212_240 hobj (Nat.le_of_ble_eq_true rfl) hrun ?_
              refine i_212_243 ?_
              have eo : sAdd S V r.toNat a.toNat b.toNat tu mode = sumS (S 153 r.toNat) (S 128 17) (S 128 18) (S 128 20) (S 128 19) mode 0 0 (S 155 b.toNat - S 153 b.toNat) 1 (if 1 = 0 then 1 else if S 156 ((a).toNat) = 0 then 1 else 0) (if 1 = 0 then if S 156 ((a).toNat) = 0 then 0 else 1 else 1) := by clear hR hrun hP; first | (simp [sAdd, *]; done) | grind [sAdd, sum2, base2, cP, cN, zP, zN, ex, xorI]
              rw [eo]
              exact ⟨rfl, _, _, hR, hP⟩
            · refine i_212_210 (x := 128) rfl ?_
              refine i_212_211 (x := 128) rfl ?_
              refine i_212_212 (v := Value.ref 157) hR.c128 rfl ?_
              refine i_212_215 (x := Int32.ofInt b) rfl ?_
              obtain ⟨gp, hgp, hgr⟩ := hR.part (j := (b).toNat) (by omega)
              refine i_212_216 (v := Value.ref (160 + 2 * b.toNat)) hgp (ix0 (by omega) (by omega)) (ix1 (by omega) (by omega) (by omega)) (by rw [ixn (by omega) (by omega)]; exact hgr) ?_
              refine i_212_217 (x := 128) rfl ?_
              refine i_212_218 (x := Int32.ofInt b) rfl ?_
              have hobj := hR.c128
              obtain ⟨w, hrun, hR⟩ := s_exponent (d := d + 4) (r := b) hR (by omega) (by omega)
              rw [hS.1.1 155 _ (by decide), hS.1.1 153 _ (by decide)] at hrun
              refine i_212_219 hobj (Nat.le_of_ble_eq_true rfl) hrun ?_
              refine i_212_222 (x := 1) rfl ?_
              have hobj := hR.c128
              obtain ⟨w, S1, V1, hrun, hR, hS⟩ := t_addTo (d := d + 2) (h := 160 + 2 * b.toNat) (m := V (160 + 2 * b.toNat)) (e := S 155 b.toNat - S 153 b.toNat) (sg := 1) hR hS (iNp (r := b) (by omega) (by omega)) ((hS.2.1 _ (by omega))) (by omega) (by omega) (by omega) (by first | omega | decide | exact Nat.le_trans (pl_b (n := 70000) (by decide) (Nat.le_trans (xbl_powle _ _) (by omega))) (by decide) | exact Nat.le_trans (mi_b (n := 70000) (by decide) (Nat.le_trans (xbl_powle _ _) (by omega))) (by decide) | exact Nat.le_trans (pl_b (n := 70001) (pl_b (n := 70000) (by decide) (Nat.le_trans (xbl_powle _ _) (by omega))) (Nat.le_trans (xbl_powle _ _) (by omega))) (by decide) | exact Nat.le_trans (mi_b (n := 70001) (mi_b (n := 70000) (by decide) (Nat.le_trans (xbl_powle _ _) (by omega))) (Nat.le_trans (xbl_powle _ _) (by omega))) (by decide)) (by first | omega | decide | exact Nat.le_trans (pl_b (n := 70000) (by decide) (Nat.le_trans (xbl_powle _ _) (by omega))) (by decide) | exact Nat.le_trans (mi_b (n := 70000) (by decide) (Nat.le_trans (xbl_powle _ _) (by omega))) (by decide) | exact Nat.le_trans (pl_b (n := 70001) (pl_b (n := 70000) (by decide) (Nat.le_trans (xbl_powle _ _) (by omega))) (Nat.le_trans (xbl_powle _ _) (by omega))) (by decide) | exact Nat.le_trans (mi_b (n := 70001) (mi_b (n := 70000) (by decide) (Nat.le_trans (xbl_powle _ _) (by omega))) (Nat.le_trans (xbl_powle _ _) (by omega))) (by decide)) (by first | omega | decide | exact Nat.le_trans (pl_b (n := 70000) (by decide) (Nat.le_trans (xbl_powle _ _) (by omega))) (by decide) | exact Nat.le_trans (mi_b (n := 70000) (by decide) (Nat.le_trans (xbl_powle _ _) (by omega))) (by decide) | exact Nat.le_trans (pl_b (n := 70001) (pl_b (n := 70000) (by decide) (Nat.le_trans (xbl_powle _ _) (by omega))) (Nat.le_trans (xbl_powle _ _) (by omega))) (by decide) | exact Nat.le_trans (mi_b (n := 70001) (mi_b (n := 70000) (by decide) (Nat.le_trans (xbl_powle _ _) (by omega))) (Nat.le_trans (xbl_powle _ _) (by omega))) (by decide))
              refine i_212_224 hobj (Nat.le_of_ble_eq_true rfl) hrun ?_
              refine i_212_227 ?_
              refine i_212_236 (x := 128) rfl ?_
              refine i_212_237 (x := Int32.ofInt r) rfl ?_
              refine i_212_238 (x := Int32.ofInt mode) rfl ?_
              have hobj := hR.c128
              obtain ⟨w, hrun, S2, V2, hR, hP⟩ := t_close (d := d) (r := r) (mode := mode) hR hS hI (by omega) (by omega) (by refine ⟨?_, ?_, ?_⟩ <;> (repeat' split) <;> simp) (by first | omega | decide | exact Nat.le_trans (pl_b (n := 70000) (by decide) (Nat.le_trans (xbl_powle _ _) (by omega))) (by decide) | exact Nat.le_trans (mi_b (n := 70000) (by decide) (Nat.le_trans (xbl_powle _ _) (by omega))) (by decide) | exact Nat.le_trans (pl_b (n := 70001) (pl_b (n := 70000) (by decide) (Nat.le_trans (xbl_powle _ _) (by omega))) (Nat.le_trans (xbl_powle _ _) (by omega))) (by decide) | exact Nat.le_trans (mi_b (n := 70001) (mi_b (n := 70000) (by decide) (Nat.le_trans (xbl_powle _ _) (by omega))) (Nat.le_trans (xbl_powle _ _) (by omega))) (by decide)) (by first | omega | decide | exact Nat.le_trans (pl_b (n := 70000) (by decide) (Nat.le_trans (xbl_powle _ _) (by omega))) (by decide) | exact Nat.le_trans (mi_b (n := 70000) (by decide) (Nat.le_trans (xbl_powle _ _) (by omega))) (by decide) | exact Nat.le_trans (pl_b (n := 70001) (pl_b (n := 70000) (by decide) (Nat.le_trans (xbl_powle _ _) (by omega))) (Nat.le_trans (xbl_powle _ _) (by omega))) (by decide) | exact Nat.le_trans (mi_b (n := 70001) (mi_b (n := 70000) (by decide) (Nat.le_trans (xbl_powle _ _) (by omega))) (Nat.le_trans (xbl_powle _ _) (by omega))) (by decide)) (by intro _; omega)
              refine i_212_240 hobj (Nat.le_of_ble_eq_true rfl) hrun ?_
              refine i_212_243 ?_
              have eo : sAdd S V r.toNat a.toNat b.toNat tu mode = sumS (S 153 r.toNat) (S 128 17) (S 128 18) (S 128 20) (S 128 19) mode (0 + if 1 = 0 then (V (160 + 2 * b.toNat)) * 2 ^ ((S 155 b.toNat - S 153 b.toNat) - (S 155 b.toNat - S 153 b.toNat)).toNat else 0) (0 + if 1 = 0 then 0 else (V (160 + 2 * b.toNat)) * 2 ^ ((S 155 b.toNat - S 153 b.toNat) - (S 155 b.toNat - S 153 b.toNat)).toNat) (S 155 b.toNat - S 153 b.toNat) 0 (if S 156 ((a).toNat) = 0 then 1 else 0) (if S 156 ((a).toNat) = 0 then 0 else 1) := by clear hR hrun hP; first | (simp [sAdd, *]; done) | grind [sAdd, sum2, base2, cP, cN, zP, zN, ex, xorI]
              rw [eo]
              exact ⟨rfl, _, _, hR, hP⟩
        · refine i_212_75 (x := 128) rfl ?_
          refine i_212_76 (x := Int32.ofInt r) rfl ?_
          refine i_212_77 ?_
          refine i_212_78 (x := 128) rfl ?_
          refine i_212_79 (v := Value.ref 154) hR.c128 rfl ?_
          refine i_212_82 (x := Int32.ofInt a) rfl ?_
          refine i_212_83 (v := Value.int (Int32.ofInt (S 154 ((a).toNat)))) (hR.row a154) (ix0 (T := a) (by omega) (by omega)) (ix1 (T := a) (by omega) (by omega) (by omega)) (ra (T := a) (by omega) (by omega) rfl) ?_
          refine i_212_84 ?_
          refine i_212_85 (b_ne (a := S 154 ((a).toNat)) (b := 1) ⟨by omega, by omega⟩ ⟨by decide, by decide⟩ fun c30 => ?_) (b_eq (a := S 154 ((a).toNat)) (b := 1) ⟨by omega, by omega⟩ ⟨by decide, by decide⟩ fun c30 => absurd c30 (by omega))
          refine i_212_97 (x := 1) rfl ?_
          have hobj := hR.c128
          obtain ⟨w, hrun, hR⟩ := s_special (d := d + 4) (r := r) (k := 1) (s := 1) hR (by omega) (by omega) (by omega)
          refine i_212_99 hobj (Nat.le_of_ble_eq_true rfl) hrun ?_
          refine i_212_102 ?_
          have eo : sAdd S V r.toNat a.toNat b.toNat tu mode = oS 1 1 (S 128 19) := by clear hR hrun; first | (simp [sAdd, *]; done) | grind [sAdd, sum2, base2, cP, cN, zP, zN, ex, xorI]
          rw [eo]
          exact ⟨rfl, _, _, hR, oP_special (by omega) (by decide) nS.refl nV.refl rfl⟩
      · refine i_212_28 (x := 128) rfl ?_
        refine i_212_29 (v := Value.ref 154) hR.c128 rfl ?_
        refine i_212_32 (x := Int32.ofInt b) rfl ?_
        refine i_212_33 (v := Value.int (Int32.ofInt (S 154 ((b).toNat)))) (hR.row a154) (ix0 (T := b) (by omega) (by omega)) (ix1 (T := b) (by omega) (by omega) (by omega)) (ra (T := b) (by omega) (by omega) rfl) ?_
        refine i_212_34 ?_
        refine i_212_35 (b_ne (a := S 154 ((b).toNat)) (b := 1) ⟨by omega, by omega⟩ ⟨by decide, by decide⟩ fun c31 => ?_) (b_eq (a := S 154 ((b).toNat)) (b := 1) ⟨by omega, by omega⟩ ⟨by decide, by decide⟩ fun c31 => ?_)
        · refine i_212_55 (x := 128) rfl ?_
          refine i_212_56 (v := Value.ref 154) hR.c128 rfl ?_
          refine i_212_59 (x := Int32.ofInt a) rfl ?_
          refine i_212_60 (v := Value.int (Int32.ofInt (S 154 ((a).toNat)))) (hR.row a154) (ix0 (T := a) (by omega) (by omega)) (ix1 (T := a) (by omega) (by omega) (by omega)) (ra (T := a) (by omega) (by omega) rfl) ?_
          refine i_212_61 ?_
          refine i_212_62 (b_eq (a := S 154 ((a).toNat)) (b := 1) ⟨by omega, by omega⟩ ⟨by decide, by decide⟩ fun c32 => ?_) (b_ne (a := S 154 ((a).toNat)) (b := 1) ⟨by omega, by omega⟩ ⟨by decide, by decide⟩ fun c32 => absurd c32 (by omega))
          refine i_212_75 (x := 128) rfl ?_
          refine i_212_76 (x := Int32.ofInt r) rfl ?_
          refine i_212_77 ?_
          refine i_212_78 (x := 128) rfl ?_
          refine i_212_79 (v := Value.ref 154) hR.c128 rfl ?_
          refine i_212_82 (x := Int32.ofInt a) rfl ?_
          refine i_212_83 (v := Value.int (Int32.ofInt (S 154 ((a).toNat)))) (hR.row a154) (ix0 (T := a) (by omega) (by omega)) (ix1 (T := a) (by omega) (by omega) (by omega)) (ra (T := a) (by omega) (by omega) rfl) ?_
          refine i_212_84 ?_
          refine i_212_85 (b_ne (a := S 154 ((a).toNat)) (b := 1) ⟨by omega, by omega⟩ ⟨by decide, by decide⟩ fun c33 => absurd c33 (by omega)) (b_eq (a := S 154 ((a).toNat)) (b := 1) ⟨by omega, by omega⟩ ⟨by decide, by decide⟩ fun c33 => ?_)
          refine i_212_88 (x := 128) rfl ?_
          refine i_212_89 (v := Value.ref 156) hR.c128 rfl ?_
          refine i_212_92 (x := Int32.ofInt a) rfl ?_
          refine i_212_93z (v := Value.int (Int32.ofInt (S 156 ((a).toNat)))) (hR.row a156) (ix0 (T := a) (by omega) (by omega)) (ix1 (T := a) (by omega) (by omega) (by omega)) (ra (T := a) (by omega) (by omega) rfl) ?_
          refine i_212_94 ?_
          have hobj := hR.c128
          obtain ⟨w, hrun, hR⟩ := s_special (d := d + 4) (r := r) (k := 1) (s := S 156 ((a).toNat)) hR (by omega) (by omega) (by omega)
          refine i_212_99 hobj (Nat.le_of_ble_eq_true rfl) hrun ?_
          refine i_212_102 ?_
          have eo : sAdd S V r.toNat a.toNat b.toNat tu mode = oS 1 (S 156 ((a).toNat)) (S 128 19) := by clear hR hrun; first | (simp [sAdd, *]; done) | grind [sAdd, sum2, base2, cP, cN, zP, zN, ex, xorI]
          rw [eo]
          exact ⟨rfl, _, _, hR, oP_special (by omega) (by decide) nS.refl nV.refl rfl⟩
        · refine i_212_38 (x := 128) rfl ?_
          refine i_212_39 (v := Value.ref 156) hR.c128 rfl ?_
          refine i_212_42 (x := Int32.ofInt a) rfl ?_
          refine i_212_43z (v := Value.int (Int32.ofInt (S 156 ((a).toNat)))) (hR.row a156) (ix0 (T := a) (by omega) (by omega)) (ix1 (T := a) (by omega) (by omega) (by omega)) (ra (T := a) (by omega) (by omega) rfl) ?_
          refine i_212_44 (x := 1) rfl ?_
          refine i_212_46 (b_eq (a := S 156 ((a).toNat)) (b := 1) ⟨by omega, by omega⟩ ⟨by decide, by decide⟩ fun c34 => ?_) (b_ne (a := S 156 ((a).toNat)) (b := 1) ⟨by omega, by omega⟩ ⟨by decide, by decide⟩ fun c34 => ?_)
          · refine i_212_55 (x := 128) rfl ?_
            refine i_212_56 (v := Value.ref 154) hR.c128 rfl ?_
            refine i_212_59 (x := Int32.ofInt a) rfl ?_
            refine i_212_60 (v := Value.int (Int32.ofInt (S 154 ((a).toNat)))) (hR.row a154) (ix0 (T := a) (by omega) (by omega)) (ix1 (T := a) (by omega) (by omega) (by omega)) (ra (T := a) (by omega) (by omega) rfl) ?_
            refine i_212_61 ?_
            refine i_212_62 (b_eq (a := S 154 ((a).toNat)) (b := 1) ⟨by omega, by omega⟩ ⟨by decide, by decide⟩ fun c35 => ?_) (b_ne (a := S 154 ((a).toNat)) (b := 1) ⟨by omega, by omega⟩ ⟨by decide, by decide⟩ fun c35 => absurd c35 (by omega))
            refine i_212_75 (x := 128) rfl ?_
            refine i_212_76 (x := Int32.ofInt r) rfl ?_
            refine i_212_77 ?_
            refine i_212_78 (x := 128) rfl ?_
            refine i_212_79 (v := Value.ref 154) hR.c128 rfl ?_
            refine i_212_82 (x := Int32.ofInt a) rfl ?_
            refine i_212_83 (v := Value.int (Int32.ofInt (S 154 ((a).toNat)))) (hR.row a154) (ix0 (T := a) (by omega) (by omega)) (ix1 (T := a) (by omega) (by omega) (by omega)) (ra (T := a) (by omega) (by omega) rfl) ?_
            refine i_212_84 ?_
            refine i_212_85 (b_ne (a := S 154 ((a).toNat)) (b := 1) ⟨by omega, by omega⟩ ⟨by decide, by decide⟩ fun c36 => absurd c36 (by omega)) (b_eq (a := S 154 ((a).toNat)) (b := 1) ⟨by omega, by omega⟩ ⟨by decide, by decide⟩ fun c36 => ?_)
            refine i_212_88 (x := 128) rfl ?_
            refine i_212_89 (v := Value.ref 156) hR.c128 rfl ?_
            refine i_212_92 (x := Int32.ofInt a) rfl ?_
            refine i_212_93z (v := Value.int (Int32.ofInt (S 156 ((a).toNat)))) (hR.row a156) (ix0 (T := a) (by omega) (by omega)) (ix1 (T := a) (by omega) (by omega) (by omega)) (ra (T := a) (by omega) (by omega) rfl) ?_
            refine i_212_94 ?_
            have hobj := hR.c128
            obtain ⟨w, hrun, hR⟩ := s_special (d := d + 4) (r := r) (k := 1) (s := S 156 ((a).toNat)) hR (by omega) (by omega) (by omega)
            refine i_212_99 hobj (Nat.le_of_ble_eq_true rfl) hrun ?_
            refine i_212_102 ?_
            have eo : sAdd S V r.toNat a.toNat b.toNat tu mode = oS 1 (S 156 ((a).toNat)) (S 128 19) := by clear hR hrun; first | (simp [sAdd, *]; done) | grind [sAdd, sum2, base2, cP, cN, zP, zN, ex, xorI]
            rw [eo]
            exact ⟨rfl, _, _, hR, oP_special (by omega) (by decide) nS.refl nV.refl rfl⟩
          · refine i_212_49 (x := 128) rfl ?_
            refine i_212_50 (x := Int32.ofInt r) rfl ?_
            have hobj := hR.c128
            obtain ⟨w, hrun, hR⟩ := s_invalid (d := d + 3) (r := r) hR (by omega) (by omega)
            refine i_212_51 hobj (Nat.le_of_ble_eq_true rfl) hrun ?_
            refine i_212_54 ?_
            have eo : sAdd S V r.toNat a.toNat b.toNat tu mode = oS 0 0 (zor (S 128 19) 8) := by clear hR hrun; first | (simp [sAdd, *]; done) | grind [sAdd, sum2, base2, cP, cN, zP, zN, ex, xorI]
            rw [eo]
            exact ⟨rfl, _, _, hR, oP_flag (by omega) (by decide) nS.refl nV.refl rfl⟩
  obtain ⟨o, w', h1, rfl, h2⟩ := key.run
  exact ⟨w', h1, h2⟩
