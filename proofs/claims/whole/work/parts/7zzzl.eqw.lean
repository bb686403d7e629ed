/-! whole: the way of a rounding is the order of the result beside the exact value -/
theorem bt1 (A B : Int32) : ((A &&& ~~~1) ||| (B &&& 1)) ||| 1 = A ||| 1 := by
  apply Int32.toBitVec_inj.mp
  simp only [Int32.toBitVec_or, Int32.toBitVec_and, Int32.toBitVec_not]
  generalize (1 : Int32).toBitVec = o
  ext i hi
  simp only [BitVec.getElem_or, BitVec.getElem_and, BitVec.getElem_not]
  cases A.toBitVec[i] <;> cases B.toBitVec[i] <;> cases o[i] <;> rfl
theorem bt2 (A : Int32) : (A &&& ~~~1) ||| (A &&& 1) = A := by
  apply Int32.toBitVec_inj.mp
  simp only [Int32.toBitVec_or, Int32.toBitVec_and, Int32.toBitVec_not]
  generalize (1 : Int32).toBitVec = o
  ext i hi
  simp only [BitVec.getElem_or, BitVec.getElem_and, BitVec.getElem_not]
  cases A.toBitVec[i] <;> cases o[i] <;> rfl
theorem bt3 (A : Int32) : A &&& ~~~1 = (A ||| 1) &&& ~~~1 := by
  apply Int32.toBitVec_inj.mp
  simp only [Int32.toBitVec_or, Int32.toBitVec_and, Int32.toBitVec_not]
  generalize (1 : Int32).toBitVec = o
  ext i hi
  simp only [BitVec.getElem_or, BitVec.getElem_and, BitVec.getElem_not]
  cases A.toBitVec[i] <;> cases o[i] <;> rfl
theorem bt4 (A : Int32) : (A &&& ~~~1) ||| 1 = A ||| 1 := by
  apply Int32.toBitVec_inj.mp
  simp only [Int32.toBitVec_or, Int32.toBitVec_and, Int32.toBitVec_not]
  generalize (1 : Int32).toBitVec = o
  ext i hi
  simp only [BitVec.getElem_or, BitVec.getElem_and, BitVec.getElem_not]
  cases A.toBitVec[i] <;> cases o[i] <;> rfl
theorem bt5 (A : Int32) : A ||| 0 = A := by
  apply Int32.toBitVec_inj.mp
  simp
theorem bt6 (A : Int32) : (A ||| 1) ||| 1 = A ||| 1 := by
  apply Int32.toBitVec_inj.mp
  simp only [Int32.toBitVec_or]
  generalize (1 : Int32).toBitVec = o
  ext i hi
  simp only [BitVec.getElem_or]
  cases A.toBitVec[i] <;> cases o[i] <;> rfl
theorem i32_par (B : Int32) : B &&& 1 = 0 ∨ B &&& 1 = 1 := by
  have h : (B &&& 1).toBitVec.toNat = B.toBitVec.toNat % 2 := by
    rw [Int32.toBitVec_and, BitVec.toNat_and]
    exact Nat.and_one_is_mod _
  rcases Nat.mod_two_eq_zero_or_one B.toBitVec.toNat with g | g
  · left; apply Int32.toBitVec_inj.mp; apply BitVec.eq_of_toNat_eq; rw [h, g]; rfl
  · right; apply Int32.toBitVec_inj.mp; apply BitVec.eq_of_toNat_eq; rw [h, g]; rfl
theorem zor_i (a b : Int) : Int32.ofInt (zor a b) = Int32.ofInt a ||| Int32.ofInt b := by unfold zor; rw [Int32.ofInt_toInt]
theorem zand_i (a b : Int) : Int32.ofInt (zand a b) = Int32.ofInt a &&& Int32.ofInt b := by unfold zand; rw [Int32.ofInt_toInt]
theorem m2_i : Int32.ofInt (-2) = ~~~ (1 : Int32) := by decide
theorem one_i : Int32.ofInt 1 = (1 : Int32) := by decide
theorem nul_i : Int32.ofInt 0 = (0 : Int32) := by decide
theorem zor_11 (a : Int) : zor (zor a 1) 1 = zor a 1 := by
  show (Int32.ofInt (zor a 1) ||| Int32.ofInt 1).toInt = (Int32.ofInt a ||| Int32.ofInt 1).toInt
  rw [zor_i, one_i, bt6]
theorem whF_1 {f F t : Int} (h : t ≠ 0) : whF f F t = zor F 1 := by
  unfold whF
  rw [if_neg h]
  show (Int32.ofInt (zor (zand F (-2)) (zand f 1)) ||| Int32.ofInt 1).toInt = (Int32.ofInt F ||| Int32.ofInt 1).toInt
  rw [zor_i, zand_i, zand_i, m2_i, one_i, bt1]
theorem whF_0 {f : Int} (h : -2147483648 ≤ f ∧ f < 2147483648) : whF f f 0 = f := by
  unfold whF
  rw [if_pos rfl]
  show (Int32.ofInt (zor (zand f (-2)) (zand f 1)) ||| Int32.ofInt 0).toInt = f
  rw [zor_i, zand_i, zand_i, m2_i, one_i, nul_i, bt2, bt5]
  exact Int32.toInt_ofInt_of_le (by omega) (by omega)
theorem whF_C {f F : Int} : whF f F 0 = if zand f 1 = 0 then zand (zor F 1) (-2) else zor F 1 := by
  have e : whF f F 0 = ((Int32.ofInt F &&& ~~~1) ||| (Int32.ofInt f &&& 1)).toInt := by
    unfold whF
    rw [if_pos rfl]
    show (Int32.ofInt (zor (zand F (-2)) (zand f 1)) ||| Int32.ofInt 0).toInt = _
    rw [zor_i, zand_i, zand_i, m2_i, one_i, nul_i, bt5]
  rw [e]
  rcases i32_par (Int32.ofInt f) with g | g
  · have z : zand f 1 = 0 := by
      show (Int32.ofInt f &&& Int32.ofInt 1).toInt = 0
      rw [one_i, g]; rfl
    rw [if_pos z, g, bt5]
    show _ = (Int32.ofInt (zor F 1) &&& Int32.ofInt (-2)).toInt
    rw [zor_i, m2_i, one_i, ← bt3]
  · have z : ¬ zand f 1 = 0 := by
      show ¬ (Int32.ofInt f &&& Int32.ofInt 1).toInt = 0
      rw [one_i, g]; decide
    rw [if_neg z, g, bt4]
    show _ = (Int32.ofInt F ||| Int32.ofInt 1).toInt
    rw [one_i]
/-- how two numbers lie, by their tops and mantissas -/
def cM (ta : Int) (a : Nat) (tb : Int) (b : Nat) : Int := if ta ≠ tb then (if tb < ta then 1 else -1) else ncmp (a * 2 ^ xbl b) (b * 2 ^ xbl a)
theorem cM_v {a b u v : Nat} {ta tb ea eb : Int} (ha : a ≠ 0) (hb : b ≠ 0) (h1 : ta = xbl a + ea) (h2 : tb = xbl b + eb) (h : (u : Int) - v = ea - eb) : cM ta a tb b = ncmp (a * 2 ^ u) (b * 2 ^ v) := by
  have pa := xbl_pow a u ha
  have pb := xbl_pow b v hb
  have na : a * 2 ^ u ≠ 0 := Nat.mul_ne_zero ha (Nat.pos_iff_ne_zero.mp (Nat.two_pow_pos u))
  have nb : b * 2 ^ v ≠ 0 := Nat.mul_ne_zero hb (Nat.pos_iff_ne_zero.mp (Nat.two_pow_pos v))
  unfold cM
  rcases Int.lt_trichotomy ta tb with c | c | c
  · rw [if_pos (by omega), if_neg (by omega), ncmp_l (xbl_lt' (by omega) nb)]
  · rw [if_neg (by omega)]
    exact ncmp_sh (by omega)
  · rw [if_pos (by omega), if_pos (by omega), ncmp_g (xbl_lt' (by omega) na)]
theorem cM_nrm {q m : Nat} {p ta tb : Int} (hp : 1 ≤ p) (h : (xbl q : Int) ≤ p ∨ q = 2 ^ p.toNat) : cM ta (nrm q p) tb m = cM ta q tb m := by
  unfold cM
  split
  · rfl
  · by_cases c : (xbl q : Int) ≤ p
    · rw [nrm_le c]
      by_cases z : q = 0
      · subst z; rw [Nat.zero_mul]
      · rw [xbl_pow _ _ z, Nat.pow_add, ← Nat.mul_assoc, Nat.mul_right_comm q, ncmp_sc (Nat.two_pow_pos _)]
    · have hq : q = 2 ^ p.toNat := h.resolve_left c
      rw [hq, nrm_pow hp (by omega)]
      have e : p.toNat = (p - 1).toNat + 1 := by omega
      rw [e, xbl_2pow, xbl_2pow]
      generalize (p - 1).toNat = j
      have e1 : 2 ^ (j + 1) * 2 ^ xbl m = 2 ^ j * 2 ^ xbl m * 2 := by rw [Nat.pow_succ, Nat.mul_right_comm]
      have e2 : m * 2 ^ (j + 1 + 1) = m * 2 ^ (j + 1) * 2 := by rw [Nat.pow_succ 2 (j + 1), Nat.mul_assoc]
      rw [e1, e2, ncmp_sc (by decide)]
theorem gU_far {m : Nat} {cut sg mode odd : Int} (h : far mode sg = false) : gU m cut 0 sg mode odd = false := by
  unfold far at h
  rw [Bool.or_eq_false_iff] at h
  have hm : mode ≠ 0 := of_decide_eq_false h.1
  unfold gU
  split
  · rfl
  · first | exact h.2 | (rw [if_neg hm]; exact h.2)
theorem rq_ev {m : Nat} {cut : Int} (hm : m ≠ 0) (h : rq m cut ≠ 0) : (xbl (rq m cut) : Int) = xbl m - cut := by
  unfold rq at h ⊢
  by_cases c : 0 < cut
  · rw [if_pos c] at h ⊢
    have g : xbl (m / 2 ^ cut.toNat) ≠ 0 := fun z => h (xbl_nz.mp z)
    rw [xbl_div] at g ⊢
    omega
  · rw [if_neg c, xbl_pow _ _ hm]
    omega
theorem rq_way {m : Nat} {cut sg mode : Int} : ncmp (rq1 m cut 0 sg mode * 2 ^ (max 0 cut).toNat) (m * 2 ^ (max 0 (-cut)).toNat) = rway (rE m cut 0) (rG m cut 0 sg mode) := by
  unfold rq1 rE rG rq
  by_cases c : 0 < cut
  · rw [if_pos c, decide_eq_true c, Bool.true_and, Bool.true_and, show (max 0 cut).toNat = cut.toNat by omega, show (max 0 (-cut)).toNat = 0 by omega, Nat.pow_zero, Nat.mul_one]
    have e := Nat.div_add_mod m (2 ^ cut.toNat)
    have l := Nat.mod_lt m (Nat.two_pow_pos cut.toNat)
    by_cases z : m % 2 ^ cut.toNat = 0
    · have n : nany m cut = false := nany_f z
      have g : gU m cut 0 sg mode (bb (nbit m cut)) = false := by unfold gU; rw [if_pos ⟨rfl, n⟩]
      rw [n, g]
      show ncmp ((m / 2 ^ cut.toNat + 0) * 2 ^ cut.toNat) m = 0
      rw [z, Nat.mul_comm] at e
      exact ncmp_eq.mpr (by rw [Nat.add_zero]; omega)
    · have n : nany m cut = true := nany_t z
      rw [n]
      rw [Nat.mul_comm] at e
      cases gU m cut 0 sg mode (bb (nbit m cut))
      · show ncmp ((m / 2 ^ cut.toNat + 0) * 2 ^ cut.toNat) m = -1
        exact ncmp_l (by rw [Nat.add_zero]; omega)
      · show ncmp ((m / 2 ^ cut.toNat + 1) * 2 ^ cut.toNat) m = 1
        exact ncmp_g (by rw [Nat.add_mul]; omega)
  · rw [if_neg c, decide_eq_false c, Bool.false_and, Bool.false_and, show (max 0 cut).toNat = 0 by omega, show (max 0 (-cut)).toNat = (-cut).toNat by omega, Nat.pow_zero, Nat.mul_one]
    exact ncmp_eq.mpr rfl
/-- the way by the result -/
def wyK (k T : Int) (M : Nat) (x : Int) (m : Nat) : Int := if k = 1 then 1 else if k = 2 then -1 else cM T M x m
theorem rD_cm {p least greatest gradual sg mode e f k T wy f1 : Int} {m Mn : Nat} (hm : m ≠ 0) (hp : 2 ≤ p)
    (h : rD p least greatest gradual 0 sg mode (xbl m + e) 0 m (rq1 m (rU p least gradual 0 (xbl m + e) - e) 0 sg mode) (rU p least gradual 0 (xbl m + e)) (rway (rE m (rU p least gradual 0 (xbl m + e) - e) 0) (rG m (rU p least gradual 0 (xbl m + e) - e) 0 sg mode)) f = (k, T, Mn, wy, f1)) : wy = wyK k T Mn (xbl m + e) m ∧ (wy ≠ 0 ∨ f1 = f) := by
  obtain ⟨x, hx⟩ : ∃ x : Int, x = xbl m + e := ⟨_, rfl⟩
  rw [← hx] at h ⊢
  obtain ⟨u, hu⟩ : ∃ u : Int, u = rU p least gradual 0 x := ⟨_, rfl⟩
  rw [← hu] at h
  have hux : x - p ≤ u := by rw [hu]; unfold rU; split <;> omega
  have hug : gradual = 0 → u = x - p := by
    intro g
    rw [hu]; unfold rU
    exact if_neg (fun c => c.2.1 g)
  obtain ⟨q, hq⟩ : ∃ q : Nat, q = rq1 m (u - e) 0 sg mode := ⟨_, rfl⟩
  have hway := rq_way (m := m) (cut := u - e) (sg := sg) (mode := mode)
  rw [← hq] at h hway
  rw [← hway] at h
  have hge := rq1_ge (m := m) (cut := u - e) (more := 0) (sg := sg) (mode := mode) hm
  rw [← hq] at hge
  unfold rD at h
  by_cases c1 : (0 : Int) = 0 ∧ q ≠ 0 ∧ greatest < xbl q + u
  · rw [if_pos c1] at h
    by_cases c2 : far mode sg = true
    · rw [if_pos c2] at h
      injection h with h1 h; injection h with h2 h; injection h with h3 h; injection h with h4 h5
      subst h1 h4
      exact ⟨rfl, Or.inl (by decide)⟩
    · rw [if_neg c2] at h
      injection h with h1 h; injection h with h2 h; injection h with h3 h; injection h with h4 h5
      subst h1 h4
      refine ⟨?_, Or.inl (by decide)⟩
      have g : rG m (u - e) 0 sg mode = false := by
        unfold rG
        rw [gU_far (Bool.eq_false_iff.mpr c2), Bool.and_false]
      have hqq : q = rq m (u - e) := by rw [hq]; unfold rq1; rw [g]; rfl
      have hev := rq_ev (m := m) (cut := u - e) hm (by rw [← hqq]; exact c1.2.1)
      rw [← hqq] at hev
      have hon : xbl (2 ^ p.toNat - 1) = p.toNat := xbl_ones _
      unfold wyK cM
      rw [if_neg (by decide), if_neg (by decide), if_pos (by omega), if_neg (by omega)]
  · rw [if_neg c1] at h
    by_cases c2 : q = 0
    · rw [if_pos c2] at h
      injection h with h1 h; injection h with h2 h; injection h with h3 h; injection h with h4 h5
      subst h1 h4
      exact ⟨rfl, Or.inl (by decide)⟩
    · rw [if_neg c2] at h
      by_cases c3 : (0 : Int) = 0 ∧ gradual = 0 ∧ (xbl q : Int) + u < least
      · rw [if_pos c3] at h
        by_cases c4 : upU m x least 0 sg mode = true
        · rw [if_pos c4] at h
          injection h with h1 h; injection h with h2 h; injection h with h3 h; injection h with h4 h5
          subst h1 h4
          refine ⟨?_, Or.inl (by decide)⟩
          have o1 : xbl 1 = 1 := rfl
          unfold wyK cM
          rw [if_neg (by decide), if_neg (by decide), if_pos (by omega), if_pos (by omega)]
        · rw [if_neg c4] at h
          injection h with h1 h; injection h with h2 h; injection h with h3 h; injection h with h4 h5
          subst h1 h4
          exact ⟨rfl, Or.inl (by decide)⟩
      · rw [if_neg c3] at h
        injection h with h1 h; injection h with h2 h; injection h with h3 h; injection h with h4 h5
        refine ⟨?_, Or.inr h5.symm⟩
        have hqb : (xbl q : Int) ≤ p ∨ q = 2 ^ p.toNat := by
          have b1 : xbl (rq m (u - e)) ≤ p.toNat := rq_b (by omega)
          have b2 : rq m (u - e) < 2 ^ p.toNat := Nat.lt_of_lt_of_le (xbl_lt _) (Nat.pow_le_pow_right (by decide) b1)
          have b3 : q ≤ 2 ^ p.toNat := by
            rw [hq]
            have := bb_01 (rG m (u - e) 0 sg mode)
            unfold rq1
            omega
          rcases Nat.lt_or_ge q (2 ^ p.toNat) with b | b
          · left
            have := xbl_le b
            omega
          · right; omega
        rw [← h1, ← h2, ← h3, ← h4]
        unfold wyK
        rw [if_neg (by decide), if_neg (by decide), cM_nrm (by omega) hqb]
        exact (cM_v (ea := u) (eb := e) c2 hm rfl hx (by omega)).symm
theorem rnd_cm {p least greatest gradual sg mode e f k T t F : Int} {m M : Nat} (hm : m ≠ 0) (hp : 2 ≤ p) (hf : -2147483648 ≤ f ∧ f < 2147483648) (h : rnd p least greatest gradual 0 sg mode 0 m e f = (k, T, M, t, F)) : t = (if sg = 0 then wyK k T M (xbl m + e) m else -wyK k T M (xbl m + e) m) ∧ whF f F t = F := by
  obtain ⟨⟨k', T', M', wy, f1⟩, hD⟩ : ∃ o, rD p least greatest gradual 0 sg mode (xbl m + e) 0 m (rq1 m (rU p least gradual 0 (xbl m + e) - e) 0 sg mode) (rU p least gradual 0 (xbl m + e)) (rway (rE m (rU p least gradual 0 (xbl m + e) - e) 0) (rG m (rU p least gradual 0 (xbl m + e) - e) 0 sg mode)) f = o := ⟨_, rfl⟩
  have hr := rnd_eq (p := p) (least := least) (greatest := greatest) (gradual := gradual) (sg := sg) (mode := mode) (more := 0) (e := e) (f := f) rfl rfl rfl rfl hD
  rw [h] at hr
  injection hr with h1 hr; injection hr with h2 hr; injection hr with h3 hr; injection hr with h4 h5
  obtain ⟨g1, g2⟩ := rD_cm hm hp hD
  rw [← h1, ← h2, ← h3] at g1
  refine ⟨by rw [h4, g1], ?_⟩
  by_cases c : wy = 0
  · have e1 : f1 = f := g2.resolve_left (fun g => g c)
    have e2 : F = f := by rw [h5]; unfold rFl; rw [if_neg (by omega)]; exact e1
    have e3 : t = 0 := by rw [h4]; split <;> omega
    rw [e2, e3, whF_0 hf]
  · have e3 : t ≠ 0 := by rw [h4]; split <;> omega
    rw [whF_1 e3, h5]
    unfold rFl
    rw [if_pos c, zor_11]
theorem ordR_k {k sg T x : Int} {M m : Nat} (hk : 1 ≤ k ∧ k ≤ 3) (hs : sg = 0 ∨ sg = 1) : ordR k sg T M 3 sg x m = if sg = 0 then wyK k T M x m else -wyK k T M x m := by
  rcases (show k = 1 ∨ k = 2 ∨ k = 3 by omega) with c | c | c <;> rcases hs with d | d <;> subst c <;> subst d
  · rfl
  · rfl
  · rfl
  · rfl
  · show (if T ≠ x then (if x < T then (1 : Int) else -1) else 1 * ncmp (M * 2 ^ xbl m) (m * 2 ^ xbl M)) = cM T M x m
    unfold cM
    split
    · rfl
    · omega
  · show (if T ≠ x then (if x < T then (-1 : Int) else - -1) else -1 * ncmp (M * 2 ^ xbl m) (m * 2 ^ xbl M)) = -cM T M x m
    unfold cM
    split
    · split <;> rfl
    · omega
/-- outcomes that a register cannot tell apart -/
def eqO (o o' : OO) : Prop := o.1 = o'.1 ∧ (o.1 ≠ 0 → o.2.1 = o'.2.1) ∧ (o.1 = 3 → o.2.2.1 = o'.2.2.1 ∧ o.2.2.2.1 = o'.2.2.2.1) ∧ o.2.2.2.2.1 = o'.2.2.2.2.1 ∧ o.2.2.2.2.2 = o'.2.2.2.2.2
theorem eqO.rf {o : OO} : eqO o o := ⟨rfl, fun _ => rfl, fun _ => ⟨rfl, rfl⟩, rfl, rfl⟩
theorem oP_eqO {S S' : Nat → Nat → Int} {V V' : Nat → Nat} {r : Nat} {o o' : OO} (h : oP S S' V V' r o) (g : eqO o o') : oP S S' V V' r o' := by
  obtain ⟨h1, h2, h3, h4, h5, h6, h7, h8⟩ := h
  obtain ⟨g1, g2, g3, g4, g5⟩ := g
  refine ⟨h1.trans g1, fun c => (h2 (by rw [g1]; exact c)).trans (g2 (by rw [g1]; exact c)), h3, ⟨fun c => ?_, fun c => h4.2 (by rw [g1]; exact c)⟩, h5.trans g5, h6, h7, h8⟩
  have c' : o.1 = 3 := g1.trans c
  exact ⟨(h4.1 c').1.trans (g3 c').1, (h4.1 c').2.trans (g3 c').2⟩
theorem whM_ex {m : Nat} {e sg way : Int} (h : (decide (e < 0) && nany m (-e)) = false) : (0 ≤ e ∧ whM m e sg way = m ∧ rtiS e = e) ∨ (e < 0 ∧ m = whM m e sg way * 2 ^ (-e).toNat ∧ rtiS e = 0) := by
  unfold whM rtiS
  by_cases c : e < 0
  · right
    rw [if_pos c, if_pos c]
    rw [decide_eq_true c, Bool.true_and] at h
    have z : m % 2 ^ (-e).toNat = 0 := by
      rcases Nat.eq_zero_or_pos (m % 2 ^ (-e).toNat) with g | g
      · exact g
      · rw [nany_t (by omega)] at h; exact absurd h (by decide)
    have h' : nany m (0 - e) = false := by rw [show (0 : Int) - e = -e by omega]; exact h
    have g : goI m (0 - e) sg way = false := by
      unfold goI
      split
      · exact nbit_any h'
      · unfold gU; rw [if_pos ⟨rfl, h'⟩]
    have d := Nat.div_add_mod m (2 ^ (-e).toNat)
    refine ⟨c, ?_, rfl⟩
    rw [g]
    show m = (m / 2 ^ (-e).toNat + 0) * 2 ^ (-e).toNat
    rw [Nat.add_zero, Nat.mul_comm]
    omega
  · left
    rw [if_neg c, if_neg c]
    exact ⟨by omega, rfl, rfl⟩
theorem wh_same {S : Nat → Nat → Int} {V : Nat → Nat} {r a : Nat} {way mode : Int} (hk : 0 ≤ S 154 a ∧ S 154 a ≤ 3) (hs : S 156 a = 0 ∨ S 156 a = 1) (hb : S 154 a = 3 → (xbl (V (160 + 2 * a)) : Int) = S 153 a) (hpa : 2 ≤ S 153 a) (hp : 2 ≤ S 153 r ∧ S 153 r ≤ 4096) (hl : -16384 ≤ S 128 17 ∧ S 128 17 ≤ S 128 18 ∧ S 128 18 ≤ 16384) (hf : -2147483648 ≤ S 128 19 ∧ S 128 19 < 2147483648) : eqO (sWhC S V r a way mode) (sWhR S V r a way mode) := by
  unfold sWhC sWhR
  by_cases k3 : S 154 a ≠ 3
  · rw [if_pos k3, if_pos k3]
    refine ⟨rfl, fun c => ?_, fun _ => ⟨rfl, rfl⟩, rfl, rfl⟩
    have c' : ¬ S 154 a = 0 := c
    show S 156 a = if S 154 a = 0 then 0 else S 156 a
    rw [if_neg c']
  · rw [if_neg k3, if_neg k3]
    have hb := hb (by omega)
    obtain ⟨m, hm⟩ : ∃ m : Nat, m = V (160 + 2 * a) := ⟨_, rfl⟩
    obtain ⟨T, hT⟩ : ∃ T : Int, T = S 155 a := ⟨_, rfl⟩
    obtain ⟨sg, hsg⟩ : ∃ T : Int, T = S 156 a := ⟨_, rfl⟩
    obtain ⟨f, hff⟩ : ∃ T : Int, T = S 128 19 := ⟨_, rfl⟩
    rw [← hsg] at hs
    rw [← hff] at hf
    rw [← hm] at hb
    rw [← hm, ← hT, ← hsg, ← hff]
    have hm0 : m ≠ 0 := by
      intro z
      rw [z, xbl_zero] at hb
      omega
    obtain ⟨e, he⟩ : ∃ e : Int, e = T - S 153 a := ⟨_, rfl⟩
    rw [← he]
    unfold whQ
    by_cases x0 : whM m e sg way = 0
    · rw [if_pos x0, if_pos x0]
      have t1 : whT (oS 2 sg f) sg T m = if sg = 0 then -1 else 1 := by
        show ordR 2 sg 0 0 3 sg T m = _
        rw [ordR_k (by decide) hs]
        rfl
      refine ⟨rfl, fun _ => rfl, fun _ => ⟨rfl, rfl⟩, t1, ?_⟩
      show whF f f (whT (oS 2 sg f) sg T m) = zor f 1
      exact whF_1 (by rw [t1]; split <;> decide)
    · rw [if_neg x0, if_neg x0]
      obtain ⟨⟨k, T', M', t, F⟩, ho⟩ : ∃ o, rnd (S 153 r) (S 128 17) (S 128 18) (S 128 20) 0 sg mode 0 (whM m e sg way) (rtiS e) f = o := ⟨_, rfl⟩
      have hok := rnd_ok (p := S 153 r) (least := S 128 17) (greatest := S 128 18) (gradual := S 128 20) (sg := sg) (mode := mode) (more := 0) (e := rtiS e) (f := f) (m := whM m e sg way) hp hl
      have hcm := rnd_cm x0 hp.1 hf ho
      have hoR : oR (S 153 r) (S 128 17) (S 128 18) (S 128 20) sg mode 0 (whM m e sg way) (rtiS e) f = (k, sg, T', M', t, F) := by unfold oR; rw [ho]
      rw [ho] at hok
      obtain ⟨o1, o2, o3⟩ := hok
      dsimp only at o1 o2 o3
      rw [hoR]
      have hwT : whT (k, sg, T', M', t, F) sg T m = if sg = 0 then wyK k T' M' T m else -wyK k T' M' T m := ordR_k o1 hs
      unfold whR
      rcases Bool.eq_false_or_eq_true (decide (e < 0) && nany m (-e)) with c | c
      · rw [c, if_neg (by decide)]
        by_cases k2 : k = 2
        · subst k2
          rw [if_pos (show ((2 : Int), sg, T', M', t, F).1 = 2 from rfl)]
          have t1 : whT ((2 : Int), sg, T', M', t, F) sg T m = if sg = 0 then -1 else 1 := by
            rw [hwT]; rfl
          refine ⟨rfl, fun _ => rfl, fun _ => ⟨rfl, rfl⟩, t1, ?_⟩
          exact whF_1 (by rw [t1]; split <;> decide)
        · rw [if_neg (show ¬ (k, sg, T', M', t, F).1 = 2 from k2)]
          by_cases k1 : k = 1
          · subst k1
            rw [if_pos (show ((1 : Int), sg, T', M', t, F).1 = 1 from rfl)]
            have t1 : whT ((1 : Int), sg, T', M', t, F) sg T m = if sg = 0 then 1 else -1 := by
              rw [hwT]; rfl
            refine ⟨rfl, fun _ => rfl, fun _ => ⟨rfl, rfl⟩, t1, ?_⟩
            exact whF_1 (by rw [t1]; split <;> decide)
          · rw [if_neg (show ¬ (k, sg, T', M', t, F).1 = 1 from k1)]
            have kk : k = 3 := by omega
            have hM' := o3 kk
            have hM0 : M' ≠ 0 := by
              intro z
              rw [z, xbl_zero] at hM'
              omega
            have hw : wyK k T' M' T m = whC T' (S 153 r) M' e m := by
              unfold wyK whC
              rw [if_neg k1, if_neg k2]
              exact cM_v (ea := T' - S 153 r) (eb := e) hM0 hm0 (by omega) (by omega) (by omega)
            rw [hw] at hwT
            refine ⟨rfl, fun _ => rfl, fun _ => ⟨rfl, rfl⟩, hwT, ?_⟩
            show whF f F (whT (k, sg, T', M', t, F) sg T m) = if whC T' (S 153 r) M' e m = 0 ∧ zand f 1 = 0 then zand (zor F 1) (-2) else zor F 1
            by_cases z : whC T' (S 153 r) M' e m = 0
            · have tz : whT (k, sg, T', M', t, F) sg T m = 0 := by rw [hwT, z]; split <;> rfl
              rw [tz, whF_C]
              by_cases y : zand f 1 = 0
              · rw [if_pos y, if_pos ⟨z, y⟩]
              · rw [if_neg y, if_neg (fun c => y c.2)]
            · have tz : whT (k, sg, T', M', t, F) sg T m ≠ 0 := by rw [hwT]; split <;> omega
              rw [whF_1 tz, if_neg (fun c => z c.1)]
      · rw [c, if_pos rfl]
        have hx : wyK k T' M' (xbl (whM m e sg way) + rtiS e) (whM m e sg way) = wyK k T' M' T m := by
          rcases whM_ex (sg := sg) (way := way) c with ⟨g1, g2, g3⟩ | ⟨g1, g2, g3⟩
          · rw [g2, g3, show (xbl m : Int) + e = T by omega]
          · rw [g3]
            have hb2 : xbl m = xbl (whM m e sg way) + (-e).toNat := by
              have := xbl_pow (whM m e sg way) (-e).toNat x0
              rw [← g2] at this
              exact this
            rw [show (xbl (whM m e sg way) : Int) + 0 = T by omega]
            unfold wyK cM
            split
            · rfl
            · split
              · rfl
              · split
                · rfl
                · rw [hb2]
                  generalize whM m e sg way = X at g2
                  rw [g2, Nat.pow_add, ← Nat.mul_assoc, Nat.mul_right_comm X, ncmp_sc (Nat.two_pow_pos _)]
        obtain ⟨q1, q2⟩ := hcm
        rw [hx] at q1
        rw [← q1] at hwT
        refine ⟨rfl, fun _ => rfl, fun _ => ⟨rfl, rfl⟩, hwT, ?_⟩
        show whF f F (whT (k, sg, T', M', t, F) sg T m) = F
        rw [hwT]
        exact q2
