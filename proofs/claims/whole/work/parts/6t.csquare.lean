/-! setSquare of the class's naturals -/
theorem o_shl1 (x : Int) : Int32.ofInt x <<< ((1 : Int32) &&& 31) = Int32.ofInt (2 * x) := by
  apply xun_inj
  rw [xshl_n (by decide) (by decide)]
  have h1 := xun_m x
  have h2 := xun_m (2 * x)
  show xun (Int32.ofInt x) * 2 ^ 1 % 4294967296 = _
  omega
theorem o_or1 {x z : Int} (hz : z = 0 ∨ z = 1) : Int32.ofInt (2 * x) ||| Int32.ofInt z = Int32.ofInt (2 * x + z) := by
  apply xun_inj
  have h1 := xun_m (2 * x)
  have h2 := xun_m (2 * x + z)
  have e : ∃ y, xun (Int32.ofInt (2 * x)) = 2 ^ 1 * y := ⟨xun (Int32.ofInt (2 * x)) / 2, by omega⟩
  obtain ⟨y, hy⟩ := e
  rw [xun_or]
  rcases hz with g | g
  · subst g
    show xun (Int32.ofInt (2 * x)) ||| 0 = _
    rw [Nat.or_zero]
    omega
  · subst g
    show xun (Int32.ofInt (2 * x)) ||| 1 = _
    rw [hy, ← Nat.two_pow_add_eq_or_of_lt (by decide)]
    omega
theorem o_ushr31 (x : Int) : (((Int32.ofInt x).toUInt32 >>> ((31 : Int32).toUInt32 &&& Int32.toUInt32 31)).toInt32) = Int32.ofInt (x % 4294967296 / 2147483648) := by
  apply xun_inj
  rw [xushr_n (by decide) (by decide)]
  have h1 := xun_m x
  have h2 := xun_m (x % 4294967296 / 2147483648)
  show xun (Int32.ofInt x) / 2 ^ 31 = _
  omega
theorem cv_split {s : Nat → Int} {t k : Nat} : cv s (t + k) = cv s t + cv (fun j => s (t + j)) k * 2 ^ (32 * t) := by
  induction k with
  | zero =>
    show cv s t = cv s t + 0 * _
    rw [Nat.zero_mul, Nat.add_zero]
  | succ k ih =>
    show cv s (t + k) + cw s (t + k) * 2 ^ (32 * (t + k)) = cv s t + (cv (fun j => s (t + j)) k + cw s (t + k) * 2 ^ (32 * k)) * 2 ^ (32 * t)
    rw [ih, Nat.add_mul, Nat.mul_assoc (cw s (t + k)), ← Nat.pow_add, show 32 * k + 32 * t = 32 * (t + k) by omega, Nat.add_assoc]
/-- the products of two words, and the squares -/
def sqP (a : Nat → Int) (n : Nat) : Nat → Nat
  | 0 => 0
  | i + 1 => sqP a n i + cv (fun k => a (i + 1 + k)) (n - (i + 1)) * cw a i * 2 ^ (32 * (i + (i + 1)))
def sqQ (a : Nat → Int) : Nat → Nat
  | 0 => 0
  | i + 1 => sqQ a i + cw a i * cw a i * 2 ^ (32 * (2 * i))
theorem sq_alg {A0 B0 c x R U : Nat} (hU : U = c + x + R) (ih : 2 * A0 + B0 + c * c = 2 * (U * c)) : 2 * (A0 + x * R) + (B0 + x * x) + (c + x) * (c + x) = 2 * (U * (c + x)) := by
  have h1 : (c + x) * (c + x) = c * c + 2 * (c * x) + x * x := by
    rw [Nat.add_mul, Nat.mul_add, Nat.mul_add, Nat.mul_comm x c]
    omega
  have h2 : U * (c + x) = U * c + (c * x + x * x + x * R) := by
    rw [Nat.mul_add]
    congr 1
    rw [hU, Nat.add_mul, Nat.add_mul, Nat.mul_comm R x]
  rw [h1, h2]
  omega
theorem sq_sum {a : Nat → Int} {n : Nat} : ∀ i, i ≤ n → 2 * sqP a n i + sqQ a i + cv a i * cv a i = 2 * (cv a n * cv a i) := by
  intro i
  induction i with
  | zero => intro _; rfl
  | succ i ih =>
    intro hi
    have e1 : cv a n = cv a i + cw a i * 2 ^ (32 * i) + cv (fun k => a (i + 1 + k)) (n - (i + 1)) * 2 ^ (32 * (i + 1)) := by
      have := cv_split (s := a) (t := i + 1) (k := n - (i + 1))
      rw [show i + 1 + (n - (i + 1)) = n by omega] at this
      exact this
    have e2 : sqP a n (i + 1) = sqP a n i + (cw a i * 2 ^ (32 * i)) * (cv (fun k => a (i + 1 + k)) (n - (i + 1)) * 2 ^ (32 * (i + 1))) := by
      show sqP a n i + cv (fun k => a (i + 1 + k)) (n - (i + 1)) * cw a i * 2 ^ (32 * (i + (i + 1))) = _
      rw [show 32 * (i + (i + 1)) = 32 * i + 32 * (i + 1) by omega, Nat.pow_add]
      generalize cv (fun k => a (i + 1 + k)) (n - (i + 1)) = T
      generalize 2 ^ (32 * (i + 1)) = P1
      generalize 2 ^ (32 * i) = P2
      rw [Nat.mul_comm T, Nat.mul_mul_mul_comm]
    have e3 : sqQ a (i + 1) = sqQ a i + (cw a i * 2 ^ (32 * i)) * (cw a i * 2 ^ (32 * i)) := by
      show sqQ a i + cw a i * cw a i * 2 ^ (32 * (2 * i)) = _
      rw [show 32 * (2 * i) = 32 * i + 32 * i by omega, Nat.pow_add]
      generalize 2 ^ (32 * i) = P2
      rw [Nat.mul_mul_mul_comm]
    have e4 : cv a (i + 1) = cv a i + cw a i * 2 ^ (32 * i) := rfl
    rw [e2, e3, e4]
    exact sq_alg e1 (ih (by omega))
theorem sq_step {y ab cl ch o x1 x2 : Nat} (hy : y ≤ 2) (hab : ab ≤ 1) (h1 : cl < 4294967296) (h2 : ch < 4294967296) (ho : o < 18446744073709551616) (e1 : x1 = y + ((2 * cl + ab) % 4294967296 + o % 4294967296)) (e2 : x2 = x1 / 4294967296 + (2 * ch + cl / 2147483648) % 4294967296 + o / 4294967296) :
    x1 % 4294967296 + x2 % 4294967296 * 4294967296 + (x2 / 4294967296 + ch / 2147483648) * 18446744073709551616 = y + ab + 2 * cl + 2 * ch * 4294967296 + o ∧ x2 / 4294967296 ≤ 2 := by omega
theorem sq_alg2 {E F P a R x1 x2 q y cl ch o : Nat} (hE : x1 + x2 * 4294967296 + q * 18446744073709551616 = y + 2 * cl + 2 * ch * 4294967296 + o) (hv : a + y * P = R) : a + x1 * P + x2 * (4294967296 * P) + q * (4294967296 * (4294967296 * P)) = R + 2 * (cl * P) + 2 * (ch * (4294967296 * P)) + o * P := by
  have e := congrArg (· * P) hE
  simp only [Nat.add_mul] at e
  rw [show q * (4294967296 * (4294967296 * P)) = q * 18446744073709551616 * P by rw [Nat.mul_assoc, ← Nat.mul_assoc 4294967296], show x2 * (4294967296 * P) = x2 * 4294967296 * P by rw [Nat.mul_assoc], show ch * (4294967296 * P) = ch * 4294967296 * P by rw [Nat.mul_assoc]]
  have e2 : 2 * cl * P = 2 * (cl * P) := Nat.mul_assoc _ _ _
  have e3 : 2 * ch * 4294967296 * P = 2 * (ch * 4294967296 * P) := by rw [Nat.mul_assoc 2, Nat.mul_assoc 2]
  omega
section
variable {w0 w : xW} {L Z : Nat} {A C B : Nat → Nat} {S S0 : Nat → Nat → Int} {V : Nat → Nat} {h ha r d : Nat} {v p : Int}
theorem sq1_loop (hc : kd h = 3) (hca : kd ha = 3) (hnea : ha ≠ h) {n : Nat} {a : Nat → Int} (hnm : n + n ≤ C h) (hn : n ≤ C ha) {Q : Option Value ⊕ Nat → xW → Prop} : ∀ (t : Nat) {i : Nat} {lv : xLv} {w : xW} {S : Nat → Nat → Int}, cR w0 L Z A C B S w → S ha 1 = n → (∀ j, j < n → S (ha + 1) j = a j) → i + t = n → cv (S (h + 1)) (i + n) = sqP a n i → (∀ j, i + n ≤ j → j < n + n → S (h + 1) j = 0) → xld lv 0 = some (.ref h) → xld lv 1 = some (.ref ha) → xld lv 2 = some (.int (Int32.ofInt (n : Int))) → xld lv 3 = some (.int (Int32.ofInt (i : Int))) →
    (∀ lv' w' S', cR w0 L Z A C B S' w' → (∀ b j, b ≠ h + 1 → S' b j = S b j) → cv (S' (h + 1)) (n + n) = sqP a n n → xld lv' 0 = some (.ref h) → xld lv' 1 = some (.ref ha) → xld lv' 2 = some (.int (Int32.ofInt (n : Int))) → xEv (d + 1) 80 64 lv' [] w' Q) → xEv (d + 1) 80 26 lv [] w Q := by
  have hza : ha ≠ h + 1 := fun g => by have := kd_c hc; rw [← g] at this; omega
  intro t
  induction t with
  | zero =>
    intro i lv w S hR n1 ea hi hv hz0 l0 l1 l2 l3 hQ
    have hcap := hR.cap hc
    have e1 : i = n := by omega
    subst e1
    refine i_80_26 l3 ?_
    refine i_80_27 l2 ?_
    refine i_80_28 (fun _ => ?_) (fun g => absurd g (by omega))
    exact hQ lv w S hR (fun _ _ _ => rfl) hv l0 l1 l2
  | succ t ih =>
    intro i lv w S hR n1 ea hi hv hz0 l0 l1 l2 l3 hQ
    have hcap := hR.cap hc
    have hcapa := hR.cap hca
    refine i_80_26 (x := Int32.ofInt (i : Int)) l3 ?_
    refine i_80_27 (x := Int32.ofInt (n : Int)) l2 ?_
    refine i_80_28 (b_le (a := (n : Int)) (b := (i : Int)) ⟨by omega, by omega⟩ ⟨by omega, by omega⟩ fun c0 => absurd c0 (by omega)) (b_lt (a := (i : Int)) (b := (n : Int)) ⟨by omega, by omega⟩ ⟨by omega, by omega⟩ fun c0 => ?_)
    refine i_80_31 (x := h) l0 ?_
    refine i_80_32 (v := Value.ref (A h)) (hR.n3 hc) rfl ?_
    refine i_80_35 (x := Int32.ofInt (i : Int)) l3 ?_
    refine i_80_36 (x := Int32.ofInt (n : Int)) l2 ?_
    refine i_80_37 (c := Int32.ofInt ((i : Int) + (n : Int))) (o_add (i : Int) (n : Int)) ?_
    refine i_80_38 (x := h) l0 ?_
    refine i_80_39 ?_
    refine i_80_40 (x := Int32.ofInt (i : Int)) l3 ?_
    refine i_80_41 (c := Int32.ofInt (2 * (i : Int))) (o_mul 2 (i : Int)) ?_
    refine i_80_42 ?_
    refine i_80_43 (c := Int32.ofInt ((2 * (i : Int)) + 1)) (o_add (2 * (i : Int)) 1) ?_
    refine i_80_44 (x := ha) l1 ?_
    refine i_80_45 (x := Int32.ofInt (i : Int)) l3 ?_
    refine i_80_46 ?_
    refine i_80_47 (c := Int32.ofInt ((i : Int) + 1)) (o_add (i : Int) 1) ?_
    refine i_80_48 (x := ha) l1 ?_
    refine i_80_49 (v := Value.ref (A ha)) (hR.n3 hca) rfl ?_
    refine i_80_52 (x := Int32.ofInt (i : Int)) l3 ?_
    refine i_80_53 (v := Value.int (Int32.ofInt (S (ha + 1) i))) (hR.w3 hca) (ix0 (T := (i : Int)) (by omega) (by omega)) (ix1 (T := (i : Int)) (by omega) (by omega) (by omega)) (ra (T := (i : Int)) (by omega) (by omega) (congrArg _ rfl)) ?_
    have hobj := hR.n3 hc
    obtain ⟨w, S1, y, hrun, hR, y1, y2, y3⟩ := c_addRow (d := d) (m := n) (f := i + 1) (q0 := i) (pl := (2 * (i : Int)) + 1) (fz := S (ha + 1) i) hR hc hca (Ne.symm hnea) n1 hn (by omega) (by omega) (by omega)
    replace n1 : S1 ha 1 = n := by rw [y2 _ _ (Or.inl (by omega))]; exact n1
    refine i_80_54 hobj (Nat.le_of_ble_eq_true rfl) hrun ?_
    refine i_80_57 (hR.w3 hc) (ix0 (T := (i : Int) + (n : Int)) (by omega) (by omega)) (ix1 (T := (i : Int) + (n : Int)) (by omega) (by omega) (by omega)) (hR.apart hc).2.2.2.2.1 rfl ?_
    rw [ixn (T := (i : Int) + (n : Int)) (by omega) (by omega), show ((i : Int) + (n : Int)).toNat = i + n from (by omega)]
    refine xgen (P := cR w0 L Z A C B (u2 S1 (h + 1) (i + n) (y : Int))) (hR.arr hc rfl) (fun w hR => ?_)
    replace n1 : (u2 S1 (h + 1) (i + n) (y : Int)) ha 1 = ((n : Nat) : Int) := by rw [u2_n (by omega)]; exact n1
    refine i_80_58 (x := (Int32.ofInt (i : Int))) (c := (Int32.ofInt ((i : Int) + 1))) l3 (o_add (i : Int) 1) rfl ?_
    refine lgen1 (i := 3) (v := Value.int (Int32.ofInt ((i : Int) + 1))) (fun lv lg ls => ?_)
    replace l0 := lg 0 _ rfl rfl l0
    replace l1 := lg 1 _ rfl rfl l1
    replace l2 := lg 2 _ rfl rfl l2
    have l3 := ls
    refine i_80_61 ?_
    refine ih (i := i + 1) hR n1 (fun j hj => by rw [u2_n (by omega), y2 _ _ (Or.inl (by omega))]; exact ea j hj) (by omega) ?_ (fun j g1 g2 => by rw [u2_s, u1_n (by omega), y2 _ _ (by omega)]; exact hz0 j (by omega) g2) l0 l1 l2 l3 (fun lv' w' S' q1 q2 q3 q4 q5 q6 => hQ lv' w' S' q1 (fun b j hb => by rw [q2 b j hb, u2_n hb, y2 _ _ (Or.inl hb)]) q3 q4 q5 q6)
    have en : i + 1 + n = i + n + 1 := by omega
    rw [en, u2_s, cv_set rfl, Nat.mod_eq_of_lt y1, y3, hv]
    show _ = sqP a n i + cv (fun k => a (i + 1 + k)) (n - (i + 1)) * cw a i * 2 ^ (32 * (i + (i + 1)))
    rw [show cv (fun k => S (ha + 1) (i + 1 + k)) (n - (i + 1)) = cv (fun k => a (i + 1 + k)) (n - (i + 1)) from cv_same (fun j hj => ea _ (by omega)), show (S (ha + 1) i % 4294967296).toNat = cw a i by unfold cw; rw [ea i (by omega)]]
theorem sq2_loop (hc : kd h = 3) (hca : kd ha = 3) (hnea : ha ≠ h) {n : Nat} {a s0 : Nat → Int} (hnm : n + n ≤ C h) (hn : n ≤ C ha) {Q : Option Value ⊕ Nat → xW → Prop} : ∀ (t : Nat) {i y ab : Nat} {lv : xLv} {w : xW} {S : Nat → Nat → Int}, cR w0 L Z A C B S w → (∀ j, j < n → S (ha + 1) j = a j) → (∀ j, 2 * i ≤ j → S (h + 1) j = s0 j) → y ≤ 2 → ab ≤ 1 → i + t = n → cv (S (h + 1)) (2 * i) + (y + ab) * 2 ^ (32 * (2 * i)) = 2 * cv s0 (2 * i) + sqQ a i → xld lv 0 = some (.ref h) → xld lv 1 = some (.ref ha) → xld lv 2 = some (.int (Int32.ofInt (n : Int))) → xld lv 3 = some (.long (Int64.ofInt (y : Int))) → xld lv 5 = some (.int (Int32.ofInt (ab : Int))) → xld lv 6 = some (.int (Int32.ofInt (i : Int))) →
    (∀ lv' y' w' S', cR w0 L Z A C B S' w' → (∀ b j, b ≠ h + 1 → S' b j = S b j) → cv (S' (h + 1)) (2 * n) + y' * 2 ^ (32 * (2 * n)) = 2 * cv s0 (2 * n) + sqQ a n → xld lv' 0 = some (.ref h) → xld lv' 2 = some (.int (Int32.ofInt (n : Int))) → xEv d 80 220 lv' [] w' Q) → xEv d 80 72 lv [] w Q := by
  have hza : ha ≠ h + 1 := fun g => by have := kd_c hc; rw [← g] at this; omega
  intro t
  induction t with
  | zero =>
    intro i y ab lv w S hR ea hs0 hy hab hi hv l0 l1 l2 l3 l5 l6 hQ
    have hcap := hR.cap hc
    have e1 : i = n := by omega
    subst e1
    refine i_80_72 l6 ?_
    refine i_80_74 l2 ?_
    refine i_80_75 (fun _ => ?_) (fun g => absurd g (by omega))
    exact hQ lv (y + ab) w S hR (fun _ _ _ => rfl) hv l0 l2
  | succ t ih =>
    intro i y ab lv w S hR ea hs0 hy hab hi hv l0 l1 l2 l3 l5 l6 hQ
    have hcap := hR.cap hc
    have hcapa := hR.cap hca
    have b0 : cw (S (ha + 1)) i < 4294967296 := cw_lt
    have b1 : cw (S (h + 1)) (2 * i) < 4294967296 := cw_lt
    have b2 : cw (S (h + 1)) (2 * i + 1) < 4294967296 := cw_lt
    refine i_80_72 (x := Int32.ofInt (i : Int)) l6 ?_
    refine i_80_74 (x := Int32.ofInt (n : Int)) l2 ?_
    refine i_80_75 (b_le (a := (n : Int)) (b := (i : Int)) ⟨by omega, by omega⟩ ⟨by omega, by omega⟩ fun c0 => absurd c0 (by omega)) (b_lt (a := (i : Int)) (b := (n : Int)) ⟨by omega, by omega⟩ ⟨by omega, by omega⟩ fun c0 => ?_)
    refine i_80_78 (x := ha) l1 ?_
    refine i_80_79 (v := Value.ref (A ha)) (hR.n3 hca) rfl ?_
    refine i_80_82 (x := Int32.ofInt (i : Int)) l6 ?_
    refine i_80_84 (v := Value.int (Int32.ofInt (S (ha + 1) i))) (hR.w3 hca) (ix0 (T := (i : Int)) (by omega) (by omega)) (ix1 (T := (i : Int)) (by omega) (by omega) (by omega)) (ra (T := (i : Int)) (by omega) (by omega) (congrArg _ rfl)) ?_
    refine i_80_85 rfl ?_
    refine i_80_86 ?_
    refine i_80_89 (c := Int64.ofInt (cw (S (ha + 1)) i : Int)) (lowcw) ?_
    refine i_80_90 (x := ha) l1 ?_
    refine i_80_91 (v := Value.ref (A ha)) (hR.n3 hca) rfl ?_
    refine i_80_94 (x := Int32.ofInt (i : Int)) l6 ?_
    refine i_80_96 (v := Value.int (Int32.ofInt (S (ha + 1) i))) (hR.w3 hca) (ix0 (T := (i : Int)) (by omega) (by omega)) (ix1 (T := (i : Int)) (by omega) (by omega) (by omega)) (ra (T := (i : Int)) (by omega) (by omega) (congrArg _ rfl)) ?_
    refine i_80_97 rfl ?_
    refine i_80_98 ?_
    refine i_80_101 (c := Int64.ofInt (cw (S (ha + 1)) i : Int)) (lowcw) ?_
    refine i_80_102 (c := Int64.ofInt ((cw (S (ha + 1)) i : Int) * (cw (S (ha + 1)) i : Int))) (q_mul (cw (S (ha + 1)) i : Int) (cw (S (ha + 1)) i : Int)) ?_
    obtain ⟨o, ho⟩ : ∃ o : Nat, o = cw (S (ha + 1)) i * cw (S (ha + 1)) i := ⟨_, rfl⟩
    have ho2 : (cw (S (ha + 1)) i : Int) * (cw (S (ha + 1)) i : Int) = ((o : Nat) : Int) := by rw [ho, Int.natCast_mul]
    rw [ho2]
    have hob : o ≤ 4294967295 * 4294967295 := by rw [ho]; exact Nat.mul_le_mul (by omega) (by omega)
    refine i_80_103 rfl ?_
    refine lgen2 (i := 7) (v := Value.long (Int64.ofInt (o : Int))) (fun lv lg ls => ?_)
    replace l0 := lg 0 _ rfl rfl l0
    replace l1 := lg 1 _ rfl rfl l1
    replace l2 := lg 2 _ rfl rfl l2
    replace l3 := lg 3 _ rfl rfl l3
    replace l5 := lg 5 _ rfl rfl l5
    replace l6 := lg 6 _ rfl rfl l6
    have l7 := ls
    refine i_80_105 (x := h) l0 ?_
    refine i_80_106 (v := Value.ref (A h)) (hR.n3 hc) rfl ?_
    refine i_80_109 ?_
    refine i_80_110 (x := Int32.ofInt (i : Int)) l6 ?_
    refine i_80_112 (c := Int32.ofInt (2 * (i : Int))) (o_mul 2 (i : Int)) ?_
    refine i_80_113 (v := Value.int (Int32.ofInt (S (h + 1) (2 * i)))) (hR.w3 hc) (ix0 (T := 2 * (i : Int)) (by omega) (by omega)) (ix1 (T := 2 * (i : Int)) (by omega) (by omega) (by omega)) (ra (T := 2 * (i : Int)) (by omega) (by omega) (congrArg _ (by omega))) ?_
    obtain ⟨zl, hzl⟩ : ∃ zl, zl = S (h + 1) (2 * i) := ⟨_, rfl⟩
    rw [← hzl]
    obtain ⟨zh, hzh⟩ : ∃ zh, zh = S (h + 1) (2 * i + 1) := ⟨_, rfl⟩
    have hcl : cw (S (h + 1)) (2 * i) = (zl % 4294967296).toNat := by rw [hzl]; rfl
    have hch : cw (S (h + 1)) (2 * i + 1) = (zh % 4294967296).toNat := by rw [hzh]; rfl
    refine i_80_114 rfl ?_
    refine lgen1 (i := 9) (v := Value.int (Int32.ofInt zl)) (fun lv lg ls => ?_)
    replace l7 := lg 7 _ rfl rfl l7
    replace l0 := lg 0 _ rfl rfl l0
    replace l1 := lg 1 _ rfl rfl l1
    replace l2 := lg 2 _ rfl rfl l2
    replace l3 := lg 3 _ rfl rfl l3
    replace l5 := lg 5 _ rfl rfl l5
    replace l6 := lg 6 _ rfl rfl l6
    have l9 := ls
    refine i_80_116 (x := h) l0 ?_
    refine i_80_117 (v := Value.ref (A h)) (hR.n3 hc) rfl ?_
    refine i_80_120 ?_
    refine i_80_121 (x := Int32.ofInt (i : Int)) l6 ?_
    refine i_80_123 (c := Int32.ofInt (2 * (i : Int))) (o_mul 2 (i : Int)) ?_
    refine i_80_124 ?_
    refine i_80_125 (c := Int32.ofInt ((2 * (i : Int)) + 1)) (o_add (2 * (i : Int)) 1) ?_
    refine i_80_126 (v := Value.int (Int32.ofInt (S (h + 1) (2 * i + 1)))) (hR.w3 hc) (ix0 (T := (2 * (i : Int)) + 1) (by omega) (by omega)) (ix1 (T := (2 * (i : Int)) + 1) (by omega) (by omega) (by omega)) (ra (T := (2 * (i : Int)) + 1) (by omega) (by omega) (congrArg _ (by omega))) ?_
    rw [← hzh]
    refine i_80_127 rfl ?_
    refine lgen1 (i := 10) (v := Value.int (Int32.ofInt zh)) (fun lv lg ls => ?_)
    replace l9 := lg 9 _ rfl rfl l9
    replace l7 := lg 7 _ rfl rfl l7
    replace l0 := lg 0 _ rfl rfl l0
    replace l1 := lg 1 _ rfl rfl l1
    replace l2 := lg 2 _ rfl rfl l2
    replace l3 := lg 3 _ rfl rfl l3
    replace l5 := lg 5 _ rfl rfl l5
    replace l6 := lg 6 _ rfl rfl l6
    have l10 := ls
    refine i_80_129 (x := Int64.ofInt (y : Int)) l3 ?_
    refine i_80_130 (x := Int32.ofInt zl) l9 ?_
    refine i_80_132 ?_
    refine i_80_133 (c := Int32.ofInt (2 * zl)) (o_shl1 zl) ?_
    refine i_80_134 (x := Int32.ofInt (ab : Int)) l5 ?_
    refine i_80_136 (c := Int32.ofInt ((2 * zl) + (ab : Int))) (o_or1 (x := zl) (z := (ab : Int)) (by omega)) ?_
    refine i_80_137 rfl ?_
    refine i_80_138 ?_
    refine i_80_141 (c := Int64.ofInt (((2 * zl) + (ab : Int)) % 4294967296)) (lowz _) ?_
    refine i_80_142 (x := Int64.ofInt (o : Int)) l7 ?_
    refine i_80_144 ?_
    refine i_80_147 (c := Int64.ofInt ((o : Int) % 4294967296)) (q_mask32 (o : Int)) ?_
    refine i_80_148 (c := Int64.ofInt ((((2 * zl) + (ab : Int)) % 4294967296) + ((o : Int) % 4294967296))) (q_add (((2 * zl) + (ab : Int)) % 4294967296) ((o : Int) % 4294967296)) ?_
    refine i_80_149 (c := Int64.ofInt ((y : Int) + ((((2 * zl) + (ab : Int)) % 4294967296) + ((o : Int) % 4294967296)))) (q_add (y : Int) ((((2 * zl) + (ab : Int)) % 4294967296) + ((o : Int) % 4294967296))) ?_
    obtain ⟨x1, hx1⟩ : ∃ x1 : Nat, x1 = y + ((2 * cw (S (h + 1)) (2 * i) + ab) % 4294967296 + o % 4294967296) := ⟨_, rfl⟩
    rw [show (y : Int) + ((((2 * zl) + (ab : Int)) % 4294967296) + ((o : Int) % 4294967296)) = ((x1 : Nat) : Int) by omega]
    refine i_80_150 rfl ?_
    refine lgen2 (i := 3) (v := Value.long (Int64.ofInt (x1 : Int))) (fun lv lg ls => ?_)
    replace l10 := lg 10 _ rfl rfl l10
    replace l9 := lg 9 _ rfl rfl l9
    replace l7 := lg 7 _ rfl rfl l7
    replace l0 := lg 0 _ rfl rfl l0
    replace l1 := lg 1 _ rfl rfl l1
    replace l2 := lg 2 _ rfl rfl l2
    replace l5 := lg 5 _ rfl rfl l5
    replace l6 := lg 6 _ rfl rfl l6
    have l3 := ls
    refine i_80_151 (x := h) l0 ?_
    refine i_80_152 (v := Value.ref (A h)) (hR.n3 hc) rfl ?_
    refine i_80_155 ?_
    refine i_80_156 (x := Int32.ofInt (i : Int)) l6 ?_
    refine i_80_158 (c := Int32.ofInt (2 * (i : Int))) (o_mul 2 (i : Int)) ?_
    refine i_80_159 (x := Int64.ofInt (x1 : Int)) l3 ?_
    refine i_80_160 (c := Int32.ofInt (x1 : Int)) (q_l2i (x1 : Int)) ?_
    refine i_80_161 (hR.w3 hc) (ix0 (T := 2 * (i : Int)) (by omega) (by omega)) (ix1 (T := 2 * (i : Int)) (by omega) (by omega) (by omega)) (hR.apart hc).2.2.2.2.1 rfl ?_
    rw [ixn (T := 2 * (i : Int)) (by omega) (by omega), show (2 * (i : Int)).toNat = 2 * i from (by omega)]
    refine xgen (P := cR w0 L Z A C B (u2 S (h + 1) (2 * i) (x1 : Int))) (hR.arr hc rfl) (fun w hR => ?_)
    refine i_80_162 (x := Int64.ofInt (x1 : Int)) l3 ?_
    refine i_80_163 ?_
    refine i_80_165 (c := Int64.ofInt ((x1 : Int) / 4294967296)) (q_ushr32 (t := (x1 : Int)) (by omega) (by omega)) ?_
    refine i_80_166 (x := Int32.ofInt zh) l10 ?_
    refine i_80_168 ?_
    refine i_80_169 (c := Int32.ofInt (2 * zh)) (o_shl1 zh) ?_
    refine i_80_170 (x := Int32.ofInt zl) l9 ?_
    refine i_80_172 ?_
    refine i_80_174 (c := Int32.ofInt (zl % 4294967296 / 2147483648)) (o_ushr31 zl) ?_
    refine i_80_175 (c := Int32.ofInt ((2 * zh) + (zl % 4294967296 / 2147483648))) (o_or1 (x := zh) (z := zl % 4294967296 / 2147483648) (by omega)) ?_
    refine i_80_176 rfl ?_
    refine i_80_177 ?_
    refine i_80_180 (c := Int64.ofInt (((2 * zh) + (zl % 4294967296 / 2147483648)) % 4294967296)) (lowz _) ?_
    refine i_80_181 (c := Int64.ofInt (((x1 : Int) / 4294967296) + (((2 * zh) + (zl % 4294967296 / 2147483648)) % 4294967296))) (q_add ((x1 : Int) / 4294967296) (((2 * zh) + (zl % 4294967296 / 2147483648)) % 4294967296)) ?_
    refine i_80_182 (x := Int64.ofInt (o : Int)) l7 ?_
    refine i_80_184 ?_
    refine i_80_186 (c := Int64.ofInt ((o : Int) / 4294967296)) (q_ushr32 (t := (o : Int)) (by omega) (by omega)) ?_
    refine i_80_187 (c := Int64.ofInt ((((x1 : Int) / 4294967296) + (((2 * zh) + (zl % 4294967296 / 2147483648)) % 4294967296)) + ((o : Int) / 4294967296))) (q_add (((x1 : Int) / 4294967296) + (((2 * zh) + (zl % 4294967296 / 2147483648)) % 4294967296)) ((o : Int) / 4294967296)) ?_
    obtain ⟨x2, hx2⟩ : ∃ x2 : Nat, x2 = x1 / 4294967296 + (2 * cw (S (h + 1)) (2 * i + 1) + cw (S (h + 1)) (2 * i) / 2147483648) % 4294967296 + o / 4294967296 := ⟨_, rfl⟩
    rw [show (((x1 : Int) / 4294967296) + (((2 * zh) + (zl % 4294967296 / 2147483648)) % 4294967296)) + ((o : Int) / 4294967296) = ((x2 : Nat) : Int) by omega]
    refine i_80_188 rfl ?_
    refine lgen2 (i := 3) (v := Value.long (Int64.ofInt (x2 : Int))) (fun lv lg ls => ?_)
    replace l10 := lg 10 _ rfl rfl l10
    replace l9 := lg 9 _ rfl rfl l9
    replace l7 := lg 7 _ rfl rfl l7
    replace l0 := lg 0 _ rfl rfl l0
    replace l1 := lg 1 _ rfl rfl l1
    replace l2 := lg 2 _ rfl rfl l2
    replace l5 := lg 5 _ rfl rfl l5
    replace l6 := lg 6 _ rfl rfl l6
    have l3 := ls
    refine i_80_189 (x := h) l0 ?_
    refine i_80_190 (v := Value.ref (A h)) (hR.n3 hc) rfl ?_
    refine i_80_193 ?_
    refine i_80_194 (x := Int32.ofInt (i : Int)) l6 ?_
    refine i_80_196 (c := Int32.ofInt (2 * (i : Int))) (o_mul 2 (i : Int)) ?_
    refine i_80_197 ?_
    refine i_80_198 (c := Int32.ofInt ((2 * (i : Int)) + 1)) (o_add (2 * (i : Int)) 1) ?_
    refine i_80_199 (x := Int64.ofInt (x2 : Int)) l3 ?_
    refine i_80_200 (c := Int32.ofInt (x2 : Int)) (q_l2i (x2 : Int)) ?_
    refine i_80_201 (hR.w3 hc) (ix0 (T := (2 * (i : Int)) + 1) (by omega) (by omega)) (ix1 (T := (2 * (i : Int)) + 1) (by omega) (by omega) (by omega)) (hR.apart hc).2.2.2.2.1 rfl ?_
    rw [ixn (T := (2 * (i : Int)) + 1) (by omega) (by omega), show ((2 * (i : Int)) + 1).toNat = 2 * i + 1 from (by omega)]
    refine xgen (P := cR w0 L Z A C B (u2 (u2 S (h + 1) (2 * i) (x1 : Int)) (h + 1) (2 * i + 1) (x2 : Int))) (hR.arr hc rfl) (fun w hR => ?_)
    refine i_80_202 (x := Int64.ofInt (x2 : Int)) l3 ?_
    refine i_80_203 ?_
    refine i_80_205 (c := Int64.ofInt ((x2 : Int) / 4294967296)) (q_ushr32 (t := (x2 : Int)) (by omega) (by omega)) ?_
    refine i_80_206 rfl ?_
    refine lgen2 (i := 3) (v := Value.long (Int64.ofInt ((x2 : Int) / 4294967296))) (fun lv lg ls => ?_)
    replace l10 := lg 10 _ rfl rfl l10
    replace l9 := lg 9 _ rfl rfl l9
    replace l7 := lg 7 _ rfl rfl l7
    replace l0 := lg 0 _ rfl rfl l0
    replace l1 := lg 1 _ rfl rfl l1
    replace l2 := lg 2 _ rfl rfl l2
    replace l5 := lg 5 _ rfl rfl l5
    replace l6 := lg 6 _ rfl rfl l6
    have l3 := ls
    refine i_80_207 (x := Int32.ofInt zh) l10 ?_
    refine i_80_209 ?_
    refine i_80_211 (c := Int32.ofInt (zh % 4294967296 / 2147483648)) (o_ushr31 zh) ?_
    refine i_80_212 rfl ?_
    refine lgen1 (i := 5) (v := Value.int (Int32.ofInt (zh % 4294967296 / 2147483648))) (fun lv lg ls => ?_)
    replace l3 := lg 3 _ rfl rfl l3
    replace l10 := lg 10 _ rfl rfl l10
    replace l9 := lg 9 _ rfl rfl l9
    replace l7 := lg 7 _ rfl rfl l7
    replace l0 := lg 0 _ rfl rfl l0
    replace l1 := lg 1 _ rfl rfl l1
    replace l2 := lg 2 _ rfl rfl l2
    replace l6 := lg 6 _ rfl rfl l6
    have l5 := ls
    refine i_80_214 (x := (Int32.ofInt (i : Int))) (c := (Int32.ofInt ((i : Int) + 1))) l6 (o_add (i : Int) 1) rfl ?_
    refine lgen1 (i := 6) (v := Value.int (Int32.ofInt ((i : Int) + 1))) (fun lv lg ls => ?_)
    replace l5 := lg 5 _ rfl rfl l5
    replace l3 := lg 3 _ rfl rfl l3
    replace l10 := lg 10 _ rfl rfl l10
    replace l9 := lg 9 _ rfl rfl l9
    replace l7 := lg 7 _ rfl rfl l7
    replace l0 := lg 0 _ rfl rfl l0
    replace l1 := lg 1 _ rfl rfl l1
    replace l2 := lg 2 _ rfl rfl l2
    have l6 := ls
    refine i_80_217 ?_
    obtain ⟨hE, hy2⟩ := sq_step hy hab b1 b2 (show o < 18446744073709551616 by omega) hx1 hx2
    rw [show (x2 : Int) / 4294967296 = ((x2 / 4294967296 : Nat) : Int) by omega] at l3
    rw [show zh % 4294967296 / 2147483648 = ((cw (S (h + 1)) (2 * i + 1) / 2147483648 : Nat) : Int) by omega] at l5
    have ec1 : cw s0 (2 * i) = cw (S (h + 1)) (2 * i) := by unfold cw; rw [hs0 _ (Nat.le_refl _)]
    have ec2 : cw s0 (2 * i + 1) = cw (S (h + 1)) (2 * i + 1) := by unfold cw; rw [hs0 _ (by omega)]
    refine ih (i := i + 1) hR (fun j hj => by rw [u2_n (by omega), u2_n (by omega)]; exact ea j hj) (fun j hj => by rw [u2_s, u1_n (by omega), u2_s, u1_n (by omega)]; exact hs0 j (by omega)) hy2 (by omega) (by omega) ?_ l0 l1 l2 l3 l5 l6 (fun lv' y' w' S' q1 q2 q3 q4 q5 => hQ lv' y' w' S' q1 (fun b j hb => by rw [q2 b j hb, u2_n hb, u2_n hb]) q3 q4 q5)
    have en : 2 * (i + 1) = 2 * i + 1 + 1 := by omega
    rw [en, u2_s, cv_set rfl, u2_s, cv_set rfl]
    simp only [pow_s]
    show _ = 2 * (cv s0 (2 * i) + cw s0 (2 * i) * 2 ^ (32 * (2 * i)) + cw s0 (2 * i + 1) * 2 ^ (32 * (2 * i + 1))) + (sqQ a i + cw a i * cw a i * 2 ^ (32 * (2 * i)))
    rw [pow_s, ec1, ec2, show cw a i = cw (S (ha + 1)) i by unfold cw; rw [ea i (by omega)], ← ho]
    have := sq_alg2 (E := 0) (F := 0) (P := 2 ^ (32 * (2 * i))) hE hv
    omega
theorem X_square {u : Nat} (hX : cX w0 L Z S V w) (hc : kd h = 3) (hca : kd ha = 3) (hnea : ha ≠ h) (hu : V ha = u) (hbd : xbl u ≤ 319000) : ∃ w', xRun (d + 3) 80 [.ref h, .ref ha] w (.inl none) w' ∧ cX w0 L Z S (uv V h (u * u)) w' := by
  obtain ⟨A, C, B, S0, hR, hv, hs⟩ := hX
  obtain ⟨n, n1, n2, n3, n4⟩ := hv ha hca
  rw [hu] at n3
  have hza : ha ≠ h + 1 := fun g => by have := kd_c hc; rw [← g] at this; omega
  have hcapa := hR.cap hca
  have hsz : n = (xbl u + 31) / 32 := by rw [← n3]; exact nv_size n4
  have hul : u < 2 ^ (32 * n) := by rw [← n3]; exact cv_lt
  obtain ⟨w1, A1, C1, B1, S1, r1, hR1, p1, p2, p3⟩ := c_room (d := d) (t := 2 * (n : Int)) hR hc (by omega) (by omega)
  have hcap1 := hR1.cap hc
  obtain ⟨w2, S2, r2, hR2, f1, f2⟩ := c_fill (d := d + 1) (t := n + n) (z := 0) hR1 hc (by omega)
  rw [show ((n + n : Nat) : Int) = 2 * (n : Int) by omega] at r2
  have on1 : S2 ha 1 = n := by rw [f1 _ _ (Or.inl hza), p3 _ _ (Or.inl hza)]; exact n1
  have key : ∀ lv, xld lv 0 = some (.ref h) → xld lv 1 = some (.ref ha) → xEv (d + 3) 80 0 lv [] w (fun o w' => o = .inl none ∧ cX w0 L Z S (uv V h (u * u)) w') := by
    intro lv l0 l1
    refine i_80_0 (x := ha) l1 ?_
    refine i_80_1 (v := Value.int (Int32.ofInt (n : Int))) (hR.n3n hca n1) rfl ?_
    refine i_80_4 rfl ?_
    refine lgen1 (i := 2) (v := Value.int (Int32.ofInt (n : Int))) (fun lv lg ls => ?_)
    replace l0 := lg 0 _ rfl rfl l0
    replace l1 := lg 1 _ rfl rfl l1
    have l2 := ls
    refine i_80_5 (x := h) l0 ?_
    refine i_80_6 ?_
    refine i_80_7 (x := Int32.ofInt (n : Int)) l2 ?_
    refine i_80_8 (c := Int32.ofInt (2 * (n : Int))) (o_mul 2 (n : Int)) ?_
    have hobj := hR.n3 hc
    have hrun := r1
    replace hR := hR1
    refine i_80_9 hobj (Nat.le_of_ble_eq_true rfl) hrun ?_
    refine i_80_12 (x := h) l0 ?_
    refine i_80_13 (v := Value.ref (A1 h)) (hR.n3 hc) rfl ?_
    refine i_80_16 ?_
    refine i_80_17 ?_
    refine i_80_18 (x := Int32.ofInt (n : Int)) l2 ?_
    refine i_80_19 (c := Int32.ofInt (2 * (n : Int))) (o_mul 2 (n : Int)) ?_
    refine i_80_20 ?_
    have hrun := r2
    replace hR := hR2
    refine i_80_21 (Nat.le_of_ble_eq_true rfl) hrun ?_
    refine i_80_24 ?_
    refine i_80_25 rfl ?_
    refine lgen1 (i := 3) (v := Value.int 0) (fun lv lg ls => ?_)
    replace l2 := lg 2 _ rfl rfl l2
    replace l0 := lg 0 _ rfl rfl l0
    replace l1 := lg 1 _ rfl rfl l1
    have l3 := ls
    refine sq1_loop (d := d + 2) (a := S0 (ha + 1)) hc hca hnea (by omega) (Nat.le_trans n2 (p2 ha)) n (i := 0) hR on1 (fun j hj => by rw [f1 _ _ (Or.inl (by omega)), p3 _ _ (Or.inl (by omega))]) (by omega) (cv_none (fun j hj => by unfold cw; rw [f2 j (by omega)]; rfl)) (fun j g1 g2 => f2 j (by omega)) l0 l1 l2 l3 (fun lv w S' hR q2 q3 l0 l1 l2 => ?_)
    refine i_80_64 ?_
    refine i_80_65 rfl ?_
    refine lgen2 (i := 3) (v := Value.long 0) (fun lv lg ls => ?_)
    replace l0 := lg 0 _ rfl rfl l0
    replace l1 := lg 1 _ rfl rfl l1
    replace l2 := lg 2 _ rfl rfl l2
    have l3 := ls
    refine i_80_66 ?_
    refine i_80_67 rfl ?_
    refine lgen1 (i := 5) (v := Value.int 0) (fun lv lg ls => ?_)
    replace l3 := lg 3 _ rfl rfl l3
    replace l0 := lg 0 _ rfl rfl l0
    replace l1 := lg 1 _ rfl rfl l1
    replace l2 := lg 2 _ rfl rfl l2
    have l5 := ls
    refine i_80_69 ?_
    refine i_80_70 rfl ?_
    refine lgen1 (i := 6) (v := Value.int 0) (fun lv lg ls => ?_)
    replace l5 := lg 5 _ rfl rfl l5
    replace l3 := lg 3 _ rfl rfl l3
    replace l0 := lg 0 _ rfl rfl l0
    replace l1 := lg 1 _ rfl rfl l1
    replace l2 := lg 2 _ rfl rfl l2
    have l6 := ls
    refine sq2_loop (d := d + 3) (a := S0 (ha + 1)) (s0 := S' (h + 1)) hc hca hnea (by omega) (Nat.le_trans n2 (p2 ha)) n (i := 0) (y := 0) (ab := 0) hR (fun j hj => by rw [q2 _ _ (by omega), f1 _ _ (Or.inl (by omega)), p3 _ _ (Or.inl (by omega))]) (fun _ _ => rfl) (by decide) (by decide) (by omega) rfl l0 l1 l2 l3 l5 l6 (fun lv y' w S'' hR q4 q5 l0 l2 => ?_)
    have hsq := sq_sum (a := S0 (ha + 1)) (n := n) n (Nat.le_refl _)
    rw [show 2 * n = n + n by omega, q3] at q5
    rw [n3] at hsq
    have hlt : u * u < 2 ^ (32 * (n + n)) := by
      rw [show 32 * (n + n) = 32 * n + 32 * n by omega, Nat.pow_add]
      exact Nat.mul_lt_mul'' hul hul
    have q6 : cv (S'' (h + 1)) (n + n) + y' * 2 ^ (32 * (n + n)) = u * u := by omega
    have e := no_carry q6 hlt
    refine i_80_220 (x := h) l0 ?_
    refine i_80_221 ?_
    refine i_80_222 (x := Int32.ofInt (n : Int)) l2 ?_
    refine i_80_223 (c := Int32.ofInt (2 * (n : Int))) (o_mul 2 (n : Int)) ?_
    refine i_80_224 (fs2 := [Value.ref (A1 h), Value.int (Int32.ofInt (2 * (n : Int)))]) (hR.n3 hc) (Nat.le_of_ble_eq_true rfl) rfl (kd_o (show kd h < 12 by omega)).1 ?_
    refine xgen (P := cR w0 L Z A1 C1 B1 (u2 S'' h 1 (2 * (n : Int)))) (hR.set1 (v := 2 * (n : Int)) hc rfl) (fun w hR => ?_)
    refine i_80_227 (x := h) l0 ?_
    obtain ⟨w2, hrun, hX2⟩ := X_trim (d := d + 2) (n := n + n) (u := u * u) hv hs hc hR p2 (fun b j g1 g2 => by rw [u2_n g1, q4 b j g2, q2 b j g2, f1 _ _ (Or.inl g2), p3 _ _ (Or.inl g2)]) (by rw [u2_s, u1_s]; omega) (by omega) (by rw [u2_n (by omega)]; exact e)
    have hobj := hR.n3 hc
    refine i_80_228 hobj (Nat.le_of_ble_eq_true rfl) hrun ?_
    refine i_80_231 ?_
    exact ⟨rfl, hX2⟩
  obtain ⟨o, w', h1, rfl, h2⟩ := (key (lv_args 0 [.ref h, .ref ha]) rfl rfl).run
  exact ⟨w', h1, h2⟩
end
