/-! bit, anyBelow, one of the reference's naturals -/
theorem xi_shr {x p : Int32} {q : Nat} (h : 0 ≤ x.toInt) (hp : p.toInt = q) (p1 : q < 32) : xun (x >>> (p &&& 31)) = xun x / 2 ^ q := by
  have e := xof_nat (p := p) (by omega)
  have ha := xam5 p.toInt.toNat (by omega)
  rw [← e, show p.toInt.toNat = q by omega] at ha
  have hx := xun_i h
  have hy := Int32.toInt_lt x
  show (x.toBitVec.sshiftRight' ((p &&& 31).toBitVec.smod 32)).toNat = _
  rw [ha, BitVec.sshiftRight_eq']
  have hm : x.toBitVec.msb = false := BitVec.msb_eq_false_iff_two_mul_lt.mpr (by show 2 * xun x < _; omega)
  rw [BitVec.toNat_sshiftRight_of_msb_false hm, BitVec.toNat_ofNat, Nat.mod_eq_of_lt (by omega)]
  show xun x >>> q = _
  rw [Nat.shiftRight_eq_div_pow]
theorem xun_and1 (x : Int32) : xun (x &&& (1 : Int32)) = xun x % 2 := by
  show (xun x &&& 1) = _
  rw [Nat.and_one_is_mod]
/-- a word of ints as a bit of the whole -/
theorem bit_of {T r : Nat} (hr : r < 30) : T % 1073741824 / 2 ^ r % 2 = T / 2 ^ r % 2 := by
  have e : (1073741824 : Nat) = 2 ^ r * 2 ^ (30 - r) := by rw [← Nat.pow_add, show r + (30 - r) = 30 by omega]
  rw [e, Nat.mod_mul_right_div_self, Nat.mod_mod_of_dvd]
  exact ⟨2 ^ (30 - r - 1), by rw [← Nat.pow_succ']; congr 1; omega⟩
theorem pow_split {V k : Nat} : V / 2 ^ k = V / 2 ^ (30 * (k / 30)) / 2 ^ (k % 30) := by
  rw [Nat.div_div_eq_div_mul, ← Nat.pow_add]
  congr 2
  omega
theorem xvl_div0 {g : Nat → Value} {n i : Nat} (hi : ∀ j, j < n → xiw g j) (h : n ≤ i) : xvl g n / 2 ^ (30 * i) = 0 := by
  refine Nat.div_eq_of_lt (Nat.lt_of_lt_of_le (xvl_lt hi) (Nat.pow_le_pow_right (by omega) (by omega)))
/-- bit -/
theorem bit_ev {d h a c n : Nat} {k : Int32} {w : xW} {g : Nat → Value} {Q : Option Value ⊕ Nat → xW → Prop} (hc : c < 2147483648) (hw : w[h]? = some (.inr (13, [.ref a, .int (Int32.ofNat n)]))) (ha : w[a]? = some (.inl (0, c, g))) (hn : n ≤ c) (hi : ∀ j, j < n → xiw g j)
    (hQ : ∀ b : Int32, (b = 1 ∧ 0 ≤ k.toInt ∧ xvl g n / 2 ^ k.toInt.toNat % 2 = 1) ∨ (b = 0 ∧ (k.toInt < 0 ∨ xvl g n / 2 ^ k.toInt.toNat % 2 = 0)) → Q (.inl (some (.int b))) w) : xEv d 184 0 (lv_args 0 [.ref h, .int k]) [] w Q := by
  have en := xof_i (k := n) (by omega)
  refine i_184_0 (x := k) rfl ?_
  refine i_184_1 (fun c0 => ?_) (fun c0 => ?_)
  · refine i_184_39 ?_
    exact i_184_40 rfl (hQ 0 (Or.inr ⟨rfl, Or.inl c0⟩))
  · have ek := xof_nat (p := k) c0
    have h0 := Int32.toInt_lt k
    obtain ⟨q, hq⟩ : ∃ q, k.toInt.toNat = q := ⟨_, rfl⟩
    rw [hq] at ek hQ
    have hd := xof_div (k := q) (by omega)
    have hm := xof_mod (k := q) (by omega)
    rw [← ek] at hd hm
    have ed := xof_i (k := q / 30) (by omega)
    have em := xof_i (k := q % 30) (by omega)
    refine i_184_4 (x := k) rfl ?_
    refine i_184_5 ?_
    refine i_184_7 (c := Int32.ofNat (q / 30)) (by decide) hd ?_
    refine i_184_8 (x := h) rfl ?_
    refine i_184_9 (v := Value.int (Int32.ofNat n)) hw rfl ?_
    refine i_184_12 (fun c1 => ?_) (fun c1 => ?_)
    · refine i_184_39 ?_
      refine i_184_40 rfl (hQ 0 (Or.inr ⟨rfl, Or.inr ?_⟩))
      rw [pow_split, xvl_div0 hi (by omega), Nat.zero_div]
    · obtain ⟨x, hx, x0, x1⟩ := hi (q / 30) (by omega)
      have hwx := xwd_at hi (i := q / 30) (by omega)
      rw [xwd_int hx] at hwx
      have hs := xi_shr (p := Int32.ofNat (q % 30)) (q := q % 30) x0 em (by omega)
      have h1 := xun_and1 (x >>> (Int32.ofNat (q % 30) &&& 31))
      rw [hs, hwx, bit_of (by omega), ← pow_split] at h1
      refine i_184_15 (x := h) rfl ?_
      refine i_184_16 (v := Value.ref a) hw rfl ?_
      refine i_184_19 (x := k) rfl ?_
      refine i_184_20 ?_
      refine i_184_22 (c := Int32.ofNat (q / 30)) (by decide) hd ?_
      refine i_184_23 (v := Value.int x) ha (by omega) (by omega) (by rw [show (Int32.ofNat (q / 30)).toInt.toNat = q / 30 by omega]; exact hx) ?_
      refine i_184_24 (x := k) rfl ?_
      refine i_184_25 ?_
      refine i_184_27 (c := Int32.ofNat (q % 30)) (by decide) hm ?_
      refine i_184_28 rfl ?_
      refine i_184_29 ?_
      refine i_184_30 rfl ?_
      have hp := xun_p (x := (x >>> (Int32.ofNat (q % 30) &&& 31)) &&& (1 : Int32)) (by omega)
      have e1 : (1 : Int32).toInt = 1 := rfl
      refine i_184_31 ?_
      refine i_184_32 (fun c3 => ?_) (fun c3 => ?_)
      · refine i_184_39 ?_
        exact i_184_40 rfl (hQ 0 (Or.inr ⟨rfl, Or.inr (by omega)⟩))
      · refine i_184_35 ?_
        refine i_184_36 ?_
        exact i_184_40 rfl (hQ 1 (Or.inl ⟨rfl, c0, by omega⟩))
theorem mod_add {V a b : Nat} : V % 2 ^ (a + b) = V % 2 ^ a + 2 ^ a * (V / 2 ^ a % 2 ^ b) := by rw [Nat.pow_add, Nat.mod_mul]
theorem mod_dn {V a b : Nat} (h : a ≤ b) (hz : V % 2 ^ b = 0) : V % 2 ^ a = 0 := xdown h hz
/-- one step of anyBelow -/
theorem any_step {V i k x : Nat} (h0 : V % 2 ^ (30 * i) = 0) (hk : 30 * i < k) (hx : x = V / 2 ^ (30 * i) % 1073741824) : (30 * i + 30 ≤ k → (x ≠ 0 → V % 2 ^ k ≠ 0) ∧ (x = 0 → V % 2 ^ (30 * (i + 1)) = 0)) ∧ (k < 30 * i + 30 → (x % 2 ^ (k - 30 * i) = 0 ↔ V % 2 ^ k = 0)) := by
  have hp := Nat.two_pow_pos (30 * i)
  have e1 : V % 2 ^ (30 * i + 30) = 2 ^ (30 * i) * x := by rw [mod_add, h0, Nat.zero_add, hx]
  refine ⟨fun h => ⟨fun hne hz => ?_, fun hz => ?_⟩, fun h => ?_⟩
  · have := mod_dn h hz
    rw [e1] at this
    rcases Nat.mul_eq_zero.mp this with h1 | h1
    · omega
    · exact hne h1
  · rw [show 30 * (i + 1) = 30 * i + 30 by omega, e1, hz, Nat.mul_zero]
  · have e2 : V % 2 ^ k = 2 ^ (30 * i) * (x % 2 ^ (k - 30 * i)) := by
      have : k = 30 * i + (k - 30 * i) := by omega
      rw [this, mod_add, h0, Nat.zero_add, hx, ← this]
      congr 1
      have e30 : (1073741824 : Nat) = 2 ^ 30 := rfl
      rw [e30, Nat.mod_mod_of_dvd _ (Nat.pow_dvd_pow 2 (show k - 30 * i ≤ 30 by omega))]
    rw [e2, Nat.mul_eq_zero]
    exact ⟨fun h => Or.inr h, fun h => h.resolve_left (by omega)⟩
theorem any_loop {d h a c n k : Nat} {K : Int32} {w : xW} {g : Nat → Value} {Q : Option Value ⊕ Nat → xW → Prop} (hc : c < 67108864) (hw : w[h]? = some (.inr (13, [.ref a, .int (Int32.ofNat n)]))) (ha : w[a]? = some (.inl (0, c, g))) (hn : n ≤ c) (hi : ∀ j, j < n → xiw g j) (hK : K.toInt.toNat = k)
    (hQ : ∀ b : Int32, (b = 1 ∧ xvl g n % 2 ^ k ≠ 0) ∨ (b = 0 ∧ xvl g n % 2 ^ k = 0) → Q (.inl (some (.int b))) w) (m : Nat) :
    ∀ (i : Nat) (lv : xLv), i + m = n → xld lv 0 = some (.ref h) → xld lv 1 = some (.int K) → xld lv 2 = some (.int (Int32.ofNat i)) → ((30 * i ≤ k ∧ xvl g n % 2 ^ (30 * i) = 0) ∨ (k ≤ 30 * i ∧ xvl g n % 2 ^ k = 0)) → xEv d 183 2 lv [] w Q := by
  have en := xof_i (k := n) (by omega)
  have hvl := xvl_lt hi
  induction m with
  | zero =>
    intro i lv him l0 l1 l2 hI
    have e : i = n := by omega
    subst e
    refine i_183_2 (x := Int32.ofNat i) l2 ?_
    refine i_183_3 (x := h) l0 ?_
    refine i_183_4 (v := Value.int (Int32.ofNat i)) hw rfl ?_
    refine i_183_7 (fun c0 => ?_) (fun c0 => absurd c0 (by omega))
    refine i_183_66 ?_
    refine i_183_67 rfl (hQ 0 (Or.inr ⟨rfl, ?_⟩))
    rcases hI with ⟨h1, h2⟩ | ⟨h1, h2⟩
    · rw [Nat.mod_eq_of_lt hvl] at h2
      rw [h2, Nat.zero_mod]
    · exact h2
  | succ m ih =>
    intro i lv him l0 l1 l2 hI
    have ei := xof_i (k := i) (by omega)
    have e30 : (30 : Int32) * Int32.ofNat i = Int32.ofNat (30 * i) := by rw [Int32.ofNat_mul]; rfl
    have ei30 := xof_i (k := 30 * i) (by omega)
    refine i_183_2 (x := Int32.ofNat i) l2 ?_
    refine i_183_3 (x := h) l0 ?_
    refine i_183_4 (v := Value.int (Int32.ofNat n)) hw rfl ?_
    refine i_183_7 (fun c0 => absurd c0 (by omega)) (fun c0 => ?_)
    refine i_183_10 ?_
    refine i_183_12 (x := Int32.ofNat i) l2 ?_
    refine i_183_13 (c := Int32.ofNat (30 * i)) e30 ?_
    refine i_183_14 (x := K) l1 ?_
    refine i_183_15 (fun c1 => ?_) (fun c1 => ?_)
    · refine i_183_66 ?_
      refine i_183_67 rfl (hQ 0 (Or.inr ⟨rfl, ?_⟩))
      rcases hI with ⟨h1, h2⟩ | ⟨h1, h2⟩
      · exact mod_dn (by omega) h2
      · exact h2
    · have hlt : 30 * i < k := by omega
      have hz : xvl g n % 2 ^ (30 * i) = 0 := by
        rcases hI with ⟨h1, h2⟩ | ⟨h1, h2⟩
        · exact h2
        · omega
      obtain ⟨x, hx, x0, x1⟩ := hi i (by omega)
      have hwx := xwd_at hi (i := i) (by omega)
      rw [xwd_int hx] at hwx
      have st := any_step hz hlt hwx
      have eK := xof_nat (p := K) (by omega)
      rw [hK] at eK
      have hKl := Int32.toInt_lt K
      have eL : K - Int32.ofNat (30 * i) = Int32.ofNat (k - 30 * i) := by rw [eK, xof_sub (by omega)]
      have iL := xof_i (k := k - 30 * i) (by omega)
      have i30 : (30 : Int32).toInt = 30 := rfl
      refine i_183_18 (x := K) l1 ?_
      refine i_183_19 ?_
      refine i_183_21 (x := Int32.ofNat i) l2 ?_
      refine i_183_22 (c := Int32.ofNat (30 * i)) e30 ?_
      refine i_183_23 (c := Int32.ofNat (k - 30 * i)) eL ?_
      refine i_183_24 rfl ?_
      replace l0 := xld_n1 (i := 3) (v := .int (Int32.ofNat (k - 30 * i))) rfl rfl l0
      replace l1 := xld_n1 (i := 3) (v := .int (Int32.ofNat (k - 30 * i))) rfl rfl l1
      replace l2 := xld_n1 (i := 3) (v := .int (Int32.ofNat (k - 30 * i))) rfl rfl l2
      have l3 : xld (xst1 lv 3 (.int (Int32.ofNat (k - 30 * i)))) 3 = some (.int (Int32.ofNat (k - 30 * i))) := xld_s1
      refine i_183_25 (x := Int32.ofNat (k - 30 * i)) l3 ?_
      refine i_183_26 ?_
      refine i_183_28 (fun c2 => ?_) (fun c2 => ?_)
      · have st2 := st.2 (by omega)
        have mk := xmk_n (x := x) (g := Int32.ofNat (k - 30 * i)) (by omega) (by omega)
        rw [show (Int32.ofNat (k - 30 * i)).toInt.toNat = k - 30 * i by omega] at mk
        refine i_183_43 (x := h) l0 ?_
        refine i_183_44 (v := Value.ref a) hw rfl ?_
        refine i_183_47 (x := Int32.ofNat i) l2 ?_
        refine i_183_48 (v := Value.int x) ha (by omega) (by omega) (by rw [show (Int32.ofNat i).toInt.toNat = i by omega]; exact hx) ?_
        refine i_183_49 ?_
        refine i_183_50 (x := Int32.ofNat (k - 30 * i)) l3 ?_
        refine i_183_51 rfl ?_
        refine i_183_52 ?_
        refine i_183_53 rfl ?_
        refine i_183_54 (c := xmk x (Int32.ofNat (k - 30 * i))) rfl ?_
        refine i_183_55 (fun c4 => ?_) (fun c4 => ?_)
        · refine i_183_60 (x := Int32.ofNat i) (c := Int32.ofNat (i + 1)) l2 xof_succ rfl ?_
          refine i_183_63 ?_
          refine ih (i + 1) _ (by omega) (xld_n1 rfl rfl l0) (xld_n1 rfl rfl l1) xld_s1 (Or.inr ⟨by omega, ?_⟩)
          refine st2.mp ?_
          rw [← mk]
          exact xun_z.mpr c4
        · refine i_183_58 ?_
          refine i_183_59 rfl (hQ 1 (Or.inl ⟨rfl, fun e => ?_⟩))
          have := st2.mpr e
          rw [← mk] at this
          exact c4 (xun_z.mp this)
      · have st1 := st.1 (by omega)
        refine i_183_31 (x := h) l0 ?_
        refine i_183_32 (v := Value.ref a) hw rfl ?_
        refine i_183_35 (x := Int32.ofNat i) l2 ?_
        refine i_183_36 (v := Value.int x) ha (by omega) (by omega) (by rw [show (Int32.ofNat i).toInt.toNat = i by omega]; exact hx) ?_
        refine i_183_37 (fun c6 => ?_) (fun c6 => ?_)
        · refine i_183_60 (x := Int32.ofNat i) (c := Int32.ofNat (i + 1)) l2 xof_succ rfl ?_
          refine i_183_63 ?_
          exact ih (i + 1) _ (by omega) (xld_n1 rfl rfl l0) (xld_n1 rfl rfl l1) xld_s1 (Or.inl ⟨by omega, st1.2 (xun_z.mpr c6)⟩)
        · refine i_183_40 ?_
          refine i_183_58 ?_
          exact i_183_59 rfl (hQ 1 (Or.inl ⟨rfl, st1.1 fun e => c6 (xun_z.mp e)⟩))
/-- anyBelow -/
theorem any_ev {d h a c n : Nat} {k : Int32} {w : xW} {g : Nat → Value} {Q : Option Value ⊕ Nat → xW → Prop} (hc : c < 67108864) (hw : w[h]? = some (.inr (13, [.ref a, .int (Int32.ofNat n)]))) (ha : w[a]? = some (.inl (0, c, g))) (hn : n ≤ c) (hi : ∀ j, j < n → xiw g j)
    (hQ : ∀ b : Int32, (b = 1 ∧ xvl g n % 2 ^ k.toInt.toNat ≠ 0) ∨ (b = 0 ∧ xvl g n % 2 ^ k.toInt.toNat = 0) → Q (.inl (some (.int b))) w) : xEv d 183 0 (lv_args 0 [.ref h, .int k]) [] w Q := by
  refine i_183_0 ?_
  refine i_183_1 rfl ?_
  exact any_loop hc hw ha hn hi rfl hQ n 0 _ (by omega) rfl rfl rfl (Or.inl ⟨by omega, by show _ % 1 = 0; omega⟩)
/-- one -/
theorem one_ev {d h a c k : Nat} {n0 : Int32} {w : xW} {g : Nat → Value} {Q : Option Value ⊕ Nat → xW → Prop} (hc : c < 67108864) (hne : h ≠ a) (h7 : 7 ≤ h) (a7 : 7 ≤ a) (hw : w[h]? = some (.inr (13, [.ref a, .int n0]))) (ha : w[a]? = some (.inl (0, c, g))) (hk : k < 2147483648) (hn : k / 30 + 1 ≤ c)
    (hQ : ∀ (n' : Nat) (g' : Nat → Value), n' ≤ k / 30 + 1 → (∀ j, j < n' → xiw g' j) → xvl g' n' = 2 ^ k → (n' = 0 ∨ xwd g' (n' - 1) ≠ 0) → Q (.inl none) (xput w h a c n' g')) : xEv (d + 2) 190 0 (lv_args 0 [.ref h, .int (Int32.ofNat k)]) [] w Q := by
  have hd := xof_div (k := k) (by omega)
  have hm := xof_mod (k := k) (by omega)
  have ed := xof_i (k := k / 30) (by omega)
  have em := xof_i (k := k % 30) (by omega)
  refine i_190_0 (x := h) rfl ?_
  refine i_190_1 (v := Value.ref a) hw rfl ?_
  refine i_190_4 ?_
  refine i_190_5 (x := Int32.ofNat k) rfl ?_
  refine i_190_6 ?_
  refine i_190_8 (c := Int32.ofNat (k / 30)) (by decide) hd ?_
  refine i_190_9 ?_
  have hfl := fill_ev (d := d) (v := 0) (t := k / 30) (Q := fun o w1 => o = .inl none ∧ ∃ g', (∀ j, j < k / 30 → g' j = .int 0) ∧ w1 = w.set a (.inl (0, c, g'))) (by omega) a7 ha (by omega) (fun g' h1 _ => ⟨rfl, g', h1, rfl⟩)
  obtain ⟨o, w1, hrun, ho, g', hg', e⟩ := hfl.run
  subst ho
  subst e
  have hw' : (w.set a (.inl (0, c, g')))[h]? = some (.inr (13, [.ref a, .int n0])) := xgn (fun e => hne e.symm) hw
  refine i_190_10 (Nat.le_of_ble_eq_true rfl) hrun ?_
  refine i_190_13 (x := h) rfl ?_
  refine i_190_14 (v := Value.ref a) hw' rfl ?_
  refine i_190_17 (x := Int32.ofNat k) rfl ?_
  refine i_190_18 ?_
  refine i_190_20 (c := Int32.ofNat (k / 30)) (by decide) hd ?_
  refine i_190_21 ?_
  refine i_190_22 (x := Int32.ofNat k) rfl ?_
  refine i_190_23 ?_
  refine i_190_25 (c := Int32.ofNat (k % 30)) (by decide) hm ?_
  have hs := xshl_n (u := 1) (p := Int32.ofNat (k % 30)) (by omega) (by omega)
  obtain ⟨z, hz⟩ : ∃ z, (1 : Int32) <<< (Int32.ofNat (k % 30) &&& 31) = z := ⟨_, rfl⟩
  rw [hz, show xun (1 : Int32) = 1 from rfl, Nat.one_mul, show (Int32.ofNat (k % 30)).toInt.toNat = k % 30 by omega] at hs
  have hp : 2 ^ (k % 30) ≤ 2 ^ 29 := Nat.pow_le_pow_right (by omega) (by omega)
  have hp0 := Nat.two_pow_pos (k % 30)
  rw [Nat.mod_eq_of_lt (by omega)] at hs
  have zi := xun_p (x := z) (by omega)
  refine i_190_26 (c := z) hz ?_
  refine i_190_27 (v := Value.int z) (xgs ha) (by omega) (by omega) a7 rfl ?_
  rw [xset_set, show (Int32.ofNat (k / 30)).toInt.toNat = k / 30 by omega]
  have hw2 : (w.set a (.inl (0, c, xup g' (k / 30) (.int z))))[h]? = some (.inr (13, [.ref a, .int n0])) := xgn (fun e => hne e.symm) hw
  refine i_190_28 (x := h) rfl ?_
  refine i_190_29 (x := Int32.ofNat k) rfl ?_
  refine i_190_30 ?_
  refine i_190_32 (c := Int32.ofNat (k / 30)) (by decide) hd ?_
  refine i_190_33 ?_
  refine i_190_34 (c := Int32.ofNat (k / 30 + 1)) xof_succ ?_
  refine i_190_35 (fs2 := [.ref a, .int (Int32.ofNat (k / 30 + 1))]) hw2 (Nat.le_of_ble_eq_true rfl) rfl h7 ?_
  have ez : xwd (xup g' (k / 30) (.int z)) (k / 30) = 2 ^ (k % 30) := by rw [xwd_int (x := z) xup_eq, hs]
  refine i_190_38 (hQ (k / 30 + 1) (xup g' (k / 30) (.int z)) (Nat.le_refl _) (fun j hj => ?_) ?_ (Or.inr ?_))
  · by_cases e : j = k / 30
    · subst e; exact ⟨z, xup_eq, by omega, by omega⟩
    · exact ⟨0, (xup_ne e).trans (hg' j (by omega)), by decide, by decide⟩
  · show xvl _ (k / 30) + xwd _ (k / 30) * _ = _
    rw [xvl_zero (j := 0) (Nat.zero_le _) (fun i _ h2 => by rw [xwd_int (x := 0) ((xup_ne (by omega)).trans (hg' i h2))]; rfl), ez]
    show 0 + _ = _
    rw [Nat.zero_add, ← Nat.pow_add]
    congr 1
    omega
  · show xwd _ (k / 30) ≠ 0
    rw [ez]
    omega
