/-! the methods of the reference's naturals, by values -/
def bb (b : Bool) : Int := bif b then 1 else 0
def nbit (v : Nat) (k : Int) : Bool := decide (0 ≤ k) && decide (v / 2 ^ k.toNat % 2 = 1)
def nany (v : Nat) (k : Int) : Bool := decide (v % 2 ^ k.toNat ≠ 0)
def ncmp (a b : Nat) : Int := if a < b then -1 else if a = b then 0 else 1
theorem bb_01 (b : Bool) : bb b = 0 ∨ bb b = 1 := by cases b <;> simp [bb]
theorem bb_t : bb true = 1 := rfl
theorem bb_f : bb false = 0 := rfl
theorem xbl_zero : xbl 0 = 0 := rfl
theorem xbl_mono {a b : Nat} (h : a ≤ b) : xbl a ≤ xbl b := by
  rcases Nat.eq_zero_or_pos b with e | e
  · have : a = 0 := by omega
    subst this; exact Nat.zero_le _
  · exact xbl_le (Nat.lt_of_le_of_lt h (xbl_of (by omega)).2.1)
theorem xbl_lt (a : Nat) : a < 2 ^ xbl a := by
  rcases Nat.eq_zero_or_pos a with e | e
  · subst e; exact Nat.one_pos
  · exact (xbl_of (by omega)).2.1
theorem xbl_add {a b n : Nat} (ha : xbl a ≤ n) (hb : xbl b ≤ n) : xbl (a + b) ≤ n + 1 := by
  have h1 : a < 2 ^ n := Nat.lt_of_lt_of_le (xbl_lt a) (Nat.pow_le_pow_right (by omega) ha)
  have h2 : b < 2 ^ n := Nat.lt_of_lt_of_le (xbl_lt b) (Nat.pow_le_pow_right (by omega) hb)
  refine xbl_le ?_
  rw [Nat.pow_succ]
  omega
theorem xbl_prod (a b : Nat) : xbl (a * b) ≤ xbl a + xbl b := by
  refine xbl_le ?_
  rw [Nat.pow_add]
  exact Nat.mul_lt_mul'' (xbl_lt a) (xbl_lt b)
theorem xbl_pow (a k : Nat) (h : a ≠ 0) : xbl (a * 2 ^ k) = xbl a + k := by
  have := xbl_mul (k := k) (r := 0) h (Nat.two_pow_pos k)
  rwa [Nat.add_zero] at this
theorem xbl_powle (a k : Nat) : xbl (a * 2 ^ k) ≤ xbl a + k := by
  by_cases h : a = 0
  · subst h; rw [Nat.zero_mul]; exact Nat.zero_le _
  · exact Nat.le_of_eq (xbl_pow a k h)
theorem xbl_div (a k : Nat) : xbl (a / 2 ^ k) = xbl a - k := by
  by_cases h : a / 2 ^ k = 0
  · rw [h]
    have h1 : a < 2 ^ k := by
      rcases Nat.div_eq_zero_iff.mp h with h | h
      · have := Nat.two_pow_pos k; omega
      · exact h
    have := xbl_le h1
    rw [xbl_zero]
    omega
  · have := xbl_hi h
    omega
theorem xbl_2pow (k : Nat) : xbl (2 ^ k) = k + 1 := xbl_eq (Nat.le_refl _) (Nat.pow_lt_pow_right (by omega) (by omega))
theorem xbl_nz {a : Nat} : xbl a = 0 ↔ a = 0 := by
  constructor
  · intro h
    by_cases e : a = 0
    · exact e
    · have := xbl_of e; omega
  · rintro rfl; rfl
theorem xbl_one : xbl 1 = 1 := xbl_2pow 0
section
variable {d : Nat} {w0 w : xW} {S : Nat → Nat → Int} {V : Nat → Nat} {Q : Option Value ⊕ Nat → xW → Prop} {h h2 h3 : Nat} {k : Int}
theorem m_setn (hR : mR w0 S V w) (hh : isN h) (hh2 : isN h2) (hb : xbl (V h2) ≤ 30 * ncap h) (hQ : ∀ w', mR w0 S (uv V h (V h2)) w' → Q (.inl none) w') : xEv (d + 2) 182 0 (lv_args 0 [.ref h, .ref h2]) [] w Q := by
  obtain ⟨n, g, e1, e2, e3, e4, e5, e6⟩ := hR.2.2.2.2 h hh
  obtain ⟨m, f, f1, f2, f3, f4, f5, f6⟩ := hR.2.2.2.2 h2 hh2
  have hs := hh.self
  have hn := hh.ne
  have hm : m ≤ ncap h := nsz f6 (by rw [f5]; exact hb)
  have ha : h + 1 ≠ h2 := by
    by_cases e : h = h2
    · omega
    · exact (hh.two hh2 e).2
  refine setn_ev (d := d + 1) hs.1 hn.2.2.2.2.1 (by omega) (by omega) e1 e2 f1 f2 ha hm f3 f4 (fun g' g1 g2 => hQ _ (hR.natV hh hm (fun j hj => ?_) ((xvl_same g1).trans f5) ?_))
  · obtain ⟨x, x1, x2⟩ := f4 j hj
    exact ⟨x, (g1 j hj).trans x1, x2⟩
  · rcases f6 with h0 | h0
    · exact Or.inl h0
    · by_cases hz : m = 0
      · exact Or.inl hz
      · refine Or.inr ?_
        unfold xwd at h0 ⊢
        rw [g1 _ (by omega)]
        exact h0
theorem m_setl {v : Int64} (hR : mR w0 S V w) (hh : isN h) (hQ : ∀ w', mR w0 S (uv V h (xul v)) w' → Q (.inl none) w') : xEv (d + 2) 179 0 (lv_args 0 [.ref h, .long v]) [] w Q := by
  obtain ⟨n, g, e1, e2, e3, e4, e5, e6⟩ := hR.2.2.2.2 h hh
  have hs := hh.self
  have hn := hh.ne
  exact setl hs.1 hn.2.2.2.2.1 (by omega) (by omega) (by omega) e1 e2 (fun n' g' g1 g2 g3 g4 _ => hQ _ (hR.natV hh (by omega) g2 g3 g4))
theorem m_bits (hR : mR w0 S V w) (hh : isN h) (hQ : Q (.inl (some (.int (Int32.ofInt (xbl (V h)))))) w) : xEv (d + 2) 181 0 (lv_args 0 [.ref h]) [] w Q := by
  obtain ⟨n, g, e1, e2, e3, e4, e5, e6⟩ := hR.2.2.2.2 h hh
  have hs := hh.self
  refine bits_ev hs.2.1 e1 e2 e3 e4 e6 ?_
  rw [e5, ← oNn]
  exact hQ
theorem m_bit (hR : mR w0 S V w) (hh : isN h) (k0 : -2147483648 ≤ k) (k1 : k < 2147483648) (hQ : Q (.inl (some (.int (Int32.ofInt (bb (nbit (V h) k)))))) w) : xEv (d + 2) 184 0 (lv_args 0 [.ref h, .int (Int32.ofInt k)]) [] w Q := by
  obtain ⟨n, g, e1, e2, e3, e4, e5, e6⟩ := hR.2.2.2.2 h hh
  have hs := hh.self
  refine bit_ev (by omega) e1 e2 e3 e4 fun b hb => ?_
  rw [oI k0 k1, e5] at hb
  rcases hb with ⟨rfl, p1, p2⟩ | ⟨rfl, p⟩
  · have : nbit (V h) k = true := by unfold nbit; rw [decide_eq_true p1, decide_eq_true p2]; rfl
    rw [this] at hQ
    exact hQ
  · have : nbit (V h) k = false := by
      unfold nbit
      rcases p with p | p
      · rw [decide_eq_false (by omega)]; rfl
      · rw [decide_eq_false (p := _ = 1) (by omega), Bool.and_false]
    rw [this] at hQ
    exact hQ
theorem m_any (hR : mR w0 S V w) (hh : isN h) (k0 : -2147483648 ≤ k) (k1 : k < 2147483648) (hQ : Q (.inl (some (.int (Int32.ofInt (bb (nany (V h) k)))))) w) : xEv (d + 2) 183 0 (lv_args 0 [.ref h, .int (Int32.ofInt k)]) [] w Q := by
  obtain ⟨n, g, e1, e2, e3, e4, e5, e6⟩ := hR.2.2.2.2 h hh
  have hs := hh.self
  refine any_ev (by omega) e1 e2 e3 e4 fun b hb => ?_
  rw [oI k0 k1, e5] at hb
  rcases hb with ⟨rfl, p⟩ | ⟨rfl, p⟩
  · have : nany (V h) k = true := decide_eq_true p
    rw [this] at hQ
    exact hQ
  · have : nany (V h) k = false := decide_eq_false (fun e => e p)
    rw [this] at hQ
    exact hQ
theorem xcm_o (a b : Nat) : xcm a b = Int32.ofInt (ncmp a b) := by
  unfold xcm ncmp
  split
  · rfl
  · split <;> rfl
theorem m_cmp (hR : mR w0 S V w) (hh : isN h) (hh2 : isN h2) (hQ : Q (.inl (some (.int (Int32.ofInt (ncmp (V h) (V h2)))))) w) : xEv (d + 2) 211 0 (lv_args 0 [.ref h, .ref h2]) [] w Q := by
  obtain ⟨n, g, e1, e2, e3, e4, e5, e6⟩ := hR.2.2.2.2 h hh
  obtain ⟨m, f, f1, f2, f3, f4, f5, f6⟩ := hR.2.2.2.2 h2 hh2
  have hs := hh.self
  have hs2 := hh2.self
  refine cmp_ev (by omega) (by omega) e1 e2 f1 f2 e3 f3 e4 f4 e6 f6 ?_
  rw [e5, f5, xcm_o]
  exact hQ
theorem m_add (hR : mR w0 S V w) (hh : isN h) (hh2 : isN h2) (hne : h ≠ h2) (hb : xbl (V h) + 30 ≤ 30 * ncap h) (hb2 : xbl (V h2) + 30 ≤ 30 * ncap h) (hQ : ∀ w', mR w0 S (uv V h (V h + V h2)) w' → Q (.inl none) w') : xEv (d + 2) 203 0 (lv_args 0 [.ref h, .ref h2]) [] w Q := by
  obtain ⟨n, g, e1, e2, e3, e4, e5, e6⟩ := hR.2.2.2.2 h hh
  obtain ⟨m, f, f1, f2, f3, f4, f5, f6⟩ := hR.2.2.2.2 h2 hh2
  have hs := hh.self
  have hs2 := hh2.self
  have hn := hh.ne
  have ht := hh.two hh2 hne
  have hn1 : n ≤ ncap h - 1 := nsz e6 (by rw [e5]; omega)
  have hm1 : m ≤ ncap h - 1 := nsz f6 (by rw [f5]; omega)
  refine add_ev (by omega) (by omega) hs.1 hn.2.2.2.2.1 (by omega) (by omega) (by omega) e1 e2 f1 f2 (by omega) f3 e4 f4 (fun n' g' g1 g2 g3 g4 g5 _ => hQ _ (hR.natV hh (by omega) g3 (by rw [g4, e5, f5]) ?_))
  rcases g5 with e | e
  · by_cases hz : n' = 0
    · exact Or.inl hz
    · refine Or.inr (xtop_of (by omega) g3 ?_)
      rw [g4]
      rcases Nat.le_total n m with hnm | hnm
      · have e' : n' = m := by omega
        subst e'
        have : xwd f (n' - 1) ≠ 0 := by
          rcases f6 with h0 | h0
          · omega
          · exact h0
        have := xvl_low (by omega) this
        omega
      · have e' : n' = n := by omega
        subst e'
        have : xwd g (n' - 1) ≠ 0 := by
          rcases e6 with h0 | h0
          · omega
          · exact h0
        have := xvl_low (by omega) this
        omega
  · exact Or.inr e
theorem m_addi (hR : mR w0 S V w) (hh : isN h) (k0 : 0 ≤ k) (k1 : k < 1073741824) (hb : xbl (V h) + 30 ≤ 30 * ncap h) (hQ : ∀ w', mR w0 S (uv V h (V h + k.toNat)) w' → Q (.inl none) w') : xEv (d + 2) 189 0 (lv_args 0 [.ref h, .int (Int32.ofInt k)]) [] w Q := by
  obtain ⟨n, g, e1, e2, e3, e4, e5, e6⟩ := hR.2.2.2.2 h hh
  have hs := hh.self
  have hn := hh.ne
  have hn1 : n ≤ ncap h - 1 := nsz e6 (by rw [e5]; omega)
  rw [oN k0]
  exact addi_ev (by omega) hs.1 hn.2.2.2.2.1 (by omega) e1 e2 (by omega) (by omega) e4 e6 (fun n' g' g1 g2 g3 g4 => hQ _ (hR.natV hh (by omega) g2 (by rw [g3, e5]) g4))
theorem m_less (hR : mR w0 S V w) (hh : isN h) (hh2 : isN h2) (hne : h ≠ h2) (hle : V h2 ≤ V h) (hQ : ∀ w', mR w0 S (uv V h (V h - V h2)) w' → Q (.inl none) w') : xEv (d + 2) 191 0 (lv_args 0 [.ref h, .ref h2]) [] w Q := by
  obtain ⟨n, g, e1, e2, e3, e4, e5, e6⟩ := hR.2.2.2.2 h hh
  obtain ⟨m, f, f1, f2, f3, f4, f5, f6⟩ := hR.2.2.2.2 h2 hh2
  have hs := hh.self
  have hs2 := hh2.self
  have hn := hh.ne
  have ht := hh.two hh2 hne
  have hmn : m ≤ n := by
    refine nsz f6 ?_
    rw [f5]
    have h1 := xbl_mono hle
    have h2 := xbl_le (xvl_lt e4)
    rw [e5] at h2
    omega
  refine less_ev (d := d + 1) (by omega) (by omega) hs.1 hn.2.2.2.2.1 (by omega) (by omega) (by omega) e1 e2 f1 f2 e3 f3 e4 f4 hmn (by rw [e5, f5]; exact hle) (fun n' g' g1 g2 g3 g4 _ => hQ _ (hR.natV hh (by omega) g2 (by rw [g3, e5, f5]) g4))
theorem m_times (hR : mR w0 S V w) (hh : isN h) (k0 : 1 ≤ k) (k1 : k < 1073741824) (hb : xbl (V h) + 30 ≤ 30 * ncap h) (hQ : ∀ w', mR w0 S (uv V h (V h * k.toNat)) w' → Q (.inl none) w') : xEv (d + 2) 209 0 (lv_args 0 [.ref h, .int (Int32.ofInt k)]) [] w Q := by
  obtain ⟨n, g, e1, e2, e3, e4, e5, e6⟩ := hR.2.2.2.2 h hh
  have hs := hh.self
  have hn := hh.ne
  have hn1 : n ≤ ncap h - 1 := nsz e6 (by rw [e5]; omega)
  rw [oN (by omega)]
  exact times_ev (by omega) hs.1 hn.2.2.2.2.1 (by omega) e1 e2 (by omega) (by omega) (by omega) e4 e6 (fun n' g' g1 g2 g3 g4 => hQ _ (hR.natV hh (by omega) g2 (by rw [g3, e5]) g4))
theorem m_over (hR : mR w0 S V w) (hh : isN h) (k0 : 1 ≤ k) (k1 : k < 1073741824) (hQ : ∀ w', mR w0 S (uv V h (V h / k.toNat)) w' → Q (.inl (some (.int (Int32.ofInt ((V h % k.toNat : Nat) : Int))))) w') : xEv (d + 2) 210 0 (lv_args 0 [.ref h, .int (Int32.ofInt k)]) [] w Q := by
  obtain ⟨n, g, e1, e2, e3, e4, e5, e6⟩ := hR.2.2.2.2 h hh
  have hs := hh.self
  have hn := hh.ne
  rw [oN (by omega)]
  refine over_ev (d := d + 1) (by omega) hs.1 hn.2.2.2.2.1 (by omega) e1 e2 e3 (by omega) (by omega) e4 (fun n' g' g1 g2 g3 g4 => ?_)
  have := hQ _ (hR.natV hh (by omega) g2 (by rw [g3, e5]) g4)
  rw [oNn] at this
  rw [e5]
  exact this
theorem m_prod (hR : mR w0 S V w) (hh : isN h) (hh2 : isN h2) (hh3 : isN h3) (hne : h ≠ h2) (hne3 : h ≠ h3) (hb : xbl (V h2) + xbl (V h3) + 58 ≤ 30 * ncap h) (hQ : ∀ w', mR w0 S (uv V h (V h2 * V h3)) w' → Q (.inl none) w') : xEv (d + 2) 201 0 (lv_args 0 [.ref h, .ref h2, .ref h3]) [] w Q := by
  obtain ⟨n, g, e1, e2, e3, e4, e5, e6⟩ := hR.2.2.2.2 h hh
  obtain ⟨m, f, f1, f2, f3, f4, f5, f6⟩ := hR.2.2.2.2 h2 hh2
  obtain ⟨p, q, q1, q2, q3, q4, q5, q6⟩ := hR.2.2.2.2 h3 hh3
  have hs := hh.self
  have hs2 := hh2.self
  have hs3 := hh3.self
  have hn := hh.ne
  have ht := hh.two hh2 hne
  have ht3 := hh.two hh3 hne3
  have b1 := nszR f6
  have b2 := nszR q6
  rw [f5] at b1
  rw [q5] at b2
  exact prod_ev (by omega) (by omega) (by omega) hs.1 hn.2.2.2.2.1 (by omega) (by omega) (by omega) (by omega) (by omega) e1 e2 f1 f2 q1 q2 f3 q3 f4 q4 (by omega) (fun n' g' g1 g2 g3 g4 => hQ _ (hR.natV hh (by omega) g2 (by rw [g3, f5, q5]) g4))
theorem m_up (hR : mR w0 S V w) (hh : isN h) (k0 : 0 ≤ k) (k1 : k < 2147483648) (hb : (xbl (V h) : Int) + k + 59 ≤ 30 * ncap h) (hQ : ∀ w', mR w0 S (uv V h (V h * 2 ^ k.toNat)) w' → Q (.inl none) w') : xEv (d + 2) 188 0 (lv_args 0 [.ref h, .int (Int32.ofInt k)]) [] w Q := by
  obtain ⟨n, g, e1, e2, e3, e4, e5, e6⟩ := hR.2.2.2.2 h hh
  have hs := hh.self
  have hn := hh.ne
  have b1 := nszR e6
  rw [e5] at b1
  rw [oN k0]
  exact up_ev (d := d + 1) (by omega) hs.1 hn.2.2.2.2.1 (by omega) e1 e2 (by omega) (by omega) e4 e6 (fun n' g' g1 g2 g3 g4 _ => hQ _ (hR.natV hh (by omega) g2 (by rw [g3, e5]) g4))
theorem m_down (hR : mR w0 S V w) (hh : isN h) (k0 : 0 ≤ k) (k1 : k < 2147483648) (hQ : ∀ w', mR w0 S (uv V h (V h / 2 ^ k.toNat)) w' → Q (.inl none) w') : xEv (d + 2) 186 0 (lv_args 0 [.ref h, .int (Int32.ofInt k)]) [] w Q := by
  obtain ⟨n, g, e1, e2, e3, e4, e5, e6⟩ := hR.2.2.2.2 h hh
  have hs := hh.self
  have hn := hh.ne
  rw [oN k0]
  exact down_ev (d := d + 1) (by omega) hs.1 hn.2.2.2.2.1 (by omega) e1 e2 e3 (by omega) e4 (fun n' g' g1 g2 g3 g4 => hQ _ (hR.natV hh (by omega) g2 (by rw [g3, e5]) g4))
theorem m_one (hR : mR w0 S V w) (hh : isN h) (k0 : 0 ≤ k) (hb : k + 30 ≤ 30 * ncap h) (hQ : ∀ w', mR w0 S (uv V h (2 ^ k.toNat)) w' → Q (.inl none) w') : xEv (d + 2) 190 0 (lv_args 0 [.ref h, .int (Int32.ofInt k)]) [] w Q := by
  obtain ⟨n, g, e1, e2, e3, e4, e5, e6⟩ := hR.2.2.2.2 h hh
  have hs := hh.self
  have hn := hh.ne
  rw [oN k0]
  exact one_ev (by omega) hs.1 hn.2.2.2.2.1 (by omega) e1 e2 (by omega) (by omega) (fun n' g' g1 g2 g3 g4 => hQ _ (hR.natV hh (by omega) g2 g3 g4))
end
