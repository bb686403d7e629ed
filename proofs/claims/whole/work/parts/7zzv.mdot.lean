/-! dot of the reference -/
def tkQ (S : Nat → Nat → Int) (V : Nat → Nat) (f g : Int) : Nat → AT
  | 0 => tk0
  | k + 1 => tkp (tkQ S V f g k) (S 154 (f + (k : Int)).toNat) (S 156 (f + (k : Int)).toNat) (V (160 + 2 * (f + (k : Int)).toNat)) (S 155 (f + (k : Int)).toNat - S 153 (f + (k : Int)).toNat) (S 154 (g + (k : Int)).toNat) (S 156 (g + (k : Int)).toNat) (V (160 + 2 * (g + (k : Int)).toNat)) (S 155 (g + (k : Int)).toNat - S 153 (g + (k : Int)).toNat)
section
variable {n ka sa ea kb sb eb E : Int} {x : AT} {ma mb : Nat}
theorem tp_c (hka : 0 ≤ ka ∧ ka ≤ 3) (hkb : 0 ≤ kb ∧ kb ≤ 3) : ((ka = 3 ∧ kb = 3) ∧ tkp x ka sa ma ea kb sb mb eb = tk x 3 (xorI sa sb) (ma * mb) (ea + eb)) ∨ ((ka = 0 ∨ kb = 0) ∧ tkp x ka sa ma ea kb sb mb eb = (1, x.2)) ∨ ((ka ≠ 0 ∧ kb ≠ 0 ∧ ka ≠ 1 ∧ kb ≠ 1 ∧ (ka = 2 ∨ kb = 2)) ∧ tkp x ka sa ma ea kb sb mb eb = tk x 2 (xorI sa sb) 0 0) ∨ ((ka ≠ 0 ∧ kb ≠ 0 ∧ (ka = 1 ∨ kb = 1) ∧ (ka = 2 ∨ kb = 2)) ∧ tkp x ka sa ma ea kb sb mb eb = (x.1, 1, x.2.2)) ∨ ((ka ≠ 0 ∧ kb ≠ 0 ∧ (ka = 1 ∨ kb = 1) ∧ ka ≠ 2 ∧ kb ≠ 2) ∧ tkp x ka sa ma ea kb sb mb eb = tk x 1 (xorI sa sb) 0 0) := by
  unfold tkp
  by_cases h1 : ka = 3 ∧ kb = 3
  · exact Or.inl ⟨h1, if_pos h1⟩
  · rw [if_neg h1]
    by_cases h2 : ka = 0 ∨ kb = 0
    · exact Or.inr (Or.inl ⟨h2, if_pos h2⟩)
    · rw [if_neg h2]
      by_cases h3 : ka ≠ 1 ∧ kb ≠ 1
      · exact Or.inr (Or.inr (Or.inl ⟨by omega, if_pos h3⟩))
      · rw [if_neg h3]
        by_cases h4 : ka = 2 ∨ kb = 2
        · exact Or.inr (Or.inr (Or.inr (Or.inl ⟨by omega, if_pos h4⟩)))
        · exact Or.inr (Or.inr (Or.inr (Or.inr ⟨by omega, if_neg h4⟩)))
theorem tk_3 {sg sc : Int} {m : Nat} (hx : okT n x) (hs : sg = 0 ∨ sg = 1) (h : sc ≤ 2147483647) : (tk x 3 sg m sc).1 = x.1 ∧ (tk x 3 sg m sc).2.1 = x.2.1 ∧ (tk x 3 sg m sc).2.2.1 = x.2.2.1 ∧ (tk x 3 sg m sc).2.2.2.1 = x.2.2.2.1 ∧ eM (tk x 3 sg m sc) = min (eM x) sc ∧ (tk x 3 sg m sc).2.2.2.2.2.2.2.1 = 1 ∧ (tk x 3 sg m sc).2.2.2.2.2.2.2.2.1 = x.2.2.2.2.2.2.2.2.1 ∧ (tk x 3 sg m sc).2.2.2.2.2.2.2.2.2 = x.2.2.2.2.2.2.2.2.2 := by
  obtain ⟨t1, t2, t3, t4, t5, t6, t7, t8⟩ := tk1 (k := 3) (sg := sg) (m := m) (sc := sc) hx hs (fun _ => h)
  exact ⟨t1.trans (if_neg (by decide)), t2, t3.trans (if_neg (fun c => absurd c.1 (by decide))), t4.trans (if_neg (fun c => absurd c.1 (by decide))), t5.trans (if_pos rfl), t6.trans (if_pos rfl), t7.trans (if_neg (fun c => absurd c.1 (by decide))), t8.trans (if_neg (fun c => absurd c.1 (by decide)))⟩
theorem tk_2 {sg : Int} (hx : okT n x) (hs : sg = 0 ∨ sg = 1) : (tk x 2 sg 0 0).1 = x.1 ∧ (tk x 2 sg 0 0).2.1 = x.2.1 ∧ (tk x 2 sg 0 0).2.2.1 = x.2.2.1 ∧ (tk x 2 sg 0 0).2.2.2.1 = x.2.2.2.1 ∧ eM (tk x 2 sg 0 0) = eM x ∧ (tk x 2 sg 0 0).2.2.2.2.2.2.2.1 = x.2.2.2.2.2.2.2.1 ∧ (tk x 2 sg 0 0).2.2.2.2.2.2.2.2.1 = (if sg = 0 then 1 else x.2.2.2.2.2.2.2.2.1) ∧ (tk x 2 sg 0 0).2.2.2.2.2.2.2.2.2 = (if sg = 0 then x.2.2.2.2.2.2.2.2.2 else 1) := by
  obtain ⟨t1, t2, t3, t4, t5, t6, t7, t8⟩ := tk1 (k := 2) (sg := sg) (m := 0) (sc := 0) hx hs (fun c => absurd c (by decide))
  refine ⟨t1.trans (if_neg (by decide)), t2, t3.trans (if_neg (fun c => absurd c.1 (by decide))), t4.trans (if_neg (fun c => absurd c.1 (by decide))), t5.trans (if_neg (by decide)), t6.trans (if_neg (by decide)), t7.trans ?_, t8.trans ?_⟩
  · by_cases c : sg = 0
    · rw [if_pos ⟨rfl, c⟩, if_pos c]
    · rw [if_neg (fun k => c k.2), if_neg c]
  · by_cases c : sg = 0
    · rw [if_neg (fun k => k.2 c), if_pos c]
    · rw [if_pos ⟨rfl, c⟩, if_neg c]
theorem tk_1 {sg : Int} (hx : okT n x) (hs : sg = 0 ∨ sg = 1) : (tk x 1 sg 0 0).1 = x.1 ∧ (tk x 1 sg 0 0).2.1 = x.2.1 ∧ (tk x 1 sg 0 0).2.2.1 = (if sg = 0 then 1 else x.2.2.1) ∧ (tk x 1 sg 0 0).2.2.2.1 = (if sg = 0 then x.2.2.2.1 else 1) ∧ eM (tk x 1 sg 0 0) = eM x := by
  obtain ⟨t1, t2, t3, t4, t5, -⟩ := tk1 (k := 1) (sg := sg) (m := 0) (sc := 0) hx hs (fun c => absurd c (by decide))
  refine ⟨t1.trans (if_neg (by decide)), t2, t3.trans ?_, t4.trans ?_, t5.trans (if_neg (by decide))⟩
  · by_cases c : sg = 0
    · rw [if_pos ⟨rfl, c⟩, if_pos c]
    · rw [if_neg (fun k => c k.2), if_neg c]
  · by_cases c : sg = 0
    · rw [if_neg (fun k => k.2 c), if_pos c]
    · rw [if_pos ⟨rfl, c⟩, if_neg c]
theorem xor_01 {a b : Int} : xorI a b = 0 ∨ xorI a b = 1 := by unfold xorI; split <;> simp
theorem xor_z {a b : Int} : xorI a b = 0 ↔ a = b := by unfold xorI; split <;> simp_all
/-- a product's step in the first loop -/
theorem dq_step {wr up dn no e wr' up' dn' no' e' : Int} (hx : okT n x) (hka : 0 ≤ ka ∧ ka ≤ 3) (hkb : 0 ≤ kb ∧ kb ≤ 3) (hno : no = x.1) (hJ : x.1 = 0 → wr = x.2.1 ∧ e = eM x ∧ (x.2.1 = 0 → up = x.2.2.1 ∧ dn = x.2.2.2.1)) (h1 : no' = if ka = 0 ∨ kb = 0 then 1 else no) (h2 : wr' = if (ka = 1 ∨ kb = 1) ∧ (ka = 2 ∨ kb = 2) then 1 else wr) (h3 : up' = if (ka = 1 ∨ kb = 1) ∧ sa = sb then 1 else up) (h4 : dn' = if (ka = 1 ∨ kb = 1) ∧ sa ≠ sb then 1 else dn) (h5 : e' = if (ka ≠ 1 ∧ kb ≠ 1) ∧ (ka ≠ 2 ∧ kb ≠ 2) then min e (ea + eb) else e) (hee : ea + eb ≤ 2147483647) : no' = (tkp x ka sa ma ea kb sb mb eb).1 ∧ ((tkp x ka sa ma ea kb sb mb eb).1 = 0 → wr' = (tkp x ka sa ma ea kb sb mb eb).2.1 ∧ e' = eM (tkp x ka sa ma ea kb sb mb eb) ∧ ((tkp x ka sa ma ea kb sb mb eb).2.1 = 0 → up' = (tkp x ka sa ma ea kb sb mb eb).2.2.1 ∧ dn' = (tkp x ka sa ma ea kb sb mb eb).2.2.2.1)) := by
  rcases tp_c (x := x) (sa := sa) (ma := ma) (ea := ea) (sb := sb) (mb := mb) (eb := eb) hka hkb with ⟨c, e⟩ | ⟨c, e⟩ | ⟨c, e⟩ | ⟨c, e⟩ | ⟨c, e⟩
  · rw [if_neg (by omega)] at h1 h2 h3 h4
    rw [if_pos (by omega)] at h5
    obtain ⟨t1, t2, t3, t4, t5, -⟩ := tk_3 (sg := xorI sa sb) (m := ma * mb) (sc := ea + eb) hx xor_01 hee
    rw [e, t1, t2, t3, t4, t5, h1, h2, h3, h4, h5]
    refine ⟨hno, fun h => ?_⟩
    obtain ⟨j1, j2, j3⟩ := hJ h
    exact ⟨j1, by rw [j2], j3⟩
  · rw [if_pos c] at h1
    rw [e]
    exact ⟨h1, fun h => absurd h (show (1 : Int) ≠ 0 by decide)⟩
  · rw [if_neg (by omega)] at h1 h2 h3 h4 h5
    obtain ⟨t1, t2, t3, t4, t5, -⟩ := tk_2 (sg := xorI sa sb) hx xor_01
    rw [e, t1, t2, t3, t4, t5, h1, h2, h3, h4, h5]
    exact ⟨hno, hJ⟩
  · rw [if_neg (by omega)] at h1 h5
    rw [if_pos (by omega)] at h2
    rw [e, h1, h2, h5]
    refine ⟨hno, fun h => ⟨rfl, (hJ h).2.1, fun h => absurd h (show (1 : Int) ≠ 0 by decide)⟩⟩
  · rw [if_neg (by omega)] at h1 h2 h5
    obtain ⟨t1, t2, t3, t4, t5⟩ := tk_1 (sg := xorI sa sb) hx xor_01
    rw [e, t1, t2, t3, t4, t5, h1, h2, h5]
    refine ⟨hno, fun h => ?_⟩
    obtain ⟨j1, j2, j3⟩ := hJ h
    refine ⟨j1, j2, fun hi => ?_⟩
    obtain ⟨k1, k2⟩ := j3 hi
    rw [← k1, ← k2]
    by_cases hs : sa = sb
    · rw [if_pos ⟨c.2.2.1, hs⟩] at h3
      rw [if_neg (fun k => k.2 hs)] at h4
      rw [if_pos (xor_z.mpr hs), if_pos (xor_z.mpr hs)]
      exact ⟨h3, h4⟩
    · rw [if_neg (fun k => hs k.2)] at h3
      rw [if_pos ⟨c.2.2.1, hs⟩] at h4
      rw [if_neg (fun k => hs (xor_z.mp k)), if_neg (fun k => hs (xor_z.mp k))]
      exact ⟨h3, h4⟩
end
section
variable {d : Nat} {w0 w : xW} {S S1 : Nat → Nat → Int} {V V1 : Nat → Nat} {r f g n mode E : Int} {lv : xLv} {Q : Option Value ⊕ Nat → xW → Prop}
theorem okT_Q (hI : mI S V) (hf : 0 ≤ f) (hg : 0 ≤ g) : ∀ k : Nat, f + (k : Int) ≤ 16 → g + (k : Int) ≤ 16 → okT (k : Int) (tkQ S V f g k) := by
  intro k
  induction k with
  | zero => intro _ _; exact okT_0
  | succ k ih =>
    intro h h'
    obtain ⟨h1, h2, h3, h4, h5, -⟩ := hI.1 (f + (k : Int)).toNat (by omega)
    obtain ⟨g1, g2, g3, g4, g5, -⟩ := hI.1 (g + (k : Int)).toNat (by omega)
    have := okT_tkp (x := tkQ S V f g k) (ka := S 154 (f + (k : Int)).toNat) (sa := S 156 (f + (k : Int)).toNat) (ma := V (160 + 2 * (f + (k : Int)).toNat)) (ea := S 155 (f + (k : Int)).toNat - S 153 (f + (k : Int)).toNat) (kb := S 154 (g + (k : Int)).toNat) (sb := S 156 (g + (k : Int)).toNat) (mb := V (160 + 2 * (g + (k : Int)).toNat)) (eb := S 155 (g + (k : Int)).toNat - S 153 (g + (k : Int)).toNat) (by omega) (ih (by omega) (by omega)) (Or.inr (by omega)) (Or.inr (by omega))
    rw [show ((k + 1 : Nat) : Int) = (k : Int) + 1 by omega]
    exact this
def tQ_c (hI : mI S V) (hf : 0 ≤ f) (hg : 0 ≤ g) {k : Nat} (h : f + (k : Int) < 16) (h' : g + (k : Int) < 16) := tp_c (x := tkQ S V f g k) (ka := S 154 (f + (k : Int)).toNat) (sa := S 156 (f + (k : Int)).toNat) (ma := V (160 + 2 * (f + (k : Int)).toNat)) (ea := S 155 (f + (k : Int)).toNat - S 153 (f + (k : Int)).toNat) (kb := S 154 (g + (k : Int)).toNat) (sb := S 156 (g + (k : Int)).toNat) (mb := V (160 + 2 * (g + (k : Int)).toNat)) (eb := S 155 (g + (k : Int)).toNat - S 153 (g + (k : Int)).toNat) (hI.1 (f + (k : Int)).toNat (by omega)).2.1 (hI.1 (g + (k : Int)).toNat (by omega)).2.1
theorem tQ_1 (hI : mI S V) (hf : 0 ≤ f) (hg : 0 ≤ g) {k : Nat} (h : f + (k : Int) < 16) (h' : g + (k : Int) < 16) : eM (tkQ S V f g (k + 1)) ≤ eM (tkQ S V f g k) ∧ (tkQ S V f g k).1 ≤ (tkQ S V f g (k + 1)).1 ∧ (tkQ S V f g k).2.1 ≤ (tkQ S V f g (k + 1)).2.1 ∧ (tkQ S V f g k).2.2.1 ≤ (tkQ S V f g (k + 1)).2.2.1 ∧ (tkQ S V f g k).2.2.2.1 ≤ (tkQ S V f g (k + 1)).2.2.2.1 := by
  have hx := okT_Q hI hf hg k (by omega) (by omega)
  obtain ⟨b1, b2, b3, b4, -⟩ := okT_f hx
  obtain ⟨h1, h2, h3, h4, h5, -⟩ := hI.1 (f + (k : Int)).toNat (by omega)
  obtain ⟨g1, g2, g3, g4, g5, -⟩ := hI.1 (g + (k : Int)).toNat (by omega)
  rcases tQ_c hI hf hg h h' with ⟨c, e⟩ | ⟨c, e⟩ | ⟨c, e⟩ | ⟨c, e⟩ | ⟨c, e⟩
  · have e : tkQ S V f g (k + 1) = _ := e
    obtain ⟨t1, t2, t3, t4, t5, -⟩ := tk_3 (sg := xorI (S 156 (f + (k : Int)).toNat) (S 156 (g + (k : Int)).toNat)) (m := V (160 + 2 * (f + (k : Int)).toNat) * V (160 + 2 * (g + (k : Int)).toNat)) (sc := S 155 (f + (k : Int)).toNat - S 153 (f + (k : Int)).toNat + (S 155 (g + (k : Int)).toNat - S 153 (g + (k : Int)).toNat)) hx xor_01 (by omega)
    rw [e, t1, t2, t3, t4, t5]
    exact ⟨by omega, Int.le_refl _, Int.le_refl _, Int.le_refl _, Int.le_refl _⟩
  · have e : tkQ S V f g (k + 1) = _ := e
    rw [e]
    exact ⟨Int.le_refl _, by show _ ≤ (1 : Int); omega, Int.le_refl _, Int.le_refl _, Int.le_refl _⟩
  · have e : tkQ S V f g (k + 1) = _ := e
    obtain ⟨t1, t2, t3, t4, t5, -⟩ := tk_2 (sg := xorI (S 156 (f + (k : Int)).toNat) (S 156 (g + (k : Int)).toNat)) hx xor_01
    rw [e, t1, t2, t3, t4, t5]
    exact ⟨Int.le_refl _, Int.le_refl _, Int.le_refl _, Int.le_refl _, Int.le_refl _⟩
  · have e : tkQ S V f g (k + 1) = _ := e
    rw [e]
    exact ⟨Int.le_refl _, Int.le_refl _, by show _ ≤ (1 : Int); omega, Int.le_refl _, Int.le_refl _⟩
  · have e : tkQ S V f g (k + 1) = _ := e
    obtain ⟨t1, t2, t3, t4, t5⟩ := tk_1 (sg := xorI (S 156 (f + (k : Int)).toNat) (S 156 (g + (k : Int)).toNat)) hx xor_01
    rw [e, t1, t2, t3, t4, t5]
    refine ⟨Int.le_refl _, Int.le_refl _, Int.le_refl _, ?_, ?_⟩ <;> split <;> omega
theorem tQ_mono (hI : mI S V) (hf : 0 ≤ f) (hg : 0 ≤ g) {k m : Nat} (h : k ≤ m) (hm : f + (m : Int) ≤ 16) (hm' : g + (m : Int) ≤ 16) : eM (tkQ S V f g m) ≤ eM (tkQ S V f g k) ∧ (tkQ S V f g k).1 ≤ (tkQ S V f g m).1 ∧ (tkQ S V f g k).2.1 ≤ (tkQ S V f g m).2.1 ∧ (tkQ S V f g k).2.2.1 ≤ (tkQ S V f g m).2.2.1 ∧ (tkQ S V f g k).2.2.2.1 ≤ (tkQ S V f g m).2.2.2.1 := by
  induction m with
  | zero => rw [show k = 0 by omega]; exact ⟨Int.le_refl _, Int.le_refl _, Int.le_refl _, Int.le_refl _, Int.le_refl _⟩
  | succ m ih =>
    by_cases c : k = m + 1
    · rw [c]; exact ⟨Int.le_refl _, Int.le_refl _, Int.le_refl _, Int.le_refl _, Int.le_refl _⟩
    · obtain ⟨a1, a2, a3, a4, a5⟩ := ih (by omega) (by omega) (by omega)
      obtain ⟨t1, t2, t3, t4, t5⟩ := tQ_1 hI hf hg (k := m) (by omega) (by omega)
      omega
set_option maxHeartbeats 8000000 in
theorem dt_B {k : Nat} {e up dn no wr inf zer : Int} (hR : mR w0 S V w) (hI : mI S V) (hr : 0 ≤ r ∧ r ≤ 15) (hf : 0 ≤ f) (hg : 0 ≤ g) (hn : 1 ≤ n ∧ n ≤ 16) (hfn : f + n ≤ 16) (hgn : g + n ≤ 16) (hk : (k : Int) < n) (he : -2147483648 ≤ e ∧ e < 2147483648) (hup : up = 0 ∨ up = 1) (hdn : dn = 0 ∨ dn = 1) (hno : no = 0 ∨ no = 1) (hwr : wr = 0 ∨ wr = 1) (hinf : (inf = 1 ∧ (S 154 (f + (k : Int)).toNat = 1 ∨ S 154 (g + (k : Int)).toNat = 1)) ∨ (inf = 0 ∧ S 154 (f + (k : Int)).toNat ≠ 1 ∧ S 154 (g + (k : Int)).toNat ≠ 1)) (hzer : (zer = 1 ∧ (S 154 (f + (k : Int)).toNat = 2 ∨ S 154 (g + (k : Int)).toNat = 2)) ∨ (zer = 0 ∧ S 154 (f + (k : Int)).toNat ≠ 2 ∧ S 154 (g + (k : Int)).toNat ≠ 2)) (hN : ∀ {lv : xLv} {w : xW} {e' up' dn' wr' : Int}, mR w0 S V w → xld lv 0 = some (Value.ref 128) → xld lv 1 = some (Value.int (Int32.ofInt r)) → xld lv 2 = some (Value.int (Int32.ofInt f)) → xld lv 3 = some (Value.int (Int32.ofInt g)) → xld lv 4 = some (Value.int (Int32.ofInt n)) → xld lv 5 = some (Value.int (Int32.ofInt mode)) → xld lv 6 = some (Value.int (Int32.ofInt e')) → xld lv 7 = some (Value.int (Int32.ofInt up')) → xld lv 8 = some (Value.int (Int32.ofInt dn')) → xld lv 9 = some (Value.int (Int32.ofInt no)) → xld lv 10 = some (Value.int (Int32.ofInt wr')) → xld lv 11 = some (Value.int (Int32.ofInt ((k + 1 : Nat) : Int))) → wr' = (if (S 154 (f + (k : Int)).toNat = 1 ∨ S 154 (g + (k : Int)).toNat = 1) ∧ (S 154 (f + (k : Int)).toNat = 2 ∨ S 154 (g + (k : Int)).toNat = 2) then 1 else wr) → up' = (if (S 154 (f + (k : Int)).toNat = 1 ∨ S 154 (g + (k : Int)).toNat = 1) ∧ S 156 (f + (k : Int)).toNat = S 156 (g + (k : Int)).toNat then 1 else up) → dn' = (if (S 154 (f + (k : Int)).toNat = 1 ∨ S 154 (g + (k : Int)).toNat = 1) ∧ S 156 (f + (k : Int)).toNat ≠ S 156 (g + (k : Int)).toNat then 1 else dn) → e' = (if (S 154 (f + (k : Int)).toNat ≠ 1 ∧ S 154 (g + (k : Int)).toNat ≠ 1) ∧ (S 154 (f + (k : Int)).toNat ≠ 2 ∧ S 154 (g + (k : Int)).toNat ≠ 2) then min e ((S 155 (f + (k : Int)).toNat - S 153 (f + (k : Int)).toNat) + (S 155 (g + (k : Int)).toNat - S 153 (g + (k : Int)).toNat)) else e) → (-2147483648 ≤ e' ∧ e' < 2147483648) → (up' = 0 ∨ up' = 1) → (dn' = 0 ∨ dn' = 1) → (wr' = 0 ∨ wr' = 1) → xEv (d + 8) 231 74 lv [] w Q) (l0 : xld lv 0 = some (Value.ref 128)) (l1 : xld lv 1 = some (Value.int (Int32.ofInt r))) (l2 : xld lv 2 = some (Value.int (Int32.ofInt f))) (l3 : xld lv 3 = some (Value.int (Int32.ofInt g))) (l4 : xld lv 4 = some (Value.int (Int32.ofInt n))) (l5 : xld lv 5 = some (Value.int (Int32.ofInt mode))) (l6 : xld lv 6 = some (Value.int (Int32.ofInt e))) (l7 : xld lv 7 = some (Value.int (Int32.ofInt up))) (l8 : xld lv 8 = some (Value.int (Int32.ofInt dn))) (l9 : xld lv 9 = some (Value.int (Int32.ofInt no))) (l10 : xld lv 10 = some (Value.int (Int32.ofInt wr))) (l11 : xld lv 11 = some (Value.int (Int32.ofInt (k : Int)))) (l12 : xld lv 12 = some (Value.int (Int32.ofInt (f + (k : Int))))) (l13 : xld lv 13 = some (Value.int (Int32.ofInt (g + (k : Int))))) (l14 : xld lv 14 = some (Value.int (Int32.ofInt inf))) (l15 : xld lv 15 = some (Value.int (Int32.ofInt zer))) : xEv (d + 8) 231 181 lv [] w Q := by
  obtain ⟨hp_a, hk_a, hn_a, ht_a, hx_a, -⟩ := hI.1 (f + (k : Int)).toNat (by omega)
  obtain ⟨hp_b, hk_b, hn_b, ht_b, hx_b, -⟩ := hI.1 (g + (k : Int)).toNat (by omega)
  refine i_231_181 (x := 128) l0 ?_
  refine i_231_182 (v := Value.ref 156) hR.c128 rfl ?_
  refine i_231_185 (x := Int32.ofInt (f + (k : Int))) l12 ?_
  refine i_231_187z (v := Value.int (Int32.ofInt (S 156 ((f + (k : Int)).toNat)))) (hR.row a156) (ix0 (T := f + (k : Int)) (by omega) (by omega)) (ix1 (T := f + (k : Int)) (by omega) (by omega) (by omega)) (ra (T := f + (k : Int)) (by omega) (by omega) rfl) ?_
  refine i_231_188 (x := 128) l0 ?_
  refine i_231_189 (v := Value.ref 156) hR.c128 rfl ?_
  refine i_231_192 (x := Int32.ofInt (g + (k : Int))) l13 ?_
  refine i_231_194z (v := Value.int (Int32.ofInt (S 156 ((g + (k : Int)).toNat)))) (hR.row a156) (ix0 (T := g + (k : Int)) (by omega) (by omega)) (ix1 (T := g + (k : Int)) (by omega) (by omega) (by omega)) (ra (T := g + (k : Int)) (by omega) (by omega) rfl) ?_
  refine i_231_195 (b_eq (a := S 156 ((f + (k : Int)).toNat)) (b := S 156 ((g + (k : Int)).toNat)) ⟨by omega, by omega⟩ ⟨by omega, by omega⟩ fun c0 => ?_) (b_ne (a := S 156 ((f + (k : Int)).toNat)) (b := S 156 ((g + (k : Int)).toNat)) ⟨by omega, by omega⟩ ⟨by omega, by omega⟩ fun c0 => ?_)
  · refine i_231_202 ?_
    refine i_231_203 rfl ?_
    refine lgen1 (i := 16) (v := Value.int 0) (fun lv lg ls => ?_)
    replace l0 := lg 0 _ rfl rfl l0
    replace l1 := lg 1 _ rfl rfl l1
    replace l2 := lg 2 _ rfl rfl l2
    replace l3 := lg 3 _ rfl rfl l3
    replace l4 := lg 4 _ rfl rfl l4
    replace l5 := lg 5 _ rfl rfl l5
    replace l6 := lg 6 _ rfl rfl l6
    replace l7 := lg 7 _ rfl rfl l7
    replace l8 := lg 8 _ rfl rfl l8
    replace l9 := lg 9 _ rfl rfl l9
    replace l10 := lg 10 _ rfl rfl l10
    replace l11 := lg 11 _ rfl rfl l11
    replace l12 := lg 12 _ rfl rfl l12
    replace l13 := lg 13 _ rfl rfl l13
    replace l14 := lg 14 _ rfl rfl l14
    replace l15 := lg 15 _ rfl rfl l15
    have l16 := ls
    refine i_231_205 (x := Int32.ofInt wr) l10 ?_
    refine i_231_207 (x := Int32.ofInt inf) l14 ?_
    refine i_231_209 (z_eq (a := inf) ⟨by omega, by omega⟩ fun c1 => ?_) (z_ne (a := inf) ⟨by omega, by omega⟩ fun c1 => ?_)
    · refine i_231_221 ?_
      refine i_231_222 (c := Int32.ofInt wr) o_or0 ?_
      refine i_231_223 rfl ?_
      refine lgen1 (i := 10) (v := Value.int (Int32.ofInt wr)) (fun lv lg ls => ?_)
      replace l16 := lg 16 _ rfl rfl l16
      replace l0 := lg 0 _ rfl rfl l0
      replace l1 := lg 1 _ rfl rfl l1
      replace l2 := lg 2 _ rfl rfl l2
      replace l3 := lg 3 _ rfl rfl l3
      replace l4 := lg 4 _ rfl rfl l4
      replace l5 := lg 5 _ rfl rfl l5
      replace l6 := lg 6 _ rfl rfl l6
      replace l7 := lg 7 _ rfl rfl l7
      replace l8 := lg 8 _ rfl rfl l8
      replace l9 := lg 9 _ rfl rfl l9
      replace l11 := lg 11 _ rfl rfl l11
      replace l12 := lg 12 _ rfl rfl l12
      replace l13 := lg 13 _ rfl rfl l13
      replace l14 := lg 14 _ rfl rfl l14
      replace l15 := lg 15 _ rfl rfl l15
      have l10 := ls
      refine i_231_225 (x := Int32.ofInt up) l7 ?_
      refine i_231_227 (x := Int32.ofInt inf) l14 ?_
      refine i_231_229 (z_eq (a := inf) ⟨by omega, by omega⟩ fun c2 => ?_) (z_ne (a := inf) ⟨by omega, by omega⟩ fun c2 => absurd c2 (by omega))
      refine i_231_241 ?_
      refine i_231_242 (c := Int32.ofInt up) o_or0 ?_
      refine i_231_243 rfl ?_
      refine lgen1 (i := 7) (v := Value.int (Int32.ofInt up)) (fun lv lg ls => ?_)
      replace l10 := lg 10 _ rfl rfl l10
      replace l16 := lg 16 _ rfl rfl l16
      replace l0 := lg 0 _ rfl rfl l0
      replace l1 := lg 1 _ rfl rfl l1
      replace l2 := lg 2 _ rfl rfl l2
      replace l3 := lg 3 _ rfl rfl l3
      replace l4 := lg 4 _ rfl rfl l4
      replace l5 := lg 5 _ rfl rfl l5
      replace l6 := lg 6 _ rfl rfl l6
      replace l8 := lg 8 _ rfl rfl l8
      replace l9 := lg 9 _ rfl rfl l9
      replace l11 := lg 11 _ rfl rfl l11
      replace l12 := lg 12 _ rfl rfl l12
      replace l13 := lg 13 _ rfl rfl l13
      replace l14 := lg 14 _ rfl rfl l14
      replace l15 := lg 15 _ rfl rfl l15
      have l7 := ls
      refine i_231_245 (x := Int32.ofInt dn) l8 ?_
      refine i_231_247 (x := Int32.ofInt inf) l14 ?_
      refine i_231_249 (z_eq (a := inf) ⟨by omega, by omega⟩ fun c3 => ?_) (z_ne (a := inf) ⟨by omega, by omega⟩ fun c3 => absurd c3 (by omega))
      refine i_231_261 ?_
      refine i_231_262 (c := Int32.ofInt dn) o_or0 ?_
      refine i_231_263 rfl ?_
      refine lgen1 (i := 8) (v := Value.int (Int32.ofInt dn)) (fun lv lg ls => ?_)
      replace l7 := lg 7 _ rfl rfl l7
      replace l10 := lg 10 _ rfl rfl l10
      replace l16 := lg 16 _ rfl rfl l16
      replace l0 := lg 0 _ rfl rfl l0
      replace l1 := lg 1 _ rfl rfl l1
      replace l2 := lg 2 _ rfl rfl l2
      replace l3 := lg 3 _ rfl rfl l3
      replace l4 := lg 4 _ rfl rfl l4
      replace l5 := lg 5 _ rfl rfl l5
      replace l6 := lg 6 _ rfl rfl l6
      replace l9 := lg 9 _ rfl rfl l9
      replace l11 := lg 11 _ rfl rfl l11
      replace l12 := lg 12 _ rfl rfl l12
      replace l13 := lg 13 _ rfl rfl l13
      replace l14 := lg 14 _ rfl rfl l14
      replace l15 := lg 15 _ rfl rfl l15
      have l8 := ls
      refine i_231_265 (x := Int32.ofInt inf) l14 ?_
      refine i_231_267 (z_ne (a := inf) ⟨by omega, by omega⟩ fun c4 => absurd c4 (by omega)) (z_eq (a := inf) ⟨by omega, by omega⟩ fun c4 => ?_)
      refine i_231_270 (x := Int32.ofInt zer) l15 ?_
      refine i_231_272 (z_ne (a := zer) ⟨by omega, by omega⟩ fun c5 => ?_) (z_eq (a := zer) ⟨by omega, by omega⟩ fun c5 => ?_)
      · refine i_231_295 (x := (Int32.ofInt (k : Int))) (c := (Int32.ofInt ((k : Int) + 1))) l11 (o_add (k : Int) 1) rfl ?_
        refine lgen1 (i := 11) (v := Value.int (Int32.ofInt ((k : Int) + 1))) (fun lv lg ls => ?_)
        replace l8 := lg 8 _ rfl rfl l8
        replace l7 := lg 7 _ rfl rfl l7
        replace l10 := lg 10 _ rfl rfl l10
        replace l16 := lg 16 _ rfl rfl l16
        replace l0 := lg 0 _ rfl rfl l0
        replace l1 := lg 1 _ rfl rfl l1
        replace l2 := lg 2 _ rfl rfl l2
        replace l3 := lg 3 _ rfl rfl l3
        replace l4 := lg 4 _ rfl rfl l4
        replace l5 := lg 5 _ rfl rfl l5
        replace l6 := lg 6 _ rfl rfl l6
        replace l9 := lg 9 _ rfl rfl l9
        replace l12 := lg 12 _ rfl rfl l12
        replace l13 := lg 13 _ rfl rfl l13
        replace l14 := lg 14 _ rfl rfl l14
        replace l15 := lg 15 _ rfl rfl l15
        have l11 := ls
        refine i_231_298 ?_
        exact hN (e' := e) (up' := up) (dn' := dn) (wr' := wr) hR l0 l1 l2 l3 l4 l5 l6 l7 l8 l9 l10 (by rw [show ((k + 1 : Nat) : Int) = (k : Int) + 1 by omega]; exact l11) (by rw [if_neg (by omega)]) (by rw [if_neg (by omega)]) (by rw [if_neg (by omega)]) (by rw [if_neg (by omega)]) (by omega) (by omega) (by omega) (by omega)
      · refine i_231_275 (x := Int32.ofInt e) l6 ?_
        refine i_231_277 (x := 128) l0 ?_
        refine i_231_278 (x := Int32.ofInt (f + (k : Int))) l12 ?_
        have hobj := hR.c128
        obtain ⟨w, hrun, hR⟩ := s_exponent (d := d + 6) (r := f + (k : Int)) hR (by omega) (by omega)
        refine i_231_280 hobj (Nat.le_of_ble_eq_true rfl) hrun ?_
        refine i_231_283 (x := 128) l0 ?_
        refine i_231_284 (x := Int32.ofInt (g + (k : Int))) l13 ?_
        have hobj := hR.c128
        obtain ⟨w, hrun, hR⟩ := s_exponent (d := d + 6) (r := g + (k : Int)) hR (by omega) (by omega)
        refine i_231_286 hobj (Nat.le_of_ble_eq_true rfl) hrun ?_
        refine i_231_289 (c := Int32.ofInt ((S 155 (f + (k : Int)).toNat - S 153 (f + (k : Int)).toNat) + (S 155 (g + (k : Int)).toNat - S 153 (g + (k : Int)).toNat))) (o_add (S 155 (f + (k : Int)).toNat - S 153 (f + (k : Int)).toNat) (S 155 (g + (k : Int)).toNat - S 153 (g + (k : Int)).toNat)) ?_
        have hrun := s_min (d := d + 6) (w := w) (a := e) (b := (S 155 (f + (k : Int)).toNat - S 153 (f + (k : Int)).toNat) + (S 155 (g + (k : Int)).toNat - S 153 (g + (k : Int)).toNat)) ⟨by omega, by omega⟩ ⟨by omega, by omega⟩
        refine i_231_290 (Nat.le_of_ble_eq_true rfl) hrun ?_
        refine i_231_293 rfl ?_
        refine lgen1 (i := 6) (v := Value.int (Int32.ofInt (min e ((S 155 (f + (k : Int)).toNat - S 153 (f + (k : Int)).toNat) + (S 155 (g + (k : Int)).toNat - S 153 (g + (k : Int)).toNat))))) (fun lv lg ls => ?_)
        replace l8 := lg 8 _ rfl rfl l8
        replace l7 := lg 7 _ rfl rfl l7
        replace l10 := lg 10 _ rfl rfl l10
        replace l16 := lg 16 _ rfl rfl l16
        replace l0 := lg 0 _ rfl rfl l0
        replace l1 := lg 1 _ rfl rfl l1
        replace l2 := lg 2 _ rfl rfl l2
        replace l3 := lg 3 _ rfl rfl l3
        replace l4 := lg 4 _ rfl rfl l4
        replace l5 := lg 5 _ rfl rfl l5
        replace l9 := lg 9 _ rfl rfl l9
        replace l11 := lg 11 _ rfl rfl l11
        replace l12 := lg 12 _ rfl rfl l12
        replace l13 := lg 13 _ rfl rfl l13
        replace l14 := lg 14 _ rfl rfl l14
        replace l15 := lg 15 _ rfl rfl l15
        have l6 := ls
        refine i_231_295 (x := (Int32.ofInt (k : Int))) (c := (Int32.ofInt ((k : Int) + 1))) l11 (o_add (k : Int) 1) rfl ?_
        refine lgen1 (i := 11) (v := Value.int (Int32.ofInt ((k : Int) + 1))) (fun lv lg ls => ?_)
        replace l6 := lg 6 _ rfl rfl l6
        replace l8 := lg 8 _ rfl rfl l8
        replace l7 := lg 7 _ rfl rfl l7
        replace l10 := lg 10 _ rfl rfl l10
        replace l16 := lg 16 _ rfl rfl l16
        replace l0 := lg 0 _ rfl rfl l0
        replace l1 := lg 1 _ rfl rfl l1
        replace l2 := lg 2 _ rfl rfl l2
        replace l3 := lg 3 _ rfl rfl l3
        replace l4 := lg 4 _ rfl rfl l4
        replace l5 := lg 5 _ rfl rfl l5
        replace l9 := lg 9 _ rfl rfl l9
        replace l12 := lg 12 _ rfl rfl l12
        replace l13 := lg 13 _ rfl rfl l13
        replace l14 := lg 14 _ rfl rfl l14
        replace l15 := lg 15 _ rfl rfl l15
        have l11 := ls
        refine i_231_298 ?_
        exact hN (e' := min e ((S 155 (f + (k : Int)).toNat - S 153 (f + (k : Int)).toNat) + (S 155 (g + (k : Int)).toNat - S 153 (g + (k : Int)).toNat))) (up' := up) (dn' := dn) (wr' := wr) hR l0 l1 l2 l3 l4 l5 l6 l7 l8 l9 l10 (by rw [show ((k + 1 : Nat) : Int) = (k : Int) + 1 by omega]; exact l11) (by rw [if_neg (by omega)]) (by rw [if_neg (by omega)]) (by rw [if_neg (by omega)]) (by rw [if_pos (by omega)]) (by omega) (by omega) (by omega) (by omega)
    · refine i_231_212 (x := Int32.ofInt zer) l15 ?_
      refine i_231_214 (z_eq (a := zer) ⟨by omega, by omega⟩ fun c6 => ?_) (z_ne (a := zer) ⟨by omega, by omega⟩ fun c6 => ?_)
      · refine i_231_221 ?_
        refine i_231_222 (c := Int32.ofInt wr) o_or0 ?_
        refine i_231_223 rfl ?_
        refine lgen1 (i := 10) (v := Value.int (Int32.ofInt wr)) (fun lv lg ls => ?_)
        replace l16 := lg 16 _ rfl rfl l16
        replace l0 := lg 0 _ rfl rfl l0
        replace l1 := lg 1 _ rfl rfl l1
        replace l2 := lg 2 _ rfl rfl l2
        replace l3 := lg 3 _ rfl rfl l3
        replace l4 := lg 4 _ rfl rfl l4
        replace l5 := lg 5 _ rfl rfl l5
        replace l6 := lg 6 _ rfl rfl l6
        replace l7 := lg 7 _ rfl rfl l7
        replace l8 := lg 8 _ rfl rfl l8
        replace l9 := lg 9 _ rfl rfl l9
        replace l11 := lg 11 _ rfl rfl l11
        replace l12 := lg 12 _ rfl rfl l12
        replace l13 := lg 13 _ rfl rfl l13
        replace l14 := lg 14 _ rfl rfl l14
        replace l15 := lg 15 _ rfl rfl l15
        have l10 := ls
        refine i_231_225 (x := Int32.ofInt up) l7 ?_
        refine i_231_227 (x := Int32.ofInt inf) l14 ?_
        refine i_231_229 (z_eq (a := inf) ⟨by omega, by omega⟩ fun c7 => absurd c7 (by omega)) (z_ne (a := inf) ⟨by omega, by omega⟩ fun c7 => ?_)
        refine i_231_232 (x := 0) l16 ?_
        refine i_231_234 (fun c => absurd c (by decide)) (fun _ => ?_)
        refine i_231_237 ?_
        refine i_231_238 ?_
        refine i_231_242 (c := 1) (o_orb1 (x := up) (by omega)) ?_
        refine i_231_243 rfl ?_
        refine lgen1 (i := 7) (v := Value.int 1) (fun lv lg ls => ?_)
        replace l10 := lg 10 _ rfl rfl l10
        replace l16 := lg 16 _ rfl rfl l16
        replace l0 := lg 0 _ rfl rfl l0
        replace l1 := lg 1 _ rfl rfl l1
        replace l2 := lg 2 _ rfl rfl l2
        replace l3 := lg 3 _ rfl rfl l3
        replace l4 := lg 4 _ rfl rfl l4
        replace l5 := lg 5 _ rfl rfl l5
        replace l6 := lg 6 _ rfl rfl l6
        replace l8 := lg 8 _ rfl rfl l8
        replace l9 := lg 9 _ rfl rfl l9
        replace l11 := lg 11 _ rfl rfl l11
        replace l12 := lg 12 _ rfl rfl l12
        replace l13 := lg 13 _ rfl rfl l13
        replace l14 := lg 14 _ rfl rfl l14
        replace l15 := lg 15 _ rfl rfl l15
        have l7 := ls
        refine i_231_245 (x := Int32.ofInt dn) l8 ?_
        refine i_231_247 (x := Int32.ofInt inf) l14 ?_
        refine i_231_249 (z_eq (a := inf) ⟨by omega, by omega⟩ fun c8 => absurd c8 (by omega)) (z_ne (a := inf) ⟨by omega, by omega⟩ fun c8 => ?_)
        refine i_231_252 (x := 0) l16 ?_
        refine i_231_254 (fun _ => ?_) (fun c => absurd c (by decide))
        refine i_231_261 ?_
        refine i_231_262 (c := Int32.ofInt dn) o_or0 ?_
        refine i_231_263 rfl ?_
        refine lgen1 (i := 8) (v := Value.int (Int32.ofInt dn)) (fun lv lg ls => ?_)
        replace l7 := lg 7 _ rfl rfl l7
        replace l10 := lg 10 _ rfl rfl l10
        replace l16 := lg 16 _ rfl rfl l16
        replace l0 := lg 0 _ rfl rfl l0
        replace l1 := lg 1 _ rfl rfl l1
        replace l2 := lg 2 _ rfl rfl l2
        replace l3 := lg 3 _ rfl rfl l3
        replace l4 := lg 4 _ rfl rfl l4
        replace l5 := lg 5 _ rfl rfl l5
        replace l6 := lg 6 _ rfl rfl l6
        replace l9 := lg 9 _ rfl rfl l9
        replace l11 := lg 11 _ rfl rfl l11
        replace l12 := lg 12 _ rfl rfl l12
        replace l13 := lg 13 _ rfl rfl l13
        replace l14 := lg 14 _ rfl rfl l14
        replace l15 := lg 15 _ rfl rfl l15
        have l8 := ls
        refine i_231_265 (x := Int32.ofInt inf) l14 ?_
        refine i_231_267 (z_ne (a := inf) ⟨by omega, by omega⟩ fun c9 => ?_) (z_eq (a := inf) ⟨by omega, by omega⟩ fun c9 => absurd c9 (by omega))
        refine i_231_295 (x := (Int32.ofInt (k : Int))) (c := (Int32.ofInt ((k : Int) + 1))) l11 (o_add (k : Int) 1) rfl ?_
        refine lgen1 (i := 11) (v := Value.int (Int32.ofInt ((k : Int) + 1))) (fun lv lg ls => ?_)
        replace l8 := lg 8 _ rfl rfl l8
        replace l7 := lg 7 _ rfl rfl l7
        replace l10 := lg 10 _ rfl rfl l10
        replace l16 := lg 16 _ rfl rfl l16
        replace l0 := lg 0 _ rfl rfl l0
        replace l1 := lg 1 _ rfl rfl l1
        replace l2 := lg 2 _ rfl rfl l2
        replace l3 := lg 3 _ rfl rfl l3
        replace l4 := lg 4 _ rfl rfl l4
        replace l5 := lg 5 _ rfl rfl l5
        replace l6 := lg 6 _ rfl rfl l6
        replace l9 := lg 9 _ rfl rfl l9
        replace l12 := lg 12 _ rfl rfl l12
        replace l13 := lg 13 _ rfl rfl l13
        replace l14 := lg 14 _ rfl rfl l14
        replace l15 := lg 15 _ rfl rfl l15
        have l11 := ls
        refine i_231_298 ?_
        exact hN (e' := e) (up' := 1) (dn' := dn) (wr' := wr) hR l0 l1 l2 l3 l4 l5 l6 l7 l8 l9 l10 (by rw [show ((k + 1 : Nat) : Int) = (k : Int) + 1 by omega]; exact l11) (by rw [if_neg (by omega)]) (by rw [if_pos (by omega)]) (by rw [if_neg (by omega)]) (by rw [if_neg (by omega)]) (by omega) (by omega) (by omega) (by omega)
      · refine i_231_217 ?_
        refine i_231_218 ?_
        refine i_231_222 (c := 1) (o_orb1 (x := wr) (by omega)) ?_
        refine i_231_223 rfl ?_
        refine lgen1 (i := 10) (v := Value.int 1) (fun lv lg ls => ?_)
        replace l16 := lg 16 _ rfl rfl l16
        replace l0 := lg 0 _ rfl rfl l0
        replace l1 := lg 1 _ rfl rfl l1
        replace l2 := lg 2 _ rfl rfl l2
        replace l3 := lg 3 _ rfl rfl l3
        replace l4 := lg 4 _ rfl rfl l4
        replace l5 := lg 5 _ rfl rfl l5
        replace l6 := lg 6 _ rfl rfl l6
        replace l7 := lg 7 _ rfl rfl l7
        replace l8 := lg 8 _ rfl rfl l8
        replace l9 := lg 9 _ rfl rfl l9
        replace l11 := lg 11 _ rfl rfl l11
        replace l12 := lg 12 _ rfl rfl l12
        replace l13 := lg 13 _ rfl rfl l13
        replace l14 := lg 14 _ rfl rfl l14
        replace l15 := lg 15 _ rfl rfl l15
        have l10 := ls
        refine i_231_225 (x := Int32.ofInt up) l7 ?_
        refine i_231_227 (x := Int32.ofInt inf) l14 ?_
        refine i_231_229 (z_eq (a := inf) ⟨by omega, by omega⟩ fun c10 => absurd c10 (by omega)) (z_ne (a := inf) ⟨by omega, by omega⟩ fun c10 => ?_)
        refine i_231_232 (x := 0) l16 ?_
        refine i_231_234 (fun c => absurd c (by decide)) (fun _ => ?_)
        refine i_231_237 ?_
        refine i_231_238 ?_
        refine i_231_242 (c := 1) (o_orb1 (x := up) (by omega)) ?_
        refine i_231_243 rfl ?_
        refine lgen1 (i := 7) (v := Value.int 1) (fun lv lg ls => ?_)
        replace l10 := lg 10 _ rfl rfl l10
        replace l16 := lg 16 _ rfl rfl l16
        replace l0 := lg 0 _ rfl rfl l0
        replace l1 := lg 1 _ rfl rfl l1
        replace l2 := lg 2 _ rfl rfl l2
        replace l3 := lg 3 _ rfl rfl l3
        replace l4 := lg 4 _ rfl rfl l4
        replace l5 := lg 5 _ rfl rfl l5
        replace l6 := lg 6 _ rfl rfl l6
        replace l8 := lg 8 _ rfl rfl l8
        replace l9 := lg 9 _ rfl rfl l9
        replace l11 := lg 11 _ rfl rfl l11
        replace l12 := lg 12 _ rfl rfl l12
        replace l13 := lg 13 _ rfl rfl l13
        replace l14 := lg 14 _ rfl rfl l14
        replace l15 := lg 15 _ rfl rfl l15
        have l7 := ls
        refine i_231_245 (x := Int32.ofInt dn) l8 ?_
        refine i_231_247 (x := Int32.ofInt inf) l14 ?_
        refine i_231_249 (z_eq (a := inf) ⟨by omega, by omega⟩ fun c11 => absurd c11 (by omega)) (z_ne (a := inf) ⟨by omega, by omega⟩ fun c11 => ?_)
        refine i_231_252 (x := 0) l16 ?_
        refine i_231_254 (fun _ => ?_) (fun c => absurd c (by decide))
        refine i_231_261 ?_
        refine i_231_262 (c := Int32.ofInt dn) o_or0 ?_
        refine i_231_263 rfl ?_
        refine lgen1 (i := 8) (v := Value.int (Int32.ofInt dn)) (fun lv lg ls => ?_)
        replace l7 := lg 7 _ rfl rfl l7
        replace l10 := lg 10 _ rfl rfl l10
        replace l16 := lg 16 _ rfl rfl l16
        replace l0 := lg 0 _ rfl rfl l0
        replace l1 := lg 1 _ rfl rfl l1
        replace l2 := lg 2 _ rfl rfl l2
        replace l3 := lg 3 _ rfl rfl l3
        replace l4 := lg 4 _ rfl rfl l4
        replace l5 := lg 5 _ rfl rfl l5
        replace l6 := lg 6 _ rfl rfl l6
        replace l9 := lg 9 _ rfl rfl l9
        replace l11 := lg 11 _ rfl rfl l11
        replace l12 := lg 12 _ rfl rfl l12
        replace l13 := lg 13 _ rfl rfl l13
        replace l14 := lg 14 _ rfl rfl l14
        replace l15 := lg 15 _ rfl rfl l15
        have l8 := ls
        refine i_231_265 (x := Int32.ofInt inf) l14 ?_
        refine i_231_267 (z_ne (a := inf) ⟨by omega, by omega⟩ fun c12 => ?_) (z_eq (a := inf) ⟨by omega, by omega⟩ fun c12 => absurd c12 (by omega))
        refine i_231_295 (x := (Int32.ofInt (k : Int))) (c := (Int32.ofInt ((k : Int) + 1))) l11 (o_add (k : Int) 1) rfl ?_
        refine lgen1 (i := 11) (v := Value.int (Int32.ofInt ((k : Int) + 1))) (fun lv lg ls => ?_)
        replace l8 := lg 8 _ rfl rfl l8
        replace l7 := lg 7 _ rfl rfl l7
        replace l10 := lg 10 _ rfl rfl l10
        replace l16 := lg 16 _ rfl rfl l16
        replace l0 := lg 0 _ rfl rfl l0
        replace l1 := lg 1 _ rfl rfl l1
        replace l2 := lg 2 _ rfl rfl l2
        replace l3 := lg 3 _ rfl rfl l3
        replace l4 := lg 4 _ rfl rfl l4
        replace l5 := lg 5 _ rfl rfl l5
        replace l6 := lg 6 _ rfl rfl l6
        replace l9 := lg 9 _ rfl rfl l9
        replace l12 := lg 12 _ rfl rfl l12
        replace l13 := lg 13 _ rfl rfl l13
        replace l14 := lg 14 _ rfl rfl l14
        replace l15 := lg 15 _ rfl rfl l15
        have l11 := ls
        refine i_231_298 ?_
        exact hN (e' := e) (up' := 1) (dn' := dn) (wr' := 1) hR l0 l1 l2 l3 l4 l5 l6 l7 l8 l9 l10 (by rw [show ((k + 1 : Nat) : Int) = (k : Int) + 1 by omega]; exact l11) (by rw [if_pos (by omega)]) (by rw [if_pos (by omega)]) (by rw [if_neg (by omega)]) (by rw [if_neg (by omega)]) (by omega) (by omega) (by omega) (by omega)
  · refine i_231_198 ?_
    refine i_231_199 ?_
    refine i_231_203 rfl ?_
    refine lgen1 (i := 16) (v := Value.int 1) (fun lv lg ls => ?_)
    replace l0 := lg 0 _ rfl rfl l0
    replace l1 := lg 1 _ rfl rfl l1
    replace l2 := lg 2 _ rfl rfl l2
    replace l3 := lg 3 _ rfl rfl l3
    replace l4 := lg 4 _ rfl rfl l4
    replace l5 := lg 5 _ rfl rfl l5
    replace l6 := lg 6 _ rfl rfl l6
    replace l7 := lg 7 _ rfl rfl l7
    replace l8 := lg 8 _ rfl rfl l8
    replace l9 := lg 9 _ rfl rfl l9
    replace l10 := lg 10 _ rfl rfl l10
    replace l11 := lg 11 _ rfl rfl l11
    replace l12 := lg 12 _ rfl rfl l12
    replace l13 := lg 13 _ rfl rfl l13
    replace l14 := lg 14 _ rfl rfl l14
    replace l15 := lg 15 _ rfl rfl l15
    have l16 := ls
    refine i_231_205 (x := Int32.ofInt wr) l10 ?_
    refine i_231_207 (x := Int32.ofInt inf) l14 ?_
    refine i_231_209 (z_eq (a := inf) ⟨by omega, by omega⟩ fun c13 => ?_) (z_ne (a := inf) ⟨by omega, by omega⟩ fun c13 => ?_)
    · refine i_231_221 ?_
      refine i_231_222 (c := Int32.ofInt wr) o_or0 ?_
      refine i_231_223 rfl ?_
      refine lgen1 (i := 10) (v := Value.int (Int32.ofInt wr)) (fun lv lg ls => ?_)
      replace l16 := lg 16 _ rfl rfl l16
      replace l0 := lg 0 _ rfl rfl l0
      replace l1 := lg 1 _ rfl rfl l1
      replace l2 := lg 2 _ rfl rfl l2
      replace l3 := lg 3 _ rfl rfl l3
      replace l4 := lg 4 _ rfl rfl l4
      replace l5 := lg 5 _ rfl rfl l5
      replace l6 := lg 6 _ rfl rfl l6
      replace l7 := lg 7 _ rfl rfl l7
      replace l8 := lg 8 _ rfl rfl l8
      replace l9 := lg 9 _ rfl rfl l9
      replace l11 := lg 11 _ rfl rfl l11
      replace l12 := lg 12 _ rfl rfl l12
      replace l13 := lg 13 _ rfl rfl l13
      replace l14 := lg 14 _ rfl rfl l14
      replace l15 := lg 15 _ rfl rfl l15
      have l10 := ls
      refine i_231_225 (x := Int32.ofInt up) l7 ?_
      refine i_231_227 (x := Int32.ofInt inf) l14 ?_
      refine i_231_229 (z_eq (a := inf) ⟨by omega, by omega⟩ fun c14 => ?_) (z_ne (a := inf) ⟨by omega, by omega⟩ fun c14 => absurd c14 (by omega))
      refine i_231_241 ?_
      refine i_231_242 (c := Int32.ofInt up) o_or0 ?_
      refine i_231_243 rfl ?_
      refine lgen1 (i := 7) (v := Value.int (Int32.ofInt up)) (fun lv lg ls => ?_)
      replace l10 := lg 10 _ rfl rfl l10
      replace l16 := lg 16 _ rfl rfl l16
      replace l0 := lg 0 _ rfl rfl l0
      replace l1 := lg 1 _ rfl rfl l1
      replace l2 := lg 2 _ rfl rfl l2
      replace l3 := lg 3 _ rfl rfl l3
      replace l4 := lg 4 _ rfl rfl l4
      replace l5 := lg 5 _ rfl rfl l5
      replace l6 := lg 6 _ rfl rfl l6
      replace l8 := lg 8 _ rfl rfl l8
      replace l9 := lg 9 _ rfl rfl l9
      replace l11 := lg 11 _ rfl rfl l11
      replace l12 := lg 12 _ rfl rfl l12
      replace l13 := lg 13 _ rfl rfl l13
      replace l14 := lg 14 _ rfl rfl l14
      replace l15 := lg 15 _ rfl rfl l15
      have l7 := ls
      refine i_231_245 (x := Int32.ofInt dn) l8 ?_
      refine i_231_247 (x := Int32.ofInt inf) l14 ?_
      refine i_231_249 (z_eq (a := inf) ⟨by omega, by omega⟩ fun c15 => ?_) (z_ne (a := inf) ⟨by omega, by omega⟩ fun c15 => absurd c15 (by omega))
      refine i_231_261 ?_
      refine i_231_262 (c := Int32.ofInt dn) o_or0 ?_
      refine i_231_263 rfl ?_
      refine lgen1 (i := 8) (v := Value.int (Int32.ofInt dn)) (fun lv lg ls => ?_)
      replace l7 := lg 7 _ rfl rfl l7
      replace l10 := lg 10 _ rfl rfl l10
      replace l16 := lg 16 _ rfl rfl l16
      replace l0 := lg 0 _ rfl rfl l0
      replace l1 := lg 1 _ rfl rfl l1
      replace l2 := lg 2 _ rfl rfl l2
      replace l3 := lg 3 _ rfl rfl l3
      replace l4 := lg 4 _ rfl rfl l4
      replace l5 := lg 5 _ rfl rfl l5
      replace l6 := lg 6 _ rfl rfl l6
      replace l9 := lg 9 _ rfl rfl l9
      replace l11 := lg 11 _ rfl rfl l11
      replace l12 := lg 12 _ rfl rfl l12
      replace l13 := lg 13 _ rfl rfl l13
      replace l14 := lg 14 _ rfl rfl l14
      replace l15 := lg 15 _ rfl rfl l15
      have l8 := ls
      refine i_231_265 (x := Int32.ofInt inf) l14 ?_
      refine i_231_267 (z_ne (a := inf) ⟨by omega, by omega⟩ fun c16 => absurd c16 (by omega)) (z_eq (a := inf) ⟨by omega, by omega⟩ fun c16 => ?_)
      refine i_231_270 (x := Int32.ofInt zer) l15 ?_
      refine i_231_272 (z_ne (a := zer) ⟨by omega, by omega⟩ fun c17 => ?_) (z_eq (a := zer) ⟨by omega, by omega⟩ fun c17 => ?_)
      · refine i_231_295 (x := (Int32.ofInt (k : Int))) (c := (Int32.ofInt ((k : Int) + 1))) l11 (o_add (k : Int) 1) rfl ?_
        refine lgen1 (i := 11) (v := Value.int (Int32.ofInt ((k : Int) + 1))) (fun lv lg ls => ?_)
        replace l8 := lg 8 _ rfl rfl l8
        replace l7 := lg 7 _ rfl rfl l7
        replace l10 := lg 10 _ rfl rfl l10
        replace l16 := lg 16 _ rfl rfl l16
        replace l0 := lg 0 _ rfl rfl l0
        replace l1 := lg 1 _ rfl rfl l1
        replace l2 := lg 2 _ rfl rfl l2
        replace l3 := lg 3 _ rfl rfl l3
        replace l4 := lg 4 _ rfl rfl l4
        replace l5 := lg 5 _ rfl rfl l5
        replace l6 := lg 6 _ rfl rfl l6
        replace l9 := lg 9 _ rfl rfl l9
        replace l12 := lg 12 _ rfl rfl l12
        replace l13 := lg 13 _ rfl rfl l13
        replace l14 := lg 14 _ rfl rfl l14
        replace l15 := lg 15 _ rfl rfl l15
        have l11 := ls
        refine i_231_298 ?_
        exact hN (e' := e) (up' := up) (dn' := dn) (wr' := wr) hR l0 l1 l2 l3 l4 l5 l6 l7 l8 l9 l10 (by rw [show ((k + 1 : Nat) : Int) = (k : Int) + 1 by omega]; exact l11) (by rw [if_neg (by omega)]) (by rw [if_neg (by omega)]) (by rw [if_neg (by omega)]) (by rw [if_neg (by omega)]) (by omega) (by omega) (by omega) (by omega)
      · refine i_231_275 (x := Int32.ofInt e) l6 ?_
        refine i_231_277 (x := 128) l0 ?_
        refine i_231_278 (x := Int32.ofInt (f + (k : Int))) l12 ?_
        have hobj := hR.c128
        obtain ⟨w, hrun, hR⟩ := s_exponent (d := d + 6) (r := f + (k : Int)) hR (by omega) (by omega)
        refine i_231_280 hobj (Nat.le_of_ble_eq_true rfl) hrun ?_
        refine i_231_283 (x := 128) l0 ?_
        refine i_231_284 (x := Int32.ofInt (g + (k : Int))) l13 ?_
        have hobj := hR.c128
        obtain ⟨w, hrun, hR⟩ := s_exponent (d := d + 6) (r := g + (k : Int)) hR (by omega) (by omega)
        refine i_231_286 hobj (Nat.le_of_ble_eq_true rfl) hrun ?_
        refine i_231_289 (c := Int32.ofInt ((S 155 (f + (k : Int)).toNat - S 153 (f + (k : Int)).toNat) + (S 155 (g + (k : Int)).toNat - S 153 (g + (k : Int)).toNat))) (o_add (S 155 (f + (k : Int)).toNat - S 153 (f + (k : Int)).toNat) (S 155 (g + (k : Int)).toNat - S 153 (g + (k : Int)).toNat)) ?_
        have hrun := s_min (d := d + 6) (w := w) (a := e) (b := (S 155 (f + (k : Int)).toNat - S 153 (f + (k : Int)).toNat) + (S 155 (g + (k : Int)).toNat - S 153 (g + (k : Int)).toNat)) ⟨by omega, by omega⟩ ⟨by omega, by omega⟩
        refine i_231_290 (Nat.le_of_ble_eq_true rfl) hrun ?_
        refine i_231_293 rfl ?_
        refine lgen1 (i := 6) (v := Value.int (Int32.ofInt (min e ((S 155 (f + (k : Int)).toNat - S 153 (f + (k : Int)).toNat) + (S 155 (g + (k : Int)).toNat - S 153 (g + (k : Int)).toNat))))) (fun lv lg ls => ?_)
        replace l8 := lg 8 _ rfl rfl l8
        replace l7 := lg 7 _ rfl rfl l7
        replace l10 := lg 10 _ rfl rfl l10
        replace l16 := lg 16 _ rfl rfl l16
        replace l0 := lg 0 _ rfl rfl l0
        replace l1 := lg 1 _ rfl rfl l1
        replace l2 := lg 2 _ rfl rfl l2
        replace l3 := lg 3 _ rfl rfl l3
        replace l4 := lg 4 _ rfl rfl l4
        replace l5 := lg 5 _ rfl rfl l5
        replace l9 := lg 9 _ rfl rfl l9
        replace l11 := lg 11 _ rfl rfl l11
        replace l12 := lg 12 _ rfl rfl l12
        replace l13 := lg 13 _ rfl rfl l13
        replace l14 := lg 14 _ rfl rfl l14
        replace l15 := lg 15 _ rfl rfl l15
        have l6 := ls
        refine i_231_295 (x := (Int32.ofInt (k : Int))) (c := (Int32.ofInt ((k : Int) + 1))) l11 (o_add (k : Int) 1) rfl ?_
        refine lgen1 (i := 11) (v := Value.int (Int32.ofInt ((k : Int) + 1))) (fun lv lg ls => ?_)
        replace l6 := lg 6 _ rfl rfl l6
        replace l8 := lg 8 _ rfl rfl l8
        replace l7 := lg 7 _ rfl rfl l7
        replace l10 := lg 10 _ rfl rfl l10
        replace l16 := lg 16 _ rfl rfl l16
        replace l0 := lg 0 _ rfl rfl l0
        replace l1 := lg 1 _ rfl rfl l1
        replace l2 := lg 2 _ rfl rfl l2
        replace l3 := lg 3 _ rfl rfl l3
        replace l4 := lg 4 _ rfl rfl l4
        replace l5 := lg 5 _ rfl rfl l5
        replace l9 := lg 9 _ rfl rfl l9
        replace l12 := lg 12 _ rfl rfl l12
        replace l13 := lg 13 _ rfl rfl l13
        replace l14 := lg 14 _ rfl rfl l14
        replace l15 := lg 15 _ rfl rfl l15
        have l11 := ls
        refine i_231_298 ?_
        exact hN (e' := min e ((S 155 (f + (k : Int)).toNat - S 153 (f + (k : Int)).toNat) + (S 155 (g + (k : Int)).toNat - S 153 (g + (k : Int)).toNat))) (up' := up) (dn' := dn) (wr' := wr) hR l0 l1 l2 l3 l4 l5 l6 l7 l8 l9 l10 (by rw [show ((k + 1 : Nat) : Int) = (k : Int) + 1 by omega]; exact l11) (by rw [if_neg (by omega)]) (by rw [if_neg (by omega)]) (by rw [if_neg (by omega)]) (by rw [if_pos (by omega)]) (by omega) (by omega) (by omega) (by omega)
    · refine i_231_212 (x := Int32.ofInt zer) l15 ?_
      refine i_231_214 (z_eq (a := zer) ⟨by omega, by omega⟩ fun c18 => ?_) (z_ne (a := zer) ⟨by omega, by omega⟩ fun c18 => ?_)
      · refine i_231_221 ?_
        refine i_231_222 (c := Int32.ofInt wr) o_or0 ?_
        refine i_231_223 rfl ?_
        refine lgen1 (i := 10) (v := Value.int (Int32.ofInt wr)) (fun lv lg ls => ?_)
        replace l16 := lg 16 _ rfl rfl l16
        replace l0 := lg 0 _ rfl rfl l0
        replace l1 := lg 1 _ rfl rfl l1
        replace l2 := lg 2 _ rfl rfl l2
        replace l3 := lg 3 _ rfl rfl l3
        replace l4 := lg 4 _ rfl rfl l4
        replace l5 := lg 5 _ rfl rfl l5
        replace l6 := lg 6 _ rfl rfl l6
        replace l7 := lg 7 _ rfl rfl l7
        replace l8 := lg 8 _ rfl rfl l8
        replace l9 := lg 9 _ rfl rfl l9
        replace l11 := lg 11 _ rfl rfl l11
        replace l12 := lg 12 _ rfl rfl l12
        replace l13 := lg 13 _ rfl rfl l13
        replace l14 := lg 14 _ rfl rfl l14
        replace l15 := lg 15 _ rfl rfl l15
        have l10 := ls
        refine i_231_225 (x := Int32.ofInt up) l7 ?_
        refine i_231_227 (x := Int32.ofInt inf) l14 ?_
        refine i_231_229 (z_eq (a := inf) ⟨by omega, by omega⟩ fun c19 => absurd c19 (by omega)) (z_ne (a := inf) ⟨by omega, by omega⟩ fun c19 => ?_)
        refine i_231_232 (x := 1) l16 ?_
        refine i_231_234 (fun _ => ?_) (fun c => absurd c (by decide))
        refine i_231_241 ?_
        refine i_231_242 (c := Int32.ofInt up) o_or0 ?_
        refine i_231_243 rfl ?_
        refine lgen1 (i := 7) (v := Value.int (Int32.ofInt up)) (fun lv lg ls => ?_)
        replace l10 := lg 10 _ rfl rfl l10
        replace l16 := lg 16 _ rfl rfl l16
        replace l0 := lg 0 _ rfl rfl l0
        replace l1 := lg 1 _ rfl rfl l1
        replace l2 := lg 2 _ rfl rfl l2
        replace l3 := lg 3 _ rfl rfl l3
        replace l4 := lg 4 _ rfl rfl l4
        replace l5 := lg 5 _ rfl rfl l5
        replace l6 := lg 6 _ rfl rfl l6
        replace l8 := lg 8 _ rfl rfl l8
        replace l9 := lg 9 _ rfl rfl l9
        replace l11 := lg 11 _ rfl rfl l11
        replace l12 := lg 12 _ rfl rfl l12
        replace l13 := lg 13 _ rfl rfl l13
        replace l14 := lg 14 _ rfl rfl l14
        replace l15 := lg 15 _ rfl rfl l15
        have l7 := ls
        refine i_231_245 (x := Int32.ofInt dn) l8 ?_
        refine i_231_247 (x := Int32.ofInt inf) l14 ?_
        refine i_231_249 (z_eq (a := inf) ⟨by omega, by omega⟩ fun c20 => absurd c20 (by omega)) (z_ne (a := inf) ⟨by omega, by omega⟩ fun c20 => ?_)
        refine i_231_252 (x := 1) l16 ?_
        refine i_231_254 (fun c => absurd c (by decide)) (fun _ => ?_)
        refine i_231_257 ?_
        refine i_231_258 ?_
        refine i_231_262 (c := 1) (o_orb1 (x := dn) (by omega)) ?_
        refine i_231_263 rfl ?_
        refine lgen1 (i := 8) (v := Value.int 1) (fun lv lg ls => ?_)
        replace l7 := lg 7 _ rfl rfl l7
        replace l10 := lg 10 _ rfl rfl l10
        replace l16 := lg 16 _ rfl rfl l16
        replace l0 := lg 0 _ rfl rfl l0
        replace l1 := lg 1 _ rfl rfl l1
        replace l2 := lg 2 _ rfl rfl l2
        replace l3 := lg 3 _ rfl rfl l3
        replace l4 := lg 4 _ rfl rfl l4
        replace l5 := lg 5 _ rfl rfl l5
        replace l6 := lg 6 _ rfl rfl l6
        replace l9 := lg 9 _ rfl rfl l9
        replace l11 := lg 11 _ rfl rfl l11
        replace l12 := lg 12 _ rfl rfl l12
        replace l13 := lg 13 _ rfl rfl l13
        replace l14 := lg 14 _ rfl rfl l14
        replace l15 := lg 15 _ rfl rfl l15
        have l8 := ls
        refine i_231_265 (x := Int32.ofInt inf) l14 ?_
        refine i_231_267 (z_ne (a := inf) ⟨by omega, by omega⟩ fun c21 => ?_) (z_eq (a := inf) ⟨by omega, by omega⟩ fun c21 => absurd c21 (by omega))
        refine i_231_295 (x := (Int32.ofInt (k : Int))) (c := (Int32.ofInt ((k : Int) + 1))) l11 (o_add (k : Int) 1) rfl ?_
        refine lgen1 (i := 11) (v := Value.int (Int32.ofInt ((k : Int) + 1))) (fun lv lg ls => ?_)
        replace l8 := lg 8 _ rfl rfl l8
        replace l7 := lg 7 _ rfl rfl l7
        replace l10 := lg 10 _ rfl rfl l10
        replace l16 := lg 16 _ rfl rfl l16
        replace l0 := lg 0 _ rfl rfl l0
        replace l1 := lg 1 _ rfl rfl l1
        replace l2 := lg 2 _ rfl rfl l2
        replace l3 := lg 3 _ rfl rfl l3
        replace l4 := lg 4 _ rfl rfl l4
        replace l5 := lg 5 _ rfl rfl l5
        replace l6 := lg 6 _ rfl rfl l6
        replace l9 := lg 9 _ rfl rfl l9
        replace l12 := lg 12 _ rfl rfl l12
        replace l13 := lg 13 _ rfl rfl l13
        replace l14 := lg 14 _ rfl rfl l14
        replace l15 := lg 15 _ rfl rfl l15
        have l11 := ls
        refine i_231_298 ?_
        exact hN (e' := e) (up' := up) (dn' := 1) (wr' := wr) hR l0 l1 l2 l3 l4 l5 l6 l7 l8 l9 l10 (by rw [show ((k + 1 : Nat) : Int) = (k : Int) + 1 by omega]; exact l11) (by rw [if_neg (by omega)]) (by rw [if_neg (by omega)]) (by rw [if_pos (by omega)]) (by rw [if_neg (by omega)]) (by omega) (by omega) (by omega) (by omega)
      · refine i_231_217 ?_
        refine i_231_218 ?_
        refine i_231_222 (c := 1) (o_orb1 (x := wr) (by omega)) ?_
        refine i_231_223 rfl ?_
        refine lgen1 (i := 10) (v := Value.int 1) (fun lv lg ls => ?_)
        replace l16 := lg 16 _ rfl rfl l16
        replace l0 := lg 0 _ rfl rfl l0
        replace l1 := lg 1 _ rfl rfl l1
        replace l2 := lg 2 _ rfl rfl l2
        replace l3 := lg 3 _ rfl rfl l3
        replace l4 := lg 4 _ rfl rfl l4
        replace l5 := lg 5 _ rfl rfl l5
        replace l6 := lg 6 _ rfl rfl l6
        replace l7 := lg 7 _ rfl rfl l7
        replace l8 := lg 8 _ rfl rfl l8
        replace l9 := lg 9 _ rfl rfl l9
        replace l11 := lg 11 _ rfl rfl l11
        replace l12 := lg 12 _ rfl rfl l12
        replace l13 := lg 13 _ rfl rfl l13
        replace l14 := lg 14 _ rfl rfl l14
        replace l15 := lg 15 _ rfl rfl l15
        have l10 := ls
        refine i_231_225 (x := Int32.ofInt up) l7 ?_
        refine i_231_227 (x := Int32.ofInt inf) l14 ?_
        refine i_231_229 (z_eq (a := inf) ⟨by omega, by omega⟩ fun c22 => absurd c22 (by omega)) (z_ne (a := inf) ⟨by omega, by omega⟩ fun c22 => ?_)
        refine i_231_232 (x := 1) l16 ?_
        refine i_231_234 (fun _ => ?_) (fun c => absurd c (by decide))
        refine i_231_241 ?_
        refine i_231_242 (c := Int32.ofInt up) o_or0 ?_
        refine i_231_243 rfl ?_
        refine lgen1 (i := 7) (v := Value.int (Int32.ofInt up)) (fun lv lg ls => ?_)
        replace l10 := lg 10 _ rfl rfl l10
        replace l16 := lg 16 _ rfl rfl l16
        replace l0 := lg 0 _ rfl rfl l0
        replace l1 := lg 1 _ rfl rfl l1
        replace l2 := lg 2 _ rfl rfl l2
        replace l3 := lg 3 _ rfl rfl l3
        replace l4 := lg 4 _ rfl rfl l4
        replace l5 := lg 5 _ rfl rfl l5
        replace l6 := lg 6 _ rfl rfl l6
        replace l8 := lg 8 _ rfl rfl l8
        replace l9 := lg 9 _ rfl rfl l9
        replace l11 := lg 11 _ rfl rfl l11
        replace l12 := lg 12 _ rfl rfl l12
        replace l13 := lg 13 _ rfl rfl l13
        replace l14 := lg 14 _ rfl rfl l14
        replace l15 := lg 15 _ rfl rfl l15
        have l7 := ls
        refine i_231_245 (x := Int32.ofInt dn) l8 ?_
        refine i_231_247 (x := Int32.ofInt inf) l14 ?_
        refine i_231_249 (z_eq (a := inf) ⟨by omega, by omega⟩ fun c23 => absurd c23 (by omega)) (z_ne (a := inf) ⟨by omega, by omega⟩ fun c23 => ?_)
        refine i_231_252 (x := 1) l16 ?_
        refine i_231_254 (fun c => absurd c (by decide)) (fun _ => ?_)
        refine i_231_257 ?_
        refine i_231_258 ?_
        refine i_231_262 (c := 1) (o_orb1 (x := dn) (by omega)) ?_
        refine i_231_263 rfl ?_
        refine lgen1 (i := 8) (v := Value.int 1) (fun lv lg ls => ?_)
        replace l7 := lg 7 _ rfl rfl l7
        replace l10 := lg 10 _ rfl rfl l10
        replace l16 := lg 16 _ rfl rfl l16
        replace l0 := lg 0 _ rfl rfl l0
        replace l1 := lg 1 _ rfl rfl l1
        replace l2 := lg 2 _ rfl rfl l2
        replace l3 := lg 3 _ rfl rfl l3
        replace l4 := lg 4 _ rfl rfl l4
        replace l5 := lg 5 _ rfl rfl l5
        replace l6 := lg 6 _ rfl rfl l6
        replace l9 := lg 9 _ rfl rfl l9
        replace l11 := lg 11 _ rfl rfl l11
        replace l12 := lg 12 _ rfl rfl l12
        replace l13 := lg 13 _ rfl rfl l13
        replace l14 := lg 14 _ rfl rfl l14
        replace l15 := lg 15 _ rfl rfl l15
        have l8 := ls
        refine i_231_265 (x := Int32.ofInt inf) l14 ?_
        refine i_231_267 (z_ne (a := inf) ⟨by omega, by omega⟩ fun c24 => ?_) (z_eq (a := inf) ⟨by omega, by omega⟩ fun c24 => absurd c24 (by omega))
        refine i_231_295 (x := (Int32.ofInt (k : Int))) (c := (Int32.ofInt ((k : Int) + 1))) l11 (o_add (k : Int) 1) rfl ?_
        refine lgen1 (i := 11) (v := Value.int (Int32.ofInt ((k : Int) + 1))) (fun lv lg ls => ?_)
        replace l8 := lg 8 _ rfl rfl l8
        replace l7 := lg 7 _ rfl rfl l7
        replace l10 := lg 10 _ rfl rfl l10
        replace l16 := lg 16 _ rfl rfl l16
        replace l0 := lg 0 _ rfl rfl l0
        replace l1 := lg 1 _ rfl rfl l1
        replace l2 := lg 2 _ rfl rfl l2
        replace l3 := lg 3 _ rfl rfl l3
        replace l4 := lg 4 _ rfl rfl l4
        replace l5 := lg 5 _ rfl rfl l5
        replace l6 := lg 6 _ rfl rfl l6
        replace l9 := lg 9 _ rfl rfl l9
        replace l12 := lg 12 _ rfl rfl l12
        replace l13 := lg 13 _ rfl rfl l13
        replace l14 := lg 14 _ rfl rfl l14
        replace l15 := lg 15 _ rfl rfl l15
        have l11 := ls
        refine i_231_298 ?_
        exact hN (e' := e) (up' := up) (dn' := 1) (wr' := 1) hR l0 l1 l2 l3 l4 l5 l6 l7 l8 l9 l10 (by rw [show ((k + 1 : Nat) : Int) = (k : Int) + 1 by omega]; exact l11) (by rw [if_pos (by omega)]) (by rw [if_neg (by omega)]) (by rw [if_pos (by omega)]) (by rw [if_neg (by omega)]) (by omega) (by omega) (by omega) (by omega)
set_option maxHeartbeats 8000000 in
theorem dt_A {k : Nat} {e up dn no wr : Int} (hR : mR w0 S V w) (hI : mI S V) (hr : 0 ≤ r ∧ r ≤ 15) (hf : 0 ≤ f) (hg : 0 ≤ g) (hn : 1 ≤ n ∧ n ≤ 16) (hfn : f + n ≤ 16) (hgn : g + n ≤ 16) (hk : (k : Int) < n) (he : -2147483648 ≤ e ∧ e < 2147483648) (hup : up = 0 ∨ up = 1) (hdn : dn = 0 ∨ dn = 1) (hno : no = 0 ∨ no = 1) (hwr : wr = 0 ∨ wr = 1) (hN : ∀ {lv : xLv} {w : xW} {e' up' dn' no' wr' : Int}, mR w0 S V w → xld lv 0 = some (Value.ref 128) → xld lv 1 = some (Value.int (Int32.ofInt r)) → xld lv 2 = some (Value.int (Int32.ofInt f)) → xld lv 3 = some (Value.int (Int32.ofInt g)) → xld lv 4 = some (Value.int (Int32.ofInt n)) → xld lv 5 = some (Value.int (Int32.ofInt mode)) → xld lv 6 = some (Value.int (Int32.ofInt e')) → xld lv 7 = some (Value.int (Int32.ofInt up')) → xld lv 8 = some (Value.int (Int32.ofInt dn')) → xld lv 9 = some (Value.int (Int32.ofInt no')) → xld lv 10 = some (Value.int (Int32.ofInt wr')) → xld lv 11 = some (Value.int (Int32.ofInt ((k + 1 : Nat) : Int))) → no' = (if S 154 (f + (k : Int)).toNat = 0 ∨ S 154 (g + (k : Int)).toNat = 0 then 1 else no) → wr' = (if (S 154 (f + (k : Int)).toNat = 1 ∨ S 154 (g + (k : Int)).toNat = 1) ∧ (S 154 (f + (k : Int)).toNat = 2 ∨ S 154 (g + (k : Int)).toNat = 2) then 1 else wr) → up' = (if (S 154 (f + (k : Int)).toNat = 1 ∨ S 154 (g + (k : Int)).toNat = 1) ∧ S 156 (f + (k : Int)).toNat = S 156 (g + (k : Int)).toNat then 1 else up) → dn' = (if (S 154 (f + (k : Int)).toNat = 1 ∨ S 154 (g + (k : Int)).toNat = 1) ∧ S 156 (f + (k : Int)).toNat ≠ S 156 (g + (k : Int)).toNat then 1 else dn) → e' = (if (S 154 (f + (k : Int)).toNat ≠ 1 ∧ S 154 (g + (k : Int)).toNat ≠ 1) ∧ (S 154 (f + (k : Int)).toNat ≠ 2 ∧ S 154 (g + (k : Int)).toNat ≠ 2) then min e ((S 155 (f + (k : Int)).toNat - S 153 (f + (k : Int)).toNat) + (S 155 (g + (k : Int)).toNat - S 153 (g + (k : Int)).toNat)) else e) → (-2147483648 ≤ e' ∧ e' < 2147483648) → (up' = 0 ∨ up' = 1) → (dn' = 0 ∨ dn' = 1) → (no' = 0 ∨ no' = 1) → (wr' = 0 ∨ wr' = 1) → xEv (d + 8) 231 74 lv [] w Q) (l0 : xld lv 0 = some (Value.ref 128)) (l1 : xld lv 1 = some (Value.int (Int32.ofInt r))) (l2 : xld lv 2 = some (Value.int (Int32.ofInt f))) (l3 : xld lv 3 = some (Value.int (Int32.ofInt g))) (l4 : xld lv 4 = some (Value.int (Int32.ofInt n))) (l5 : xld lv 5 = some (Value.int (Int32.ofInt mode))) (l6 : xld lv 6 = some (Value.int (Int32.ofInt e))) (l7 : xld lv 7 = some (Value.int (Int32.ofInt up))) (l8 : xld lv 8 = some (Value.int (Int32.ofInt dn))) (l9 : xld lv 9 = some (Value.int (Int32.ofInt no))) (l10 : xld lv 10 = some (Value.int (Int32.ofInt wr))) (l11 : xld lv 11 = some (Value.int (Int32.ofInt (k : Int)))) : xEv (d + 8) 231 74 lv [] w Q := by
  obtain ⟨hp_a, hk_a, hn_a, ht_a, hx_a, -⟩ := hI.1 (f + (k : Int)).toNat (by omega)
  obtain ⟨hp_b, hk_b, hn_b, ht_b, hx_b, -⟩ := hI.1 (g + (k : Int)).toNat (by omega)
  refine i_231_74 (x := Int32.ofInt (k : Int)) l11 ?_
  refine i_231_76 (x := Int32.ofInt n) l4 ?_
  refine i_231_78 (b_le (a := n) (b := (k : Int)) ⟨by omega, by omega⟩ ⟨by omega, by omega⟩ fun c0 => absurd c0 (by omega)) (b_lt (a := (k : Int)) (b := n) ⟨by omega, by omega⟩ ⟨by omega, by omega⟩ fun c0 => ?_)
  refine i_231_81 (x := Int32.ofInt f) l2 ?_
  refine i_231_82 (x := Int32.ofInt (k : Int)) l11 ?_
  refine i_231_84 (c := Int32.ofInt (f + (k : Int))) (o_add f (k : Int)) ?_
  refine i_231_85 rfl ?_
  refine lgen1 (i := 12) (v := Value.int (Int32.ofInt (f + (k : Int)))) (fun lv lg ls => ?_)
  replace l0 := lg 0 _ rfl rfl l0
  replace l1 := lg 1 _ rfl rfl l1
  replace l2 := lg 2 _ rfl rfl l2
  replace l3 := lg 3 _ rfl rfl l3
  replace l4 := lg 4 _ rfl rfl l4
  replace l5 := lg 5 _ rfl rfl l5
  replace l6 := lg 6 _ rfl rfl l6
  replace l7 := lg 7 _ rfl rfl l7
  replace l8 := lg 8 _ rfl rfl l8
  replace l9 := lg 9 _ rfl rfl l9
  replace l10 := lg 10 _ rfl rfl l10
  replace l11 := lg 11 _ rfl rfl l11
  have l12 := ls
  refine i_231_87 (x := Int32.ofInt g) l3 ?_
  refine i_231_88 (x := Int32.ofInt (k : Int)) l11 ?_
  refine i_231_90 (c := Int32.ofInt (g + (k : Int))) (o_add g (k : Int)) ?_
  refine i_231_91 rfl ?_
  refine lgen1 (i := 13) (v := Value.int (Int32.ofInt (g + (k : Int)))) (fun lv lg ls => ?_)
  replace l12 := lg 12 _ rfl rfl l12
  replace l0 := lg 0 _ rfl rfl l0
  replace l1 := lg 1 _ rfl rfl l1
  replace l2 := lg 2 _ rfl rfl l2
  replace l3 := lg 3 _ rfl rfl l3
  replace l4 := lg 4 _ rfl rfl l4
  replace l5 := lg 5 _ rfl rfl l5
  replace l6 := lg 6 _ rfl rfl l6
  replace l7 := lg 7 _ rfl rfl l7
  replace l8 := lg 8 _ rfl rfl l8
  replace l9 := lg 9 _ rfl rfl l9
  replace l10 := lg 10 _ rfl rfl l10
  replace l11 := lg 11 _ rfl rfl l11
  have l13 := ls
  refine i_231_93 (x := Int32.ofInt no) l9 ?_
  refine i_231_95 (x := 128) l0 ?_
  refine i_231_96 (v := Value.ref 154) hR.c128 rfl ?_
  refine i_231_99 (x := Int32.ofInt (f + (k : Int))) l12 ?_
  refine i_231_101 (v := Value.int (Int32.ofInt (S 154 ((f + (k : Int)).toNat)))) (hR.row a154) (ix0 (T := f + (k : Int)) (by omega) (by omega)) (ix1 (T := f + (k : Int)) (by omega) (by omega) (by omega)) (ra (T := f + (k : Int)) (by omega) (by omega) rfl) ?_
  refine i_231_102 (z_eq (a := S 154 ((f + (k : Int)).toNat)) ⟨by omega, by omega⟩ fun c1 => ?_) (z_ne (a := S 154 ((f + (k : Int)).toNat)) ⟨by omega, by omega⟩ fun c1 => ?_)
  · refine i_231_115 ?_
    refine i_231_116 ?_
    refine i_231_120 (c := 1) (o_orb1 (x := no) (by omega)) ?_
    refine i_231_121 rfl ?_
    refine lgen1 (i := 9) (v := Value.int 1) (fun lv lg ls => ?_)
    replace l13 := lg 13 _ rfl rfl l13
    replace l12 := lg 12 _ rfl rfl l12
    replace l0 := lg 0 _ rfl rfl l0
    replace l1 := lg 1 _ rfl rfl l1
    replace l2 := lg 2 _ rfl rfl l2
    replace l3 := lg 3 _ rfl rfl l3
    replace l4 := lg 4 _ rfl rfl l4
    replace l5 := lg 5 _ rfl rfl l5
    replace l6 := lg 6 _ rfl rfl l6
    replace l7 := lg 7 _ rfl rfl l7
    replace l8 := lg 8 _ rfl rfl l8
    replace l10 := lg 10 _ rfl rfl l10
    replace l11 := lg 11 _ rfl rfl l11
    have l9 := ls
    refine i_231_123 (x := 128) l0 ?_
    refine i_231_124 (v := Value.ref 154) hR.c128 rfl ?_
    refine i_231_127 (x := Int32.ofInt (f + (k : Int))) l12 ?_
    refine i_231_129 (v := Value.int (Int32.ofInt (S 154 ((f + (k : Int)).toNat)))) (hR.row a154) (ix0 (T := f + (k : Int)) (by omega) (by omega)) (ix1 (T := f + (k : Int)) (by omega) (by omega) (by omega)) (ra (T := f + (k : Int)) (by omega) (by omega) rfl) ?_
    refine i_231_130 ?_
    refine i_231_131 (b_eq (a := S 154 ((f + (k : Int)).toNat)) (b := 1) ⟨by omega, by omega⟩ ⟨by decide, by decide⟩ fun c2 => absurd c2 (by omega)) (b_ne (a := S 154 ((f + (k : Int)).toNat)) (b := 1) ⟨by omega, by omega⟩ ⟨by decide, by decide⟩ fun c2 => ?_)
    refine i_231_134 (x := 128) l0 ?_
    refine i_231_135 (v := Value.ref 154) hR.c128 rfl ?_
    refine i_231_138 (x := Int32.ofInt (g + (k : Int))) l13 ?_
    refine i_231_140 (v := Value.int (Int32.ofInt (S 154 ((g + (k : Int)).toNat)))) (hR.row a154) (ix0 (T := g + (k : Int)) (by omega) (by omega)) (ix1 (T := g + (k : Int)) (by omega) (by omega) (by omega)) (ra (T := g + (k : Int)) (by omega) (by omega) rfl) ?_
    refine i_231_141 ?_
    refine i_231_142 (b_ne (a := S 154 ((g + (k : Int)).toNat)) (b := 1) ⟨by omega, by omega⟩ ⟨by decide, by decide⟩ fun c3 => ?_) (b_eq (a := S 154 ((g + (k : Int)).toNat)) (b := 1) ⟨by omega, by omega⟩ ⟨by decide, by decide⟩ fun c3 => ?_)
    · refine i_231_149 ?_
      refine i_231_150 rfl ?_
      refine lgen1 (i := 14) (v := Value.int 0) (fun lv lg ls => ?_)
      replace l9 := lg 9 _ rfl rfl l9
      replace l13 := lg 13 _ rfl rfl l13
      replace l12 := lg 12 _ rfl rfl l12
      replace l0 := lg 0 _ rfl rfl l0
      replace l1 := lg 1 _ rfl rfl l1
      replace l2 := lg 2 _ rfl rfl l2
      replace l3 := lg 3 _ rfl rfl l3
      replace l4 := lg 4 _ rfl rfl l4
      replace l5 := lg 5 _ rfl rfl l5
      replace l6 := lg 6 _ rfl rfl l6
      replace l7 := lg 7 _ rfl rfl l7
      replace l8 := lg 8 _ rfl rfl l8
      replace l10 := lg 10 _ rfl rfl l10
      replace l11 := lg 11 _ rfl rfl l11
      have l14 := ls
      refine i_231_152 (x := 128) l0 ?_
      refine i_231_153 (v := Value.ref 154) hR.c128 rfl ?_
      refine i_231_156 (x := Int32.ofInt (f + (k : Int))) l12 ?_
      refine i_231_158 (v := Value.int (Int32.ofInt (S 154 ((f + (k : Int)).toNat)))) (hR.row a154) (ix0 (T := f + (k : Int)) (by omega) (by omega)) (ix1 (T := f + (k : Int)) (by omega) (by omega) (by omega)) (ra (T := f + (k : Int)) (by omega) (by omega) rfl) ?_
      refine i_231_159 ?_
      refine i_231_160 (b_eq (a := S 154 ((f + (k : Int)).toNat)) (b := 2) ⟨by omega, by omega⟩ ⟨by decide, by decide⟩ fun c4 => absurd c4 (by omega)) (b_ne (a := S 154 ((f + (k : Int)).toNat)) (b := 2) ⟨by omega, by omega⟩ ⟨by decide, by decide⟩ fun c4 => ?_)
      refine i_231_163 (x := 128) l0 ?_
      refine i_231_164 (v := Value.ref 154) hR.c128 rfl ?_
      refine i_231_167 (x := Int32.ofInt (g + (k : Int))) l13 ?_
      refine i_231_169 (v := Value.int (Int32.ofInt (S 154 ((g + (k : Int)).toNat)))) (hR.row a154) (ix0 (T := g + (k : Int)) (by omega) (by omega)) (ix1 (T := g + (k : Int)) (by omega) (by omega) (by omega)) (ra (T := g + (k : Int)) (by omega) (by omega) rfl) ?_
      refine i_231_170 ?_
      refine i_231_171 (b_ne (a := S 154 ((g + (k : Int)).toNat)) (b := 2) ⟨by omega, by omega⟩ ⟨by decide, by decide⟩ fun c5 => ?_) (b_eq (a := S 154 ((g + (k : Int)).toNat)) (b := 2) ⟨by omega, by omega⟩ ⟨by decide, by decide⟩ fun c5 => ?_)
      · refine i_231_178 ?_
        refine i_231_179 rfl ?_
        refine lgen1 (i := 15) (v := Value.int 0) (fun lv lg ls => ?_)
        replace l14 := lg 14 _ rfl rfl l14
        replace l9 := lg 9 _ rfl rfl l9
        replace l13 := lg 13 _ rfl rfl l13
        replace l12 := lg 12 _ rfl rfl l12
        replace l0 := lg 0 _ rfl rfl l0
        replace l1 := lg 1 _ rfl rfl l1
        replace l2 := lg 2 _ rfl rfl l2
        replace l3 := lg 3 _ rfl rfl l3
        replace l4 := lg 4 _ rfl rfl l4
        replace l5 := lg 5 _ rfl rfl l5
        replace l6 := lg 6 _ rfl rfl l6
        replace l7 := lg 7 _ rfl rfl l7
        replace l8 := lg 8 _ rfl rfl l8
        replace l10 := lg 10 _ rfl rfl l10
        replace l11 := lg 11 _ rfl rfl l11
        have l15 := ls
        refine dt_B (k := k) (inf := 0) (zer := 0) (no := 1) (e := e) (up := up) (dn := dn) (wr := wr) hR hI hr hf hg hn hfn hgn (by omega) he hup hdn (by omega) hwr (by omega) (by omega) (fun {lv w e' up' dn' wr'} hR l0 l1 l2 l3 l4 l5 l6 l7 l8 l9 l10 l11 q1 q2 q3 q4 q5 q6 q7 q8 => ?_) l0 l1 l2 l3 l4 l5 l6 l7 l8 l9 l10 l11 l12 l13 l14 l15
        exact hN (no' := 1) hR l0 l1 l2 l3 l4 l5 l6 l7 l8 l9 l10 l11 (by rw [if_pos (by omega)]) q1 q2 q3 q4 q5 q6 q7 (by omega) q8
      · refine i_231_174 ?_
        refine i_231_175 ?_
        refine i_231_179 rfl ?_
        refine lgen1 (i := 15) (v := Value.int 1) (fun lv lg ls => ?_)
        replace l14 := lg 14 _ rfl rfl l14
        replace l9 := lg 9 _ rfl rfl l9
        replace l13 := lg 13 _ rfl rfl l13
        replace l12 := lg 12 _ rfl rfl l12
        replace l0 := lg 0 _ rfl rfl l0
        replace l1 := lg 1 _ rfl rfl l1
        replace l2 := lg 2 _ rfl rfl l2
        replace l3 := lg 3 _ rfl rfl l3
        replace l4 := lg 4 _ rfl rfl l4
        replace l5 := lg 5 _ rfl rfl l5
        replace l6 := lg 6 _ rfl rfl l6
        replace l7 := lg 7 _ rfl rfl l7
        replace l8 := lg 8 _ rfl rfl l8
        replace l10 := lg 10 _ rfl rfl l10
        replace l11 := lg 11 _ rfl rfl l11
        have l15 := ls
        refine dt_B (k := k) (inf := 0) (zer := 1) (no := 1) (e := e) (up := up) (dn := dn) (wr := wr) hR hI hr hf hg hn hfn hgn (by omega) he hup hdn (by omega) hwr (by omega) (by omega) (fun {lv w e' up' dn' wr'} hR l0 l1 l2 l3 l4 l5 l6 l7 l8 l9 l10 l11 q1 q2 q3 q4 q5 q6 q7 q8 => ?_) l0 l1 l2 l3 l4 l5 l6 l7 l8 l9 l10 l11 l12 l13 l14 l15
        exact hN (no' := 1) hR l0 l1 l2 l3 l4 l5 l6 l7 l8 l9 l10 l11 (by rw [if_pos (by omega)]) q1 q2 q3 q4 q5 q6 q7 (by omega) q8
    · refine i_231_145 ?_
      refine i_231_146 ?_
      refine i_231_150 rfl ?_
      refine lgen1 (i := 14) (v := Value.int 1) (fun lv lg ls => ?_)
      replace l9 := lg 9 _ rfl rfl l9
      replace l13 := lg 13 _ rfl rfl l13
      replace l12 := lg 12 _ rfl rfl l12
      replace l0 := lg 0 _ rfl rfl l0
      replace l1 := lg 1 _ rfl rfl l1
      replace l2 := lg 2 _ rfl rfl l2
      replace l3 := lg 3 _ rfl rfl l3
      replace l4 := lg 4 _ rfl rfl l4
      replace l5 := lg 5 _ rfl rfl l5
      replace l6 := lg 6 _ rfl rfl l6
      replace l7 := lg 7 _ rfl rfl l7
      replace l8 := lg 8 _ rfl rfl l8
      replace l10 := lg 10 _ rfl rfl l10
      replace l11 := lg 11 _ rfl rfl l11
      have l14 := ls
      refine i_231_152 (x := 128) l0 ?_
      refine i_231_153 (v := Value.ref 154) hR.c128 rfl ?_
      refine i_231_156 (x := Int32.ofInt (f + (k : Int))) l12 ?_
      refine i_231_158 (v := Value.int (Int32.ofInt (S 154 ((f + (k : Int)).toNat)))) (hR.row a154) (ix0 (T := f + (k : Int)) (by omega) (by omega)) (ix1 (T := f + (k : Int)) (by omega) (by omega) (by omega)) (ra (T := f + (k : Int)) (by omega) (by omega) rfl) ?_
      refine i_231_159 ?_
      refine i_231_160 (b_eq (a := S 154 ((f + (k : Int)).toNat)) (b := 2) ⟨by omega, by omega⟩ ⟨by decide, by decide⟩ fun c6 => absurd c6 (by omega)) (b_ne (a := S 154 ((f + (k : Int)).toNat)) (b := 2) ⟨by omega, by omega⟩ ⟨by decide, by decide⟩ fun c6 => ?_)
      refine i_231_163 (x := 128) l0 ?_
      refine i_231_164 (v := Value.ref 154) hR.c128 rfl ?_
      refine i_231_167 (x := Int32.ofInt (g + (k : Int))) l13 ?_
      refine i_231_169 (v := Value.int (Int32.ofInt (S 154 ((g + (k : Int)).toNat)))) (hR.row a154) (ix0 (T := g + (k : Int)) (by omega) (by omega)) (ix1 (T := g + (k : Int)) (by omega) (by omega) (by omega)) (ra (T := g + (k : Int)) (by omega) (by omega) rfl) ?_
      refine i_231_170 ?_
      refine i_231_171 (b_ne (a := S 154 ((g + (k : Int)).toNat)) (b := 2) ⟨by omega, by omega⟩ ⟨by decide, by decide⟩ fun c7 => ?_) (b_eq (a := S 154 ((g + (k : Int)).toNat)) (b := 2) ⟨by omega, by omega⟩ ⟨by decide, by decide⟩ fun c7 => absurd c7 (by omega))
      refine i_231_178 ?_
      refine i_231_179 rfl ?_
      refine lgen1 (i := 15) (v := Value.int 0) (fun lv lg ls => ?_)
      replace l14 := lg 14 _ rfl rfl l14
      replace l9 := lg 9 _ rfl rfl l9
      replace l13 := lg 13 _ rfl rfl l13
      replace l12 := lg 12 _ rfl rfl l12
      replace l0 := lg 0 _ rfl rfl l0
      replace l1 := lg 1 _ rfl rfl l1
      replace l2 := lg 2 _ rfl rfl l2
      replace l3 := lg 3 _ rfl rfl l3
      replace l4 := lg 4 _ rfl rfl l4
      replace l5 := lg 5 _ rfl rfl l5
      replace l6 := lg 6 _ rfl rfl l6
      replace l7 := lg 7 _ rfl rfl l7
      replace l8 := lg 8 _ rfl rfl l8
      replace l10 := lg 10 _ rfl rfl l10
      replace l11 := lg 11 _ rfl rfl l11
      have l15 := ls
      refine dt_B (k := k) (inf := 1) (zer := 0) (no := 1) (e := e) (up := up) (dn := dn) (wr := wr) hR hI hr hf hg hn hfn hgn (by omega) he hup hdn (by omega) hwr (by omega) (by omega) (fun {lv w e' up' dn' wr'} hR l0 l1 l2 l3 l4 l5 l6 l7 l8 l9 l10 l11 q1 q2 q3 q4 q5 q6 q7 q8 => ?_) l0 l1 l2 l3 l4 l5 l6 l7 l8 l9 l10 l11 l12 l13 l14 l15
      exact hN (no' := 1) hR l0 l1 l2 l3 l4 l5 l6 l7 l8 l9 l10 l11 (by rw [if_pos (by omega)]) q1 q2 q3 q4 q5 q6 q7 (by omega) q8
  · refine i_231_105 (x := 128) l0 ?_
    refine i_231_106 (v := Value.ref 154) hR.c128 rfl ?_
    refine i_231_109 (x := Int32.ofInt (g + (k : Int))) l13 ?_
    refine i_231_111 (v := Value.int (Int32.ofInt (S 154 ((g + (k : Int)).toNat)))) (hR.row a154) (ix0 (T := g + (k : Int)) (by omega) (by omega)) (ix1 (T := g + (k : Int)) (by omega) (by omega) (by omega)) (ra (T := g + (k : Int)) (by omega) (by omega) rfl) ?_
    refine i_231_112 (z_ne (a := S 154 ((g + (k : Int)).toNat)) ⟨by omega, by omega⟩ fun c8 => ?_) (z_eq (a := S 154 ((g + (k : Int)).toNat)) ⟨by omega, by omega⟩ fun c8 => ?_)
    · refine i_231_119 ?_
      refine i_231_120 (c := Int32.ofInt no) o_or0 ?_
      refine i_231_121 rfl ?_
      refine lgen1 (i := 9) (v := Value.int (Int32.ofInt no)) (fun lv lg ls => ?_)
      replace l13 := lg 13 _ rfl rfl l13
      replace l12 := lg 12 _ rfl rfl l12
      replace l0 := lg 0 _ rfl rfl l0
      replace l1 := lg 1 _ rfl rfl l1
      replace l2 := lg 2 _ rfl rfl l2
      replace l3 := lg 3 _ rfl rfl l3
      replace l4 := lg 4 _ rfl rfl l4
      replace l5 := lg 5 _ rfl rfl l5
      replace l6 := lg 6 _ rfl rfl l6
      replace l7 := lg 7 _ rfl rfl l7
      replace l8 := lg 8 _ rfl rfl l8
      replace l10 := lg 10 _ rfl rfl l10
      replace l11 := lg 11 _ rfl rfl l11
      have l9 := ls
      refine i_231_123 (x := 128) l0 ?_
      refine i_231_124 (v := Value.ref 154) hR.c128 rfl ?_
      refine i_231_127 (x := Int32.ofInt (f + (k : Int))) l12 ?_
      refine i_231_129 (v := Value.int (Int32.ofInt (S 154 ((f + (k : Int)).toNat)))) (hR.row a154) (ix0 (T := f + (k : Int)) (by omega) (by omega)) (ix1 (T := f + (k : Int)) (by omega) (by omega) (by omega)) (ra (T := f + (k : Int)) (by omega) (by omega) rfl) ?_
      refine i_231_130 ?_
      refine i_231_131 (b_eq (a := S 154 ((f + (k : Int)).toNat)) (b := 1) ⟨by omega, by omega⟩ ⟨by decide, by decide⟩ fun c9 => ?_) (b_ne (a := S 154 ((f + (k : Int)).toNat)) (b := 1) ⟨by omega, by omega⟩ ⟨by decide, by decide⟩ fun c9 => ?_)
      · refine i_231_145 ?_
        refine i_231_146 ?_
        refine i_231_150 rfl ?_
        refine lgen1 (i := 14) (v := Value.int 1) (fun lv lg ls => ?_)
        replace l9 := lg 9 _ rfl rfl l9
        replace l13 := lg 13 _ rfl rfl l13
        replace l12 := lg 12 _ rfl rfl l12
        replace l0 := lg 0 _ rfl rfl l0
        replace l1 := lg 1 _ rfl rfl l1
        replace l2 := lg 2 _ rfl rfl l2
        replace l3 := lg 3 _ rfl rfl l3
        replace l4 := lg 4 _ rfl rfl l4
        replace l5 := lg 5 _ rfl rfl l5
        replace l6 := lg 6 _ rfl rfl l6
        replace l7 := lg 7 _ rfl rfl l7
        replace l8 := lg 8 _ rfl rfl l8
        replace l10 := lg 10 _ rfl rfl l10
        replace l11 := lg 11 _ rfl rfl l11
        have l14 := ls
        refine i_231_152 (x := 128) l0 ?_
        refine i_231_153 (v := Value.ref 154) hR.c128 rfl ?_
        refine i_231_156 (x := Int32.ofInt (f + (k : Int))) l12 ?_
        refine i_231_158 (v := Value.int (Int32.ofInt (S 154 ((f + (k : Int)).toNat)))) (hR.row a154) (ix0 (T := f + (k : Int)) (by omega) (by omega)) (ix1 (T := f + (k : Int)) (by omega) (by omega) (by omega)) (ra (T := f + (k : Int)) (by omega) (by omega) rfl) ?_
        refine i_231_159 ?_
        refine i_231_160 (b_eq (a := S 154 ((f + (k : Int)).toNat)) (b := 2) ⟨by omega, by omega⟩ ⟨by decide, by decide⟩ fun c10 => absurd c10 (by omega)) (b_ne (a := S 154 ((f + (k : Int)).toNat)) (b := 2) ⟨by omega, by omega⟩ ⟨by decide, by decide⟩ fun c10 => ?_)
        refine i_231_163 (x := 128) l0 ?_
        refine i_231_164 (v := Value.ref 154) hR.c128 rfl ?_
        refine i_231_167 (x := Int32.ofInt (g + (k : Int))) l13 ?_
        refine i_231_169 (v := Value.int (Int32.ofInt (S 154 ((g + (k : Int)).toNat)))) (hR.row a154) (ix0 (T := g + (k : Int)) (by omega) (by omega)) (ix1 (T := g + (k : Int)) (by omega) (by omega) (by omega)) (ra (T := g + (k : Int)) (by omega) (by omega) rfl) ?_
        refine i_231_170 ?_
        refine i_231_171 (b_ne (a := S 154 ((g + (k : Int)).toNat)) (b := 2) ⟨by omega, by omega⟩ ⟨by decide, by decide⟩ fun c11 => ?_) (b_eq (a := S 154 ((g + (k : Int)).toNat)) (b := 2) ⟨by omega, by omega⟩ ⟨by decide, by decide⟩ fun c11 => ?_)
        · refine i_231_178 ?_
          refine i_231_179 rfl ?_
          refine lgen1 (i := 15) (v := Value.int 0) (fun lv lg ls => ?_)
          replace l14 := lg 14 _ rfl rfl l14
          replace l9 := lg 9 _ rfl rfl l9
          replace l13 := lg 13 _ rfl rfl l13
          replace l12 := lg 12 _ rfl rfl l12
          replace l0 := lg 0 _ rfl rfl l0
          replace l1 := lg 1 _ rfl rfl l1
          replace l2 := lg 2 _ rfl rfl l2
          replace l3 := lg 3 _ rfl rfl l3
          replace l4 := lg 4 _ rfl rfl l4
          replace l5 := lg 5 _ rfl rfl l5
          replace l6 := lg 6 _ rfl rfl l6
          replace l7 := lg 7 _ rfl rfl l7
          replace l8 := lg 8 _ rfl rfl l8
          replace l10 := lg 10 _ rfl rfl l10
          replace l11 := lg 11 _ rfl rfl l11
          have l15 := ls
          refine dt_B (k := k) (inf := 1) (zer := 0) (no := no) (e := e) (up := up) (dn := dn) (wr := wr) hR hI hr hf hg hn hfn hgn (by omega) he hup hdn (by omega) hwr (by omega) (by omega) (fun {lv w e' up' dn' wr'} hR l0 l1 l2 l3 l4 l5 l6 l7 l8 l9 l10 l11 q1 q2 q3 q4 q5 q6 q7 q8 => ?_) l0 l1 l2 l3 l4 l5 l6 l7 l8 l9 l10 l11 l12 l13 l14 l15
          exact hN (no' := no) hR l0 l1 l2 l3 l4 l5 l6 l7 l8 l9 l10 l11 (by rw [if_neg (by omega)]) q1 q2 q3 q4 q5 q6 q7 (by omega) q8
        · refine i_231_174 ?_
          refine i_231_175 ?_
          refine i_231_179 rfl ?_
          refine lgen1 (i := 15) (v := Value.int 1) (fun lv lg ls => ?_)
          replace l14 := lg 14 _ rfl rfl l14
          replace l9 := lg 9 _ rfl rfl l9
          replace l13 := lg 13 _ rfl rfl l13
          replace l12 := lg 12 _ rfl rfl l12
          replace l0 := lg 0 _ rfl rfl l0
          replace l1 := lg 1 _ rfl rfl l1
          replace l2 := lg 2 _ rfl rfl l2
          replace l3 := lg 3 _ rfl rfl l3
          replace l4 := lg 4 _ rfl rfl l4
          replace l5 := lg 5 _ rfl rfl l5
          replace l6 := lg 6 _ rfl rfl l6
          replace l7 := lg 7 _ rfl rfl l7
          replace l8 := lg 8 _ rfl rfl l8
          replace l10 := lg 10 _ rfl rfl l10
          replace l11 := lg 11 _ rfl rfl l11
          have l15 := ls
          refine dt_B (k := k) (inf := 1) (zer := 1) (no := no) (e := e) (up := up) (dn := dn) (wr := wr) hR hI hr hf hg hn hfn hgn (by omega) he hup hdn (by omega) hwr (by omega) (by omega) (fun {lv w e' up' dn' wr'} hR l0 l1 l2 l3 l4 l5 l6 l7 l8 l9 l10 l11 q1 q2 q3 q4 q5 q6 q7 q8 => ?_) l0 l1 l2 l3 l4 l5 l6 l7 l8 l9 l10 l11 l12 l13 l14 l15
          exact hN (no' := no) hR l0 l1 l2 l3 l4 l5 l6 l7 l8 l9 l10 l11 (by rw [if_neg (by omega)]) q1 q2 q3 q4 q5 q6 q7 (by omega) q8
      · refine i_231_134 (x := 128) l0 ?_
        refine i_231_135 (v := Value.ref 154) hR.c128 rfl ?_
        refine i_231_138 (x := Int32.ofInt (g + (k : Int))) l13 ?_
        refine i_231_140 (v := Value.int (Int32.ofInt (S 154 ((g + (k : Int)).toNat)))) (hR.row a154) (ix0 (T := g + (k : Int)) (by omega) (by omega)) (ix1 (T := g + (k : Int)) (by omega) (by omega) (by omega)) (ra (T := g + (k : Int)) (by omega) (by omega) rfl) ?_
        refine i_231_141 ?_
        refine i_231_142 (b_ne (a := S 154 ((g + (k : Int)).toNat)) (b := 1) ⟨by omega, by omega⟩ ⟨by decide, by decide⟩ fun c12 => ?_) (b_eq (a := S 154 ((g + (k : Int)).toNat)) (b := 1) ⟨by omega, by omega⟩ ⟨by decide, by decide⟩ fun c12 => ?_)
        · refine i_231_149 ?_
          refine i_231_150 rfl ?_
          refine lgen1 (i := 14) (v := Value.int 0) (fun lv lg ls => ?_)
          replace l9 := lg 9 _ rfl rfl l9
          replace l13 := lg 13 _ rfl rfl l13
          replace l12 := lg 12 _ rfl rfl l12
          replace l0 := lg 0 _ rfl rfl l0
          replace l1 := lg 1 _ rfl rfl l1
          replace l2 := lg 2 _ rfl rfl l2
          replace l3 := lg 3 _ rfl rfl l3
          replace l4 := lg 4 _ rfl rfl l4
          replace l5 := lg 5 _ rfl rfl l5
          replace l6 := lg 6 _ rfl rfl l6
          replace l7 := lg 7 _ rfl rfl l7
          replace l8 := lg 8 _ rfl rfl l8
          replace l10 := lg 10 _ rfl rfl l10
          replace l11 := lg 11 _ rfl rfl l11
          have l14 := ls
          refine i_231_152 (x := 128) l0 ?_
          refine i_231_153 (v := Value.ref 154) hR.c128 rfl ?_
          refine i_231_156 (x := Int32.ofInt (f + (k : Int))) l12 ?_
          refine i_231_158 (v := Value.int (Int32.ofInt (S 154 ((f + (k : Int)).toNat)))) (hR.row a154) (ix0 (T := f + (k : Int)) (by omega) (by omega)) (ix1 (T := f + (k : Int)) (by omega) (by omega) (by omega)) (ra (T := f + (k : Int)) (by omega) (by omega) rfl) ?_
          refine i_231_159 ?_
          refine i_231_160 (b_eq (a := S 154 ((f + (k : Int)).toNat)) (b := 2) ⟨by omega, by omega⟩ ⟨by decide, by decide⟩ fun c13 => ?_) (b_ne (a := S 154 ((f + (k : Int)).toNat)) (b := 2) ⟨by omega, by omega⟩ ⟨by decide, by decide⟩ fun c13 => ?_)
          · refine i_231_174 ?_
            refine i_231_175 ?_
            refine i_231_179 rfl ?_
            refine lgen1 (i := 15) (v := Value.int 1) (fun lv lg ls => ?_)
            replace l14 := lg 14 _ rfl rfl l14
            replace l9 := lg 9 _ rfl rfl l9
            replace l13 := lg 13 _ rfl rfl l13
            replace l12 := lg 12 _ rfl rfl l12
            replace l0 := lg 0 _ rfl rfl l0
            replace l1 := lg 1 _ rfl rfl l1
            replace l2 := lg 2 _ rfl rfl l2
            replace l3 := lg 3 _ rfl rfl l3
            replace l4 := lg 4 _ rfl rfl l4
            replace l5 := lg 5 _ rfl rfl l5
            replace l6 := lg 6 _ rfl rfl l6
            replace l7 := lg 7 _ rfl rfl l7
            replace l8 := lg 8 _ rfl rfl l8
            replace l10 := lg 10 _ rfl rfl l10
            replace l11 := lg 11 _ rfl rfl l11
            have l15 := ls
            refine dt_B (k := k) (inf := 0) (zer := 1) (no := no) (e := e) (up := up) (dn := dn) (wr := wr) hR hI hr hf hg hn hfn hgn (by omega) he hup hdn (by omega) hwr (by omega) (by omega) (fun {lv w e' up' dn' wr'} hR l0 l1 l2 l3 l4 l5 l6 l7 l8 l9 l10 l11 q1 q2 q3 q4 q5 q6 q7 q8 => ?_) l0 l1 l2 l3 l4 l5 l6 l7 l8 l9 l10 l11 l12 l13 l14 l15
            exact hN (no' := no) hR l0 l1 l2 l3 l4 l5 l6 l7 l8 l9 l10 l11 (by rw [if_neg (by omega)]) q1 q2 q3 q4 q5 q6 q7 (by omega) q8
          · refine i_231_163 (x := 128) l0 ?_
            refine i_231_164 (v := Value.ref 154) hR.c128 rfl ?_
            refine i_231_167 (x := Int32.ofInt (g + (k : Int))) l13 ?_
            refine i_231_169 (v := Value.int (Int32.ofInt (S 154 ((g + (k : Int)).toNat)))) (hR.row a154) (ix0 (T := g + (k : Int)) (by omega) (by omega)) (ix1 (T := g + (k : Int)) (by omega) (by omega) (by omega)) (ra (T := g + (k : Int)) (by omega) (by omega) rfl) ?_
            refine i_231_170 ?_
            refine i_231_171 (b_ne (a := S 154 ((g + (k : Int)).toNat)) (b := 2) ⟨by omega, by omega⟩ ⟨by decide, by decide⟩ fun c14 => ?_) (b_eq (a := S 154 ((g + (k : Int)).toNat)) (b := 2) ⟨by omega, by omega⟩ ⟨by decide, by decide⟩ fun c14 => ?_)
            · refine i_231_178 ?_
              refine i_231_179 rfl ?_
              refine lgen1 (i := 15) (v := Value.int 0) (fun lv lg ls => ?_)
              replace l14 := lg 14 _ rfl rfl l14
              replace l9 := lg 9 _ rfl rfl l9
              replace l13 := lg 13 _ rfl rfl l13
              replace l12 := lg 12 _ rfl rfl l12
              replace l0 := lg 0 _ rfl rfl l0
              replace l1 := lg 1 _ rfl rfl l1
              replace l2 := lg 2 _ rfl rfl l2
              replace l3 := lg 3 _ rfl rfl l3
              replace l4 := lg 4 _ rfl rfl l4
              replace l5 := lg 5 _ rfl rfl l5
              replace l6 := lg 6 _ rfl rfl l6
              replace l7 := lg 7 _ rfl rfl l7
              replace l8 := lg 8 _ rfl rfl l8
              replace l10 := lg 10 _ rfl rfl l10
              replace l11 := lg 11 _ rfl rfl l11
              have l15 := ls
              refine dt_B (k := k) (inf := 0) (zer := 0) (no := no) (e := e) (up := up) (dn := dn) (wr := wr) hR hI hr hf hg hn hfn hgn (by omega) he hup hdn (by omega) hwr (by omega) (by omega) (fun {lv w e' up' dn' wr'} hR l0 l1 l2 l3 l4 l5 l6 l7 l8 l9 l10 l11 q1 q2 q3 q4 q5 q6 q7 q8 => ?_) l0 l1 l2 l3 l4 l5 l6 l7 l8 l9 l10 l11 l12 l13 l14 l15
              exact hN (no' := no) hR l0 l1 l2 l3 l4 l5 l6 l7 l8 l9 l10 l11 (by rw [if_neg (by omega)]) q1 q2 q3 q4 q5 q6 q7 (by omega) q8
            · refine i_231_174 ?_
              refine i_231_175 ?_
              refine i_231_179 rfl ?_
              refine lgen1 (i := 15) (v := Value.int 1) (fun lv lg ls => ?_)
              replace l14 := lg 14 _ rfl rfl l14
              replace l9 := lg 9 _ rfl rfl l9
              replace l13 := lg 13 _ rfl rfl l13
              replace l12 := lg 12 _ rfl rfl l12
              replace l0 := lg 0 _ rfl rfl l0
              replace l1 := lg 1 _ rfl rfl l1
              replace l2 := lg 2 _ rfl rfl l2
              replace l3 := lg 3 _ rfl rfl l3
              replace l4 := lg 4 _ rfl rfl l4
              replace l5 := lg 5 _ rfl rfl l5
              replace l6 := lg 6 _ rfl rfl l6
              replace l7 := lg 7 _ rfl rfl l7
              replace l8 := lg 8 _ rfl rfl l8
              replace l10 := lg 10 _ rfl rfl l10
              replace l11 := lg 11 _ rfl rfl l11
              have l15 := ls
              refine dt_B (k := k) (inf := 0) (zer := 1) (no := no) (e := e) (up := up) (dn := dn) (wr := wr) hR hI hr hf hg hn hfn hgn (by omega) he hup hdn (by omega) hwr (by omega) (by omega) (fun {lv w e' up' dn' wr'} hR l0 l1 l2 l3 l4 l5 l6 l7 l8 l9 l10 l11 q1 q2 q3 q4 q5 q6 q7 q8 => ?_) l0 l1 l2 l3 l4 l5 l6 l7 l8 l9 l10 l11 l12 l13 l14 l15
              exact hN (no' := no) hR l0 l1 l2 l3 l4 l5 l6 l7 l8 l9 l10 l11 (by rw [if_neg (by omega)]) q1 q2 q3 q4 q5 q6 q7 (by omega) q8
        · refine i_231_145 ?_
          refine i_231_146 ?_
          refine i_231_150 rfl ?_
          refine lgen1 (i := 14) (v := Value.int 1) (fun lv lg ls => ?_)
          replace l9 := lg 9 _ rfl rfl l9
          replace l13 := lg 13 _ rfl rfl l13
          replace l12 := lg 12 _ rfl rfl l12
          replace l0 := lg 0 _ rfl rfl l0
          replace l1 := lg 1 _ rfl rfl l1
          replace l2 := lg 2 _ rfl rfl l2
          replace l3 := lg 3 _ rfl rfl l3
          replace l4 := lg 4 _ rfl rfl l4
          replace l5 := lg 5 _ rfl rfl l5
          replace l6 := lg 6 _ rfl rfl l6
          replace l7 := lg 7 _ rfl rfl l7
          replace l8 := lg 8 _ rfl rfl l8
          replace l10 := lg 10 _ rfl rfl l10
          replace l11 := lg 11 _ rfl rfl l11
          have l14 := ls
          refine i_231_152 (x := 128) l0 ?_
          refine i_231_153 (v := Value.ref 154) hR.c128 rfl ?_
          refine i_231_156 (x := Int32.ofInt (f + (k : Int))) l12 ?_
          refine i_231_158 (v := Value.int (Int32.ofInt (S 154 ((f + (k : Int)).toNat)))) (hR.row a154) (ix0 (T := f + (k : Int)) (by omega) (by omega)) (ix1 (T := f + (k : Int)) (by omega) (by omega) (by omega)) (ra (T := f + (k : Int)) (by omega) (by omega) rfl) ?_
          refine i_231_159 ?_
          refine i_231_160 (b_eq (a := S 154 ((f + (k : Int)).toNat)) (b := 2) ⟨by omega, by omega⟩ ⟨by decide, by decide⟩ fun c15 => ?_) (b_ne (a := S 154 ((f + (k : Int)).toNat)) (b := 2) ⟨by omega, by omega⟩ ⟨by decide, by decide⟩ fun c15 => ?_)
          · refine i_231_174 ?_
            refine i_231_175 ?_
            refine i_231_179 rfl ?_
            refine lgen1 (i := 15) (v := Value.int 1) (fun lv lg ls => ?_)
            replace l14 := lg 14 _ rfl rfl l14
            replace l9 := lg 9 _ rfl rfl l9
            replace l13 := lg 13 _ rfl rfl l13
            replace l12 := lg 12 _ rfl rfl l12
            replace l0 := lg 0 _ rfl rfl l0
            replace l1 := lg 1 _ rfl rfl l1
            replace l2 := lg 2 _ rfl rfl l2
            replace l3 := lg 3 _ rfl rfl l3
            replace l4 := lg 4 _ rfl rfl l4
            replace l5 := lg 5 _ rfl rfl l5
            replace l6 := lg 6 _ rfl rfl l6
            replace l7 := lg 7 _ rfl rfl l7
            replace l8 := lg 8 _ rfl rfl l8
            replace l10 := lg 10 _ rfl rfl l10
            replace l11 := lg 11 _ rfl rfl l11
            have l15 := ls
            refine dt_B (k := k) (inf := 1) (zer := 1) (no := no) (e := e) (up := up) (dn := dn) (wr := wr) hR hI hr hf hg hn hfn hgn (by omega) he hup hdn (by omega) hwr (by omega) (by omega) (fun {lv w e' up' dn' wr'} hR l0 l1 l2 l3 l4 l5 l6 l7 l8 l9 l10 l11 q1 q2 q3 q4 q5 q6 q7 q8 => ?_) l0 l1 l2 l3 l4 l5 l6 l7 l8 l9 l10 l11 l12 l13 l14 l15
            exact hN (no' := no) hR l0 l1 l2 l3 l4 l5 l6 l7 l8 l9 l10 l11 (by rw [if_neg (by omega)]) q1 q2 q3 q4 q5 q6 q7 (by omega) q8
          · refine i_231_163 (x := 128) l0 ?_
            refine i_231_164 (v := Value.ref 154) hR.c128 rfl ?_
            refine i_231_167 (x := Int32.ofInt (g + (k : Int))) l13 ?_
            refine i_231_169 (v := Value.int (Int32.ofInt (S 154 ((g + (k : Int)).toNat)))) (hR.row a154) (ix0 (T := g + (k : Int)) (by omega) (by omega)) (ix1 (T := g + (k : Int)) (by omega) (by omega) (by omega)) (ra (T := g + (k : Int)) (by omega) (by omega) rfl) ?_
            refine i_231_170 ?_
            refine i_231_171 (b_ne (a := S 154 ((g + (k : Int)).toNat)) (b := 2) ⟨by omega, by omega⟩ ⟨by decide, by decide⟩ fun c16 => ?_) (b_eq (a := S 154 ((g + (k : Int)).toNat)) (b := 2) ⟨by omega, by omega⟩ ⟨by decide, by decide⟩ fun c16 => absurd c16 (by omega))
            refine i_231_178 ?_
            refine i_231_179 rfl ?_
            refine lgen1 (i := 15) (v := Value.int 0) (fun lv lg ls => ?_)
            replace l14 := lg 14 _ rfl rfl l14
            replace l9 := lg 9 _ rfl rfl l9
            replace l13 := lg 13 _ rfl rfl l13
            replace l12 := lg 12 _ rfl rfl l12
            replace l0 := lg 0 _ rfl rfl l0
            replace l1 := lg 1 _ rfl rfl l1
            replace l2 := lg 2 _ rfl rfl l2
            replace l3 := lg 3 _ rfl rfl l3
            replace l4 := lg 4 _ rfl rfl l4
            replace l5 := lg 5 _ rfl rfl l5
            replace l6 := lg 6 _ rfl rfl l6
            replace l7 := lg 7 _ rfl rfl l7
            replace l8 := lg 8 _ rfl rfl l8
            replace l10 := lg 10 _ rfl rfl l10
            replace l11 := lg 11 _ rfl rfl l11
            have l15 := ls
            refine dt_B (k := k) (inf := 1) (zer := 0) (no := no) (e := e) (up := up) (dn := dn) (wr := wr) hR hI hr hf hg hn hfn hgn (by omega) he hup hdn (by omega) hwr (by omega) (by omega) (fun {lv w e' up' dn' wr'} hR l0 l1 l2 l3 l4 l5 l6 l7 l8 l9 l10 l11 q1 q2 q3 q4 q5 q6 q7 q8 => ?_) l0 l1 l2 l3 l4 l5 l6 l7 l8 l9 l10 l11 l12 l13 l14 l15
            exact hN (no' := no) hR l0 l1 l2 l3 l4 l5 l6 l7 l8 l9 l10 l11 (by rw [if_neg (by omega)]) q1 q2 q3 q4 q5 q6 q7 (by omega) q8
    · refine i_231_115 ?_
      refine i_231_116 ?_
      refine i_231_120 (c := 1) (o_orb1 (x := no) (by omega)) ?_
      refine i_231_121 rfl ?_
      refine lgen1 (i := 9) (v := Value.int 1) (fun lv lg ls => ?_)
      replace l13 := lg 13 _ rfl rfl l13
      replace l12 := lg 12 _ rfl rfl l12
      replace l0 := lg 0 _ rfl rfl l0
      replace l1 := lg 1 _ rfl rfl l1
      replace l2 := lg 2 _ rfl rfl l2
      replace l3 := lg 3 _ rfl rfl l3
      replace l4 := lg 4 _ rfl rfl l4
      replace l5 := lg 5 _ rfl rfl l5
      replace l6 := lg 6 _ rfl rfl l6
      replace l7 := lg 7 _ rfl rfl l7
      replace l8 := lg 8 _ rfl rfl l8
      replace l10 := lg 10 _ rfl rfl l10
      replace l11 := lg 11 _ rfl rfl l11
      have l9 := ls
      refine i_231_123 (x := 128) l0 ?_
      refine i_231_124 (v := Value.ref 154) hR.c128 rfl ?_
      refine i_231_127 (x := Int32.ofInt (f + (k : Int))) l12 ?_
      refine i_231_129 (v := Value.int (Int32.ofInt (S 154 ((f + (k : Int)).toNat)))) (hR.row a154) (ix0 (T := f + (k : Int)) (by omega) (by omega)) (ix1 (T := f + (k : Int)) (by omega) (by omega) (by omega)) (ra (T := f + (k : Int)) (by omega) (by omega) rfl) ?_
      refine i_231_130 ?_
      refine i_231_131 (b_eq (a := S 154 ((f + (k : Int)).toNat)) (b := 1) ⟨by omega, by omega⟩ ⟨by decide, by decide⟩ fun c17 => ?_) (b_ne (a := S 154 ((f + (k : Int)).toNat)) (b := 1) ⟨by omega, by omega⟩ ⟨by decide, by decide⟩ fun c17 => ?_)
      · refine i_231_145 ?_
        refine i_231_146 ?_
        refine i_231_150 rfl ?_
        refine lgen1 (i := 14) (v := Value.int 1) (fun lv lg ls => ?_)
        replace l9 := lg 9 _ rfl rfl l9
        replace l13 := lg 13 _ rfl rfl l13
        replace l12 := lg 12 _ rfl rfl l12
        replace l0 := lg 0 _ rfl rfl l0
        replace l1 := lg 1 _ rfl rfl l1
        replace l2 := lg 2 _ rfl rfl l2
        replace l3 := lg 3 _ rfl rfl l3
        replace l4 := lg 4 _ rfl rfl l4
        replace l5 := lg 5 _ rfl rfl l5
        replace l6 := lg 6 _ rfl rfl l6
        replace l7 := lg 7 _ rfl rfl l7
        replace l8 := lg 8 _ rfl rfl l8
        replace l10 := lg 10 _ rfl rfl l10
        replace l11 := lg 11 _ rfl rfl l11
        have l14 := ls
        refine i_231_152 (x := 128) l0 ?_
        refine i_231_153 (v := Value.ref 154) hR.c128 rfl ?_
        refine i_231_156 (x := Int32.ofInt (f + (k : Int))) l12 ?_
        refine i_231_158 (v := Value.int (Int32.ofInt (S 154 ((f + (k : Int)).toNat)))) (hR.row a154) (ix0 (T := f + (k : Int)) (by omega) (by omega)) (ix1 (T := f + (k : Int)) (by omega) (by omega) (by omega)) (ra (T := f + (k : Int)) (by omega) (by omega) rfl) ?_
        refine i_231_159 ?_
        refine i_231_160 (b_eq (a := S 154 ((f + (k : Int)).toNat)) (b := 2) ⟨by omega, by omega⟩ ⟨by decide, by decide⟩ fun c18 => absurd c18 (by omega)) (b_ne (a := S 154 ((f + (k : Int)).toNat)) (b := 2) ⟨by omega, by omega⟩ ⟨by decide, by decide⟩ fun c18 => ?_)
        refine i_231_163 (x := 128) l0 ?_
        refine i_231_164 (v := Value.ref 154) hR.c128 rfl ?_
        refine i_231_167 (x := Int32.ofInt (g + (k : Int))) l13 ?_
        refine i_231_169 (v := Value.int (Int32.ofInt (S 154 ((g + (k : Int)).toNat)))) (hR.row a154) (ix0 (T := g + (k : Int)) (by omega) (by omega)) (ix1 (T := g + (k : Int)) (by omega) (by omega) (by omega)) (ra (T := g + (k : Int)) (by omega) (by omega) rfl) ?_
        refine i_231_170 ?_
        refine i_231_171 (b_ne (a := S 154 ((g + (k : Int)).toNat)) (b := 2) ⟨by omega, by omega⟩ ⟨by decide, by decide⟩ fun c19 => ?_) (b_eq (a := S 154 ((g + (k : Int)).toNat)) (b := 2) ⟨by omega, by omega⟩ ⟨by decide, by decide⟩ fun c19 => absurd c19 (by omega))
        refine i_231_178 ?_
        refine i_231_179 rfl ?_
        refine lgen1 (i := 15) (v := Value.int 0) (fun lv lg ls => ?_)
        replace l14 := lg 14 _ rfl rfl l14
        replace l9 := lg 9 _ rfl rfl l9
        replace l13 := lg 13 _ rfl rfl l13
        replace l12 := lg 12 _ rfl rfl l12
        replace l0 := lg 0 _ rfl rfl l0
        replace l1 := lg 1 _ rfl rfl l1
        replace l2 := lg 2 _ rfl rfl l2
        replace l3 := lg 3 _ rfl rfl l3
        replace l4 := lg 4 _ rfl rfl l4
        replace l5 := lg 5 _ rfl rfl l5
        replace l6 := lg 6 _ rfl rfl l6
        replace l7 := lg 7 _ rfl rfl l7
        replace l8 := lg 8 _ rfl rfl l8
        replace l10 := lg 10 _ rfl rfl l10
        replace l11 := lg 11 _ rfl rfl l11
        have l15 := ls
        refine dt_B (k := k) (inf := 1) (zer := 0) (no := 1) (e := e) (up := up) (dn := dn) (wr := wr) hR hI hr hf hg hn hfn hgn (by omega) he hup hdn (by omega) hwr (by omega) (by omega) (fun {lv w e' up' dn' wr'} hR l0 l1 l2 l3 l4 l5 l6 l7 l8 l9 l10 l11 q1 q2 q3 q4 q5 q6 q7 q8 => ?_) l0 l1 l2 l3 l4 l5 l6 l7 l8 l9 l10 l11 l12 l13 l14 l15
        exact hN (no' := 1) hR l0 l1 l2 l3 l4 l5 l6 l7 l8 l9 l10 l11 (by rw [if_pos (by omega)]) q1 q2 q3 q4 q5 q6 q7 (by omega) q8
      · refine i_231_134 (x := 128) l0 ?_
        refine i_231_135 (v := Value.ref 154) hR.c128 rfl ?_
        refine i_231_138 (x := Int32.ofInt (g + (k : Int))) l13 ?_
        refine i_231_140 (v := Value.int (Int32.ofInt (S 154 ((g + (k : Int)).toNat)))) (hR.row a154) (ix0 (T := g + (k : Int)) (by omega) (by omega)) (ix1 (T := g + (k : Int)) (by omega) (by omega) (by omega)) (ra (T := g + (k : Int)) (by omega) (by omega) rfl) ?_
        refine i_231_141 ?_
        refine i_231_142 (b_ne (a := S 154 ((g + (k : Int)).toNat)) (b := 1) ⟨by omega, by omega⟩ ⟨by decide, by decide⟩ fun c20 => ?_) (b_eq (a := S 154 ((g + (k : Int)).toNat)) (b := 1) ⟨by omega, by omega⟩ ⟨by decide, by decide⟩ fun c20 => absurd c20 (by omega))
        refine i_231_149 ?_
        refine i_231_150 rfl ?_
        refine lgen1 (i := 14) (v := Value.int 0) (fun lv lg ls => ?_)
        replace l9 := lg 9 _ rfl rfl l9
        replace l13 := lg 13 _ rfl rfl l13
        replace l12 := lg 12 _ rfl rfl l12
        replace l0 := lg 0 _ rfl rfl l0
        replace l1 := lg 1 _ rfl rfl l1
        replace l2 := lg 2 _ rfl rfl l2
        replace l3 := lg 3 _ rfl rfl l3
        replace l4 := lg 4 _ rfl rfl l4
        replace l5 := lg 5 _ rfl rfl l5
        replace l6 := lg 6 _ rfl rfl l6
        replace l7 := lg 7 _ rfl rfl l7
        replace l8 := lg 8 _ rfl rfl l8
        replace l10 := lg 10 _ rfl rfl l10
        replace l11 := lg 11 _ rfl rfl l11
        have l14 := ls
        refine i_231_152 (x := 128) l0 ?_
        refine i_231_153 (v := Value.ref 154) hR.c128 rfl ?_
        refine i_231_156 (x := Int32.ofInt (f + (k : Int))) l12 ?_
        refine i_231_158 (v := Value.int (Int32.ofInt (S 154 ((f + (k : Int)).toNat)))) (hR.row a154) (ix0 (T := f + (k : Int)) (by omega) (by omega)) (ix1 (T := f + (k : Int)) (by omega) (by omega) (by omega)) (ra (T := f + (k : Int)) (by omega) (by omega) rfl) ?_
        refine i_231_159 ?_
        refine i_231_160 (b_eq (a := S 154 ((f + (k : Int)).toNat)) (b := 2) ⟨by omega, by omega⟩ ⟨by decide, by decide⟩ fun c21 => ?_) (b_ne (a := S 154 ((f + (k : Int)).toNat)) (b := 2) ⟨by omega, by omega⟩ ⟨by decide, by decide⟩ fun c21 => ?_)
        · refine i_231_174 ?_
          refine i_231_175 ?_
          refine i_231_179 rfl ?_
          refine lgen1 (i := 15) (v := Value.int 1) (fun lv lg ls => ?_)
          replace l14 := lg 14 _ rfl rfl l14
          replace l9 := lg 9 _ rfl rfl l9
          replace l13 := lg 13 _ rfl rfl l13
          replace l12 := lg 12 _ rfl rfl l12
          replace l0 := lg 0 _ rfl rfl l0
          replace l1 := lg 1 _ rfl rfl l1
          replace l2 := lg 2 _ rfl rfl l2
          replace l3 := lg 3 _ rfl rfl l3
          replace l4 := lg 4 _ rfl rfl l4
          replace l5 := lg 5 _ rfl rfl l5
          replace l6 := lg 6 _ rfl rfl l6
          replace l7 := lg 7 _ rfl rfl l7
          replace l8 := lg 8 _ rfl rfl l8
          replace l10 := lg 10 _ rfl rfl l10
          replace l11 := lg 11 _ rfl rfl l11
          have l15 := ls
          refine dt_B (k := k) (inf := 0) (zer := 1) (no := 1) (e := e) (up := up) (dn := dn) (wr := wr) hR hI hr hf hg hn hfn hgn (by omega) he hup hdn (by omega) hwr (by omega) (by omega) (fun {lv w e' up' dn' wr'} hR l0 l1 l2 l3 l4 l5 l6 l7 l8 l9 l10 l11 q1 q2 q3 q4 q5 q6 q7 q8 => ?_) l0 l1 l2 l3 l4 l5 l6 l7 l8 l9 l10 l11 l12 l13 l14 l15
          exact hN (no' := 1) hR l0 l1 l2 l3 l4 l5 l6 l7 l8 l9 l10 l11 (by rw [if_pos (by omega)]) q1 q2 q3 q4 q5 q6 q7 (by omega) q8
        · refine i_231_163 (x := 128) l0 ?_
          refine i_231_164 (v := Value.ref 154) hR.c128 rfl ?_
          refine i_231_167 (x := Int32.ofInt (g + (k : Int))) l13 ?_
          refine i_231_169 (v := Value.int (Int32.ofInt (S 154 ((g + (k : Int)).toNat)))) (hR.row a154) (ix0 (T := g + (k : Int)) (by omega) (by omega)) (ix1 (T := g + (k : Int)) (by omega) (by omega) (by omega)) (ra (T := g + (k : Int)) (by omega) (by omega) rfl) ?_
          refine i_231_170 ?_
          refine i_231_171 (b_ne (a := S 154 ((g + (k : Int)).toNat)) (b := 2) ⟨by omega, by omega⟩ ⟨by decide, by decide⟩ fun c22 => ?_) (b_eq (a := S 154 ((g + (k : Int)).toNat)) (b := 2) ⟨by omega, by omega⟩ ⟨by decide, by decide⟩ fun c22 => absurd c22 (by omega))
          refine i_231_178 ?_
          refine i_231_179 rfl ?_
          refine lgen1 (i := 15) (v := Value.int 0) (fun lv lg ls => ?_)
          replace l14 := lg 14 _ rfl rfl l14
          replace l9 := lg 9 _ rfl rfl l9
          replace l13 := lg 13 _ rfl rfl l13
          replace l12 := lg 12 _ rfl rfl l12
          replace l0 := lg 0 _ rfl rfl l0
          replace l1 := lg 1 _ rfl rfl l1
          replace l2 := lg 2 _ rfl rfl l2
          replace l3 := lg 3 _ rfl rfl l3
          replace l4 := lg 4 _ rfl rfl l4
          replace l5 := lg 5 _ rfl rfl l5
          replace l6 := lg 6 _ rfl rfl l6
          replace l7 := lg 7 _ rfl rfl l7
          replace l8 := lg 8 _ rfl rfl l8
          replace l10 := lg 10 _ rfl rfl l10
          replace l11 := lg 11 _ rfl rfl l11
          have l15 := ls
          refine dt_B (k := k) (inf := 0) (zer := 0) (no := 1) (e := e) (up := up) (dn := dn) (wr := wr) hR hI hr hf hg hn hfn hgn (by omega) he hup hdn (by omega) hwr (by omega) (by omega) (fun {lv w e' up' dn' wr'} hR l0 l1 l2 l3 l4 l5 l6 l7 l8 l9 l10 l11 q1 q2 q3 q4 q5 q6 q7 q8 => ?_) l0 l1 l2 l3 l4 l5 l6 l7 l8 l9 l10 l11 l12 l13 l14 l15
          exact hN (no' := 1) hR l0 l1 l2 l3 l4 l5 l6 l7 l8 l9 l10 l11 (by rw [if_pos (by omega)]) q1 q2 q3 q4 q5 q6 q7 (by omega) q8
set_option maxHeartbeats 4000000 in
theorem dt_1 (hI : mI S V) (hr : 0 ≤ r ∧ r ≤ 15) (hf : 0 ≤ f) (hg : 0 ≤ g) (hn : 1 ≤ n ∧ n ≤ 16) (hfn : f + n ≤ 16) (hgn : g + n ≤ 16) (hQ : ∀ {lv : xLv} {w : xW} {e up dn no wr : Int}, mR w0 S V w → (-2147483648 ≤ e ∧ e < 2147483648) → (up = 0 ∨ up = 1) → (dn = 0 ∨ dn = 1) → (no = 0 ∨ no = 1) → (wr = 0 ∨ wr = 1) → no = (tkQ S V f g n.toNat).1 → hid ((tkQ S V f g n.toNat).1 = 0 → wr = (tkQ S V f g n.toNat).2.1 ∧ e = eM (tkQ S V f g n.toNat) ∧ ((tkQ S V f g n.toNat).2.1 = 0 → up = (tkQ S V f g n.toNat).2.2.1 ∧ dn = (tkQ S V f g n.toNat).2.2.2.1)) → xld lv 0 = some (Value.ref 128) → xld lv 1 = some (Value.int (Int32.ofInt r)) → xld lv 2 = some (Value.int (Int32.ofInt f)) → xld lv 3 = some (Value.int (Int32.ofInt g)) → xld lv 4 = some (Value.int (Int32.ofInt n)) → xld lv 5 = some (Value.int (Int32.ofInt mode)) → xld lv 6 = some (Value.int (Int32.ofInt e)) → xld lv 7 = some (Value.int (Int32.ofInt up)) → xld lv 8 = some (Value.int (Int32.ofInt dn)) → xld lv 9 = some (Value.int (Int32.ofInt no)) → xld lv 10 = some (Value.int (Int32.ofInt wr)) → xEv (d + 8) 231 301 lv [] w Q) : ∀ (m k : Nat) {lv : xLv} {w : xW} {e up dn no wr : Int}, (k : Int) + (m : Int) = n → mR w0 S V w → (-2147483648 ≤ e ∧ e < 2147483648) → (up = 0 ∨ up = 1) → (dn = 0 ∨ dn = 1) → (no = 0 ∨ no = 1) → (wr = 0 ∨ wr = 1) → no = (tkQ S V f g k).1 → hid ((tkQ S V f g k).1 = 0 → wr = (tkQ S V f g k).2.1 ∧ e = eM (tkQ S V f g k) ∧ ((tkQ S V f g k).2.1 = 0 → up = (tkQ S V f g k).2.2.1 ∧ dn = (tkQ S V f g k).2.2.2.1)) → xld lv 0 = some (Value.ref 128) → xld lv 1 = some (Value.int (Int32.ofInt r)) → xld lv 2 = some (Value.int (Int32.ofInt f)) → xld lv 3 = some (Value.int (Int32.ofInt g)) → xld lv 4 = some (Value.int (Int32.ofInt n)) → xld lv 5 = some (Value.int (Int32.ofInt mode)) → xld lv 6 = some (Value.int (Int32.ofInt e)) → xld lv 7 = some (Value.int (Int32.ofInt up)) → xld lv 8 = some (Value.int (Int32.ofInt dn)) → xld lv 9 = some (Value.int (Int32.ofInt no)) → xld lv 10 = some (Value.int (Int32.ofInt wr)) → xld lv 11 = some (Value.int (Int32.ofInt (k : Int))) → xEv (d + 8) 231 74 lv [] w Q := by
  intro m
  induction m with
  | zero =>
    intro k lv w e up dn no wr hk hR he hup hdn hno hwr hx hJ l0 l1 l2 l3 l4 l5 l6 l7 l8 l9 l10 l11
    refine i_231_74 l11 ?_
    refine i_231_76 l4 ?_
    refine i_231_78 (b_le (a := n) (b := (k : Int)) ⟨by omega, by omega⟩ ⟨by omega, by omega⟩ fun _ => ?_) (b_lt (a := (k : Int)) (b := n) ⟨by omega, by omega⟩ ⟨by omega, by omega⟩ fun c => absurd c (by omega))
    rw [show k = n.toNat by omega] at hx hJ
    exact hQ hR he hup hdn hno hwr hx hJ l0 l1 l2 l3 l4 l5 l6 l7 l8 l9 l10
  | succ m ih =>
    intro k lv w e up dn no wr hk hR he hup hdn hno hwr hx hJ l0 l1 l2 l3 l4 l5 l6 l7 l8 l9 l10 l11
    refine dt_A (k := k) hR hI hr hf hg hn hfn hgn (by omega) he hup hdn hno hwr (fun {lv w e' up' dn' no' wr'} hR l0 l1 l2 l3 l4 l5 l6 l7 l8 l9 l10 l11 q0 q1 q2 q3 q4 q5 q6 q7 q9 q8 => ?_) l0 l1 l2 l3 l4 l5 l6 l7 l8 l9 l10 l11
    obtain ⟨hp_a, hk_a, hn_a, ht_a, hx_a, -⟩ := hI.1 (f + (k : Int)).toNat (by omega)
    obtain ⟨hp_b, hk_b, hn_b, ht_b, hx_b, -⟩ := hI.1 (g + (k : Int)).toNat (by omega)
    have st := dq_step (ma := V (160 + 2 * (f + (k : Int)).toNat)) (mb := V (160 + 2 * (g + (k : Int)).toNat)) (okT_Q hI hf hg k (by omega) (by omega)) hk_a hk_b hx hJ q0 q1 q2 q3 q4 (by omega)
    exact ih (k + 1) (by omega) hR q5 q6 q7 q9 q8 st.1 st.2 l0 l1 l2 l3 l4 l5 l6 l7 l8 l9 l10 l11
set_option maxHeartbeats 8000000 in
theorem dt_2 (hI : mI S V) (hr : 0 ≤ r ∧ r ≤ 15) (hf : 0 ≤ f) (hg : 0 ≤ g) (hn : 1 ≤ n ∧ n ≤ 16) (hfn : f + n ≤ 16) (hgn : g + n ≤ 16) (hEn : E = eM (tkQ S V f g n.toNat)) (hkd : hid (∀ k : Nat, (k : Int) < n → (S 154 (f + (k : Int)).toNat = 2 ∨ S 154 (f + (k : Int)).toNat = 3) ∧ (S 154 (g + (k : Int)).toNat = 2 ∨ S 154 (g + (k : Int)).toNat = 3))) (hQ : ∀ {lv : xLv} {w : xW} {S1 : Nat → Nat → Int} {V1 : Nat → Nat}, mR w0 S1 V1 w → sS S V S1 V1 E (pM (tkQ S V f g n.toNat) E) (qM (tkQ S V f g n.toNat) E) (if (tkQ S V f g n.toNat).2.2.2.2.2.2.2.1 = 0 then 1 else 0) (tkQ S V f g n.toNat).2.2.2.2.2.2.2.2.1 (tkQ S V f g n.toNat).2.2.2.2.2.2.2.2.2 → xld lv 0 = some (Value.ref 128) → xld lv 1 = some (Value.int (Int32.ofInt r)) → xld lv 2 = some (Value.int (Int32.ofInt f)) → xld lv 3 = some (Value.int (Int32.ofInt g)) → xld lv 4 = some (Value.int (Int32.ofInt n)) → xld lv 5 = some (Value.int (Int32.ofInt mode)) → xEv (d + 8) 231 503 lv [] w Q) : ∀ (m k : Nat) {lv : xLv} {w : xW} {S1 : Nat → Nat → Int} {V1 : Nat → Nat} {P N : Nat} {z pz nz : Int}, (k : Int) + (m : Int) = n → mR w0 S1 V1 w → sS S V S1 V1 E P N z pz nz → P = pM (tkQ S V f g k) E → N = qM (tkQ S V f g k) E → z = (if (tkQ S V f g k).2.2.2.2.2.2.2.1 = 0 then 1 else 0) → pz = (tkQ S V f g k).2.2.2.2.2.2.2.2.1 → nz = (tkQ S V f g k).2.2.2.2.2.2.2.2.2 → xld lv 0 = some (Value.ref 128) → xld lv 1 = some (Value.int (Int32.ofInt r)) → xld lv 2 = some (Value.int (Int32.ofInt f)) → xld lv 3 = some (Value.int (Int32.ofInt g)) → xld lv 4 = some (Value.int (Int32.ofInt n)) → xld lv 5 = some (Value.int (Int32.ofInt mode)) → xld lv 11 = some (Value.int (Int32.ofInt (k : Int))) → xEv (d + 8) 231 363 lv [] w Q := by
  intro m
  induction m with
  | zero =>
    intro k lv w S1 V1 P N z pz nz hk hR hS hPe hNe hz hpz hnz l0 l1 l2 l3 l4 l5 l11
    refine i_231_363 l11 ?_
    refine i_231_365 l4 ?_
    refine i_231_367 (b_le (a := n) (b := (k : Int)) ⟨by omega, by omega⟩ ⟨by omega, by omega⟩ fun _ => ?_) (b_lt (a := (k : Int)) (b := n) ⟨by omega, by omega⟩ ⟨by omega, by omega⟩ fun c => absurd c (by omega))
    rw [show k = n.toNat by omega] at hPe hNe hz hpz hnz
    rw [hPe, hNe, hz, hpz, hnz] at hS
    exact hQ hR hS l0 l1 l2 l3 l4 l5
  | succ m ih =>
    intro k lv w S1 V1 P N z pz nz hk hR hS hPe hNe hz hpz hnz l0 l1 l2 l3 l4 l5 l11
    have hkk := hkd k (by omega)
    obtain ⟨hp_a, hk_a, hn_a, ht_a, hx_a, -⟩ := hI.1 (f + (k : Int)).toNat (by omega)
    obtain ⟨hp_b, hk_b, hn_b, ht_b, hx_b, -⟩ := hI.1 (g + (k : Int)).toNat (by omega)
    have hox := okT_Q hI hf hg k (by omega) (by omega)
    have hEk : E ≤ eM (tkQ S V f g (k + 1)) := by rw [hEn]; exact (tQ_mono hI hf hg (show k + 1 ≤ n.toNat by omega) (by omega) (by omega)).1
    have hE0 : -60000 ≤ E := by rw [hEn]; exact (eM_b (okT_Q hI hf hg n.toNat (by omega) (by omega))).1
    have hEk0 : E ≤ eM (tkQ S V f g k) := by rw [hEn]; exact (tQ_mono hI hf hg (show k ≤ n.toNat by omega) (by omega) (by omega)).1
    obtain ⟨hPb, hNb⟩ := pM_b hox ⟨by omega, by omega⟩ ⟨hE0, hEk0⟩
    rw [← hPe] at hPb
    rw [← hNe] at hNb
    have hEs : S 154 (f + (k : Int)).toNat = 3 → S 154 (g + (k : Int)).toNat = 3 → E ≤ (S 155 (f + (k : Int)).toNat - S 153 (f + (k : Int)).toNat) + (S 155 (g + (k : Int)).toNat - S 153 (g + (k : Int)).toNat) := fun h3 h4 => by
      have T := tk_3 (sg := xorI (S 156 (f + (k : Int)).toNat) (S 156 (g + (k : Int)).toNat)) (m := V (160 + 2 * (f + (k : Int)).toNat) * V (160 + 2 * (g + (k : Int)).toNat)) (sc := (S 155 (f + (k : Int)).toNat - S 153 (f + (k : Int)).toNat) + (S 155 (g + (k : Int)).toNat - S 153 (g + (k : Int)).toNat)) hox xor_01 (by omega)
      have e : tkQ S V f g (k + 1) = tk (tkQ S V f g k) 3 (xorI (S 156 (f + (k : Int)).toNat) (S 156 (g + (k : Int)).toNat)) (V (160 + 2 * (f + (k : Int)).toNat) * V (160 + 2 * (g + (k : Int)).toNat)) ((S 155 (f + (k : Int)).toNat - S 153 (f + (k : Int)).toNat) + (S 155 (g + (k : Int)).toNat - S 153 (g + (k : Int)).toNat)) := if_pos ⟨h3, h4⟩
      rw [e, T.2.2.2.2.1] at hEk
      clear T
      omega
    refine i_231_363 (x := Int32.ofInt (k : Int)) l11 ?_
    refine i_231_365 (x := Int32.ofInt n) l4 ?_
    refine i_231_367 (b_le (a := n) (b := (k : Int)) ⟨by omega, by omega⟩ ⟨by omega, by omega⟩ fun c0 => absurd c0 (by omega)) (b_lt (a := (k : Int)) (b := n) ⟨by omega, by omega⟩ ⟨by omega, by omega⟩ fun c0 => ?_)
    refine i_231_370 (x := Int32.ofInt f) l2 ?_
    refine i_231_371 (x := Int32.ofInt (k : Int)) l11 ?_
    refine i_231_373 (c := Int32.ofInt (f + (k : Int))) (o_add f (k : Int)) ?_
    refine i_231_374 rfl ?_
    refine lgen1 (i := 12) (v := Value.int (Int32.ofInt (f + (k : Int)))) (fun lv lg ls => ?_)
    replace l0 := lg 0 _ rfl rfl l0
    replace l1 := lg 1 _ rfl rfl l1
    replace l2 := lg 2 _ rfl rfl l2
    replace l3 := lg 3 _ rfl rfl l3
    replace l4 := lg 4 _ rfl rfl l4
    replace l5 := lg 5 _ rfl rfl l5
    replace l11 := lg 11 _ rfl rfl l11
    have l12 := ls
    refine i_231_376 (x := Int32.ofInt g) l3 ?_
    refine i_231_377 (x := Int32.ofInt (k : Int)) l11 ?_
    refine i_231_379 (c := Int32.ofInt (g + (k : Int))) (o_add g (k : Int)) ?_
    refine i_231_380 rfl ?_
    refine lgen1 (i := 13) (v := Value.int (Int32.ofInt (g + (k : Int)))) (fun lv lg ls => ?_)
    replace l12 := lg 12 _ rfl rfl l12
    replace l0 := lg 0 _ rfl rfl l0
    replace l1 := lg 1 _ rfl rfl l1
    replace l2 := lg 2 _ rfl rfl l2
    replace l3 := lg 3 _ rfl rfl l3
    replace l4 := lg 4 _ rfl rfl l4
    replace l5 := lg 5 _ rfl rfl l5
    replace l11 := lg 11 _ rfl rfl l11
    have l13 := ls
    refine i_231_382 (x := 128) l0 ?_
    refine i_231_383 (v := Value.ref 154) hR.c128 rfl ?_
    refine i_231_386 (x := Int32.ofInt (f + (k : Int))) l12 ?_
    refine i_231_388 (v := Value.int (Int32.ofInt (S 154 ((f + (k : Int)).toNat)))) (hR.row a154) (ix0 (T := f + (k : Int)) (by omega) (by omega)) (ix1 (T := f + (k : Int)) (by omega) (by omega) (by omega)) (ra (T := f + (k : Int)) (by omega) (by omega) (hS.1.1 _ _ (by decide))) ?_
    refine i_231_389 ?_
    refine i_231_390 (b_eq (a := S 154 ((f + (k : Int)).toNat)) (b := 2) ⟨by omega, by omega⟩ ⟨by decide, by decide⟩ fun c1 => ?_) (b_ne (a := S 154 ((f + (k : Int)).toNat)) (b := 2) ⟨by omega, by omega⟩ ⟨by decide, by decide⟩ fun c1 => ?_)
    · refine i_231_404 (x := 128) l0 ?_
      refine i_231_405 (x := 128) l0 ?_
      refine i_231_406 (v := Value.ref 156) hR.c128 rfl ?_
      refine i_231_409 (x := Int32.ofInt (f + (k : Int))) l12 ?_
      refine i_231_411z (v := Value.int (Int32.ofInt (S 156 ((f + (k : Int)).toNat)))) (hR.row a156) (ix0 (T := f + (k : Int)) (by omega) (by omega)) (ix1 (T := f + (k : Int)) (by omega) (by omega) (by omega)) (ra (T := f + (k : Int)) (by omega) (by omega) (hS.1.1 _ _ (by decide))) ?_
      refine i_231_412 (x := 128) l0 ?_
      refine i_231_413 (v := Value.ref 156) hR.c128 rfl ?_
      refine i_231_416 (x := Int32.ofInt (g + (k : Int))) l13 ?_
      refine i_231_418z (v := Value.int (Int32.ofInt (S 156 ((g + (k : Int)).toNat)))) (hR.row a156) (ix0 (T := g + (k : Int)) (by omega) (by omega)) (ix1 (T := g + (k : Int)) (by omega) (by omega) (by omega)) (ra (T := g + (k : Int)) (by omega) (by omega) (hS.1.1 _ _ (by decide))) ?_
      refine i_231_419 (b_eq (a := S 156 ((f + (k : Int)).toNat)) (b := S 156 ((g + (k : Int)).toNat)) ⟨by omega, by omega⟩ ⟨by omega, by omega⟩ fun c2 => ?_) (b_ne (a := S 156 ((f + (k : Int)).toNat)) (b := S 156 ((g + (k : Int)).toNat)) ⟨by omega, by omega⟩ ⟨by omega, by omega⟩ fun c2 => ?_)
      · refine i_231_426 ?_
        have hobj := hR.c128
        obtain ⟨w, S1, V1, hrun, hR, hS⟩ := t_addZero (d := d + 6) (sg := 0) hR hS (by omega)
        refine i_231_427 hobj (Nat.le_of_ble_eq_true rfl) hrun ?_
        refine i_231_430 ?_
        refine i_231_497 (x := (Int32.ofInt (k : Int))) (c := (Int32.ofInt ((k : Int) + 1))) l11 (o_add (k : Int) 1) rfl ?_
        refine lgen1 (i := 11) (v := Value.int (Int32.ofInt ((k : Int) + 1))) (fun lv lg ls => ?_)
        replace l13 := lg 13 _ rfl rfl l13
        replace l12 := lg 12 _ rfl rfl l12
        replace l0 := lg 0 _ rfl rfl l0
        replace l1 := lg 1 _ rfl rfl l1
        replace l2 := lg 2 _ rfl rfl l2
        replace l3 := lg 3 _ rfl rfl l3
        replace l4 := lg 4 _ rfl rfl l4
        replace l5 := lg 5 _ rfl rfl l5
        have l11 := ls
        refine i_231_500 ?_
        rw [show (k : Int) + 1 = ((k + 1 : Nat) : Int) by omega] at l11
        have e : tkQ S V f g (k + 1) = tk (tkQ S V f g k) 2 (xorI (S 156 (f + (k : Int)).toNat) (S 156 (g + (k : Int)).toNat)) 0 0 := by
          show tkp _ _ _ _ _ _ _ _ _ = _
          unfold tkp
          rw [if_neg (by omega), if_neg (by omega), if_pos (by omega)]
        have hP := tk2s (x := tkQ S V f g k) (k := 2) (sg := xorI (S 156 (f + (k : Int)).toNat) (S 156 (g + (k : Int)).toNat)) (m := 0) (sc := 0) (E := E) (by decide)
        have T := tk_2 (sg := xorI (S 156 (f + (k : Int)).toNat) (S 156 (g + (k : Int)).toNat)) hox xor_01
        have hxs : xorI (S 156 (f + (k : Int)).toNat) (S 156 (g + (k : Int)).toNat) = 0 := if_pos (by omega)
        rw [hxs] at hP T e
        rw [← e] at hP T
        exact ih (k + 1) (by omega) hR hS (hPe.trans hP.1.symm) (hNe.trans hP.2.symm) (by rw [T.2.2.2.2.2.1]; exact hz) (by rw [T.2.2.2.2.2.2.1]; rw [if_pos rfl, if_pos rfl]) (by rw [T.2.2.2.2.2.2.2]; rw [if_pos rfl, if_pos rfl]; exact hnz) l0 l1 l2 l3 l4 l5 l11
      · refine i_231_422 ?_
        refine i_231_423 ?_
        have hobj := hR.c128
        obtain ⟨w, S1, V1, hrun, hR, hS⟩ := t_addZero (d := d + 6) (sg := 1) hR hS (by omega)
        refine i_231_427 hobj (Nat.le_of_ble_eq_true rfl) hrun ?_
        refine i_231_430 ?_
        refine i_231_497 (x := (Int32.ofInt (k : Int))) (c := (Int32.ofInt ((k : Int) + 1))) l11 (o_add (k : Int) 1) rfl ?_
        refine lgen1 (i := 11) (v := Value.int (Int32.ofInt ((k : Int) + 1))) (fun lv lg ls => ?_)
        replace l13 := lg 13 _ rfl rfl l13
        replace l12 := lg 12 _ rfl rfl l12
        replace l0 := lg 0 _ rfl rfl l0
        replace l1 := lg 1 _ rfl rfl l1
        replace l2 := lg 2 _ rfl rfl l2
        replace l3 := lg 3 _ rfl rfl l3
        replace l4 := lg 4 _ rfl rfl l4
        replace l5 := lg 5 _ rfl rfl l5
        have l11 := ls
        refine i_231_500 ?_
        rw [show (k : Int) + 1 = ((k + 1 : Nat) : Int) by omega] at l11
        have e : tkQ S V f g (k + 1) = tk (tkQ S V f g k) 2 (xorI (S 156 (f + (k : Int)).toNat) (S 156 (g + (k : Int)).toNat)) 0 0 := by
          show tkp _ _ _ _ _ _ _ _ _ = _
          unfold tkp
          rw [if_neg (by omega), if_neg (by omega), if_pos (by omega)]
        have hP := tk2s (x := tkQ S V f g k) (k := 2) (sg := xorI (S 156 (f + (k : Int)).toNat) (S 156 (g + (k : Int)).toNat)) (m := 0) (sc := 0) (E := E) (by decide)
        have T := tk_2 (sg := xorI (S 156 (f + (k : Int)).toNat) (S 156 (g + (k : Int)).toNat)) hox xor_01
        have hxs : xorI (S 156 (f + (k : Int)).toNat) (S 156 (g + (k : Int)).toNat) = 1 := if_neg (by omega)
        rw [hxs] at hP T e
        rw [← e] at hP T
        exact ih (k + 1) (by omega) hR hS (hPe.trans hP.1.symm) (hNe.trans hP.2.symm) (by rw [T.2.2.2.2.2.1]; exact hz) (by rw [T.2.2.2.2.2.2.1]; rw [if_neg (by decide), if_neg (by decide)]; exact hpz) (by rw [T.2.2.2.2.2.2.2]; rw [if_neg (by decide), if_neg (by decide)]) l0 l1 l2 l3 l4 l5 l11
    · refine i_231_393 (x := 128) l0 ?_
      refine i_231_394 (v := Value.ref 154) hR.c128 rfl ?_
      refine i_231_397 (x := Int32.ofInt (g + (k : Int))) l13 ?_
      refine i_231_399 (v := Value.int (Int32.ofInt (S 154 ((g + (k : Int)).toNat)))) (hR.row a154) (ix0 (T := g + (k : Int)) (by omega) (by omega)) (ix1 (T := g + (k : Int)) (by omega) (by omega) (by omega)) (ra (T := g + (k : Int)) (by omega) (by omega) (hS.1.1 _ _ (by decide))) ?_
      refine i_231_400 ?_
      refine i_231_401 (b_ne (a := S 154 ((g + (k : Int)).toNat)) (b := 2) ⟨by omega, by omega⟩ ⟨by decide, by decide⟩ fun c3 => ?_) (b_eq (a := S 154 ((g + (k : Int)).toNat)) (b := 2) ⟨by omega, by omega⟩ ⟨by decide, by decide⟩ fun c3 => ?_)
      · refine i_231_433 (x := 128) l0 ?_
        refine i_231_434 (v := Value.ref 133) hR.c128 rfl ?_
        refine i_231_437 (x := 128) l0 ?_
        refine i_231_438 (v := Value.ref 157) hR.c128 rfl ?_
        refine i_231_441 (x := Int32.ofInt (f + (k : Int))) l12 ?_
        obtain ⟨gp, hgp, hgr⟩ := hR.part (j := (f + (k : Int)).toNat) (by omega)
        refine i_231_443 (v := Value.ref (160 + 2 * (f + (k : Int)).toNat)) hgp (ix0 (by omega) (by omega)) (ix1 (by omega) (by omega) (by omega)) (by rw [ixn (by omega) (by omega)]; exact hgr) ?_
        refine i_231_444 (x := 128) l0 ?_
        refine i_231_445 (v := Value.ref 157) hR.c128 rfl ?_
        refine i_231_448 (x := Int32.ofInt (g + (k : Int))) l13 ?_
        obtain ⟨gp, hgp, hgr⟩ := hR.part (j := (g + (k : Int)).toNat) (by omega)
        refine i_231_450 (v := Value.ref (160 + 2 * (g + (k : Int)).toNat)) hgp (ix0 (by omega) (by omega)) (ix1 (by omega) (by omega) (by omega)) (by rw [ixn (by omega) (by omega)]; exact hgr) ?_
        have hpr := xbl_prod (V (160 + 2 * (f + (k : Int)).toNat)) (V (160 + 2 * (g + (k : Int)).toNat))
        obtain ⟨fs, hobj⟩ := hR.obj (h := 133) (iNw (h := 133) (by decide) (by decide) (by decide))
        obtain ⟨w, hrun, hR⟩ := r_prod (d := d + 5) (v2 := V (160 + 2 * (f + (k : Int)).toNat)) (v3 := V (160 + 2 * (g + (k : Int)).toNat)) (c := 4700) hR (iNw (h := 133) (by decide) (by decide) (by decide)) (iNp (r := (f + (k : Int))) (by omega) (by omega)) (iNp (r := (g + (k : Int))) (by omega) (by omega)) (by omega) (by omega) ((hS.2.1 _ (by omega))) ((hS.2.1 _ (by omega))) rfl (by omega)
        refine i_231_451 hobj (Nat.le_of_ble_eq_true rfl) hrun ?_
        refine i_231_454 (x := 128) l0 ?_
        refine i_231_455 (x := 128) l0 ?_
        refine i_231_456 (v := Value.ref 133) hR.c128 rfl ?_
        refine i_231_459 (x := 128) l0 ?_
        refine i_231_460 (x := Int32.ofInt (f + (k : Int))) l12 ?_
        have hobj := hR.c128
        obtain ⟨w, hrun, hR⟩ := s_exponent (d := d + 6) (r := f + (k : Int)) hR (by omega) (by omega)
        rw [hS.1.1 155 _ (by decide), hS.1.1 153 _ (by decide)] at hrun
        refine i_231_462 hobj (Nat.le_of_ble_eq_true rfl) hrun ?_
        refine i_231_465 (x := 128) l0 ?_
        refine i_231_466 (x := Int32.ofInt (g + (k : Int))) l13 ?_
        have hobj := hR.c128
        obtain ⟨w, hrun, hR⟩ := s_exponent (d := d + 6) (r := g + (k : Int)) hR (by omega) (by omega)
        rw [hS.1.1 155 _ (by decide), hS.1.1 153 _ (by decide)] at hrun
        refine i_231_468 hobj (Nat.le_of_ble_eq_true rfl) hrun ?_
        refine i_231_471 (c := Int32.ofInt ((S 155 (f + (k : Int)).toNat - S 153 (f + (k : Int)).toNat) + (S 155 (g + (k : Int)).toNat - S 153 (g + (k : Int)).toNat))) (o_add (S 155 (f + (k : Int)).toNat - S 153 (f + (k : Int)).toNat) (S 155 (g + (k : Int)).toNat - S 153 (g + (k : Int)).toNat)) ?_
        refine i_231_472 (x := 128) l0 ?_
        refine i_231_473 (v := Value.ref 156) hR.c128 rfl ?_
        refine i_231_476 (x := Int32.ofInt (f + (k : Int))) l12 ?_
        refine i_231_478z (v := Value.int (Int32.ofInt (S 156 ((f + (k : Int)).toNat)))) (hR.row a156) (ix0 (T := f + (k : Int)) (by omega) (by omega)) (ix1 (T := f + (k : Int)) (by omega) (by omega) (by omega)) (ra (T := f + (k : Int)) (by omega) (by omega) (hS.1.1 _ _ (by decide))) ?_
        refine i_231_479 (x := 128) l0 ?_
        refine i_231_480 (v := Value.ref 156) hR.c128 rfl ?_
        refine i_231_483 (x := Int32.ofInt (g + (k : Int))) l13 ?_
        refine i_231_485z (v := Value.int (Int32.ofInt (S 156 ((g + (k : Int)).toNat)))) (hR.row a156) (ix0 (T := g + (k : Int)) (by omega) (by omega)) (ix1 (T := g + (k : Int)) (by omega) (by omega) (by omega)) (ra (T := g + (k : Int)) (by omega) (by omega) (hS.1.1 _ _ (by decide))) ?_
        refine i_231_486 (b_eq (a := S 156 ((f + (k : Int)).toNat)) (b := S 156 ((g + (k : Int)).toNat)) ⟨by omega, by omega⟩ ⟨by omega, by omega⟩ fun c4 => ?_) (b_ne (a := S 156 ((f + (k : Int)).toNat)) (b := S 156 ((g + (k : Int)).toNat)) ⟨by omega, by omega⟩ ⟨by omega, by omega⟩ fun c4 => ?_)
        · refine i_231_493 ?_
          have hobj := hR.c128
          obtain ⟨w, S1, V1, hrun, hR, hS⟩ := t_addTo (d := d + 4) (h := 133) (m := (V (160 + 2 * (f + (k : Int)).toNat)) * (V (160 + 2 * (g + (k : Int)).toNat))) (e := (S 155 (f + (k : Int)).toNat - S 153 (f + (k : Int)).toNat) + (S 155 (g + (k : Int)).toNat - S 153 (g + (k : Int)).toNat)) (sg := 0) hR (sS.up hS (by decide) (by decide) (by decide)) (iNw (h := 133) (by decide) (by decide) (by decide)) (uv_s) (by omega) (by omega) (by omega) (by omega) (by omega) (by omega)
          refine i_231_494 hobj (Nat.le_of_ble_eq_true rfl) hrun ?_
          refine i_231_497 (x := (Int32.ofInt (k : Int))) (c := (Int32.ofInt ((k : Int) + 1))) l11 (o_add (k : Int) 1) rfl ?_
          refine lgen1 (i := 11) (v := Value.int (Int32.ofInt ((k : Int) + 1))) (fun lv lg ls => ?_)
          replace l13 := lg 13 _ rfl rfl l13
          replace l12 := lg 12 _ rfl rfl l12
          replace l0 := lg 0 _ rfl rfl l0
          replace l1 := lg 1 _ rfl rfl l1
          replace l2 := lg 2 _ rfl rfl l2
          replace l3 := lg 3 _ rfl rfl l3
          replace l4 := lg 4 _ rfl rfl l4
          replace l5 := lg 5 _ rfl rfl l5
          have l11 := ls
          refine i_231_500 ?_
          rw [show (k : Int) + 1 = ((k + 1 : Nat) : Int) by omega] at l11
          have e : tkQ S V f g (k + 1) = tk (tkQ S V f g k) 3 (xorI (S 156 (f + (k : Int)).toNat) (S 156 (g + (k : Int)).toNat)) (V (160 + 2 * (f + (k : Int)).toNat) * V (160 + 2 * (g + (k : Int)).toNat)) ((S 155 (f + (k : Int)).toNat - S 153 (f + (k : Int)).toNat) + (S 155 (g + (k : Int)).toNat - S 153 (g + (k : Int)).toNat)) := if_pos ⟨by omega, by omega⟩
          have hEk3 := hEk
          rw [e] at hEk3
          have hP := tk2 hox hEk3
          have T := tk_3 (sg := xorI (S 156 (f + (k : Int)).toNat) (S 156 (g + (k : Int)).toNat)) (m := V (160 + 2 * (f + (k : Int)).toNat) * V (160 + 2 * (g + (k : Int)).toNat)) (sc := (S 155 (f + (k : Int)).toNat - S 153 (f + (k : Int)).toNat) + (S 155 (g + (k : Int)).toNat - S 153 (g + (k : Int)).toNat)) hox xor_01 (by omega)
          have hxs : xorI (S 156 (f + (k : Int)).toNat) (S 156 (g + (k : Int)).toNat) = 0 := if_pos (by omega)
          rw [hxs] at hP T e
          rw [← e] at hP T
          exact ih (k + 1) (by omega) hR hS (by rw [hPe]; exact hP.1.symm) (by rw [hNe]; exact hP.2.symm) (by rw [T.2.2.2.2.2.1]; rfl) (by rw [T.2.2.2.2.2.2.1]; exact hpz) (by rw [T.2.2.2.2.2.2.2]; exact hnz) l0 l1 l2 l3 l4 l5 l11
        · refine i_231_489 ?_
          refine i_231_490 ?_
          have hobj := hR.c128
          obtain ⟨w, S1, V1, hrun, hR, hS⟩ := t_addTo (d := d + 4) (h := 133) (m := (V (160 + 2 * (f + (k : Int)).toNat)) * (V (160 + 2 * (g + (k : Int)).toNat))) (e := (S 155 (f + (k : Int)).toNat - S 153 (f + (k : Int)).toNat) + (S 155 (g + (k : Int)).toNat - S 153 (g + (k : Int)).toNat)) (sg := 1) hR (sS.up hS (by decide) (by decide) (by decide)) (iNw (h := 133) (by decide) (by decide) (by decide)) (uv_s) (by omega) (by omega) (by omega) (by omega) (by omega) (by omega)
          refine i_231_494 hobj (Nat.le_of_ble_eq_true rfl) hrun ?_
          refine i_231_497 (x := (Int32.ofInt (k : Int))) (c := (Int32.ofInt ((k : Int) + 1))) l11 (o_add (k : Int) 1) rfl ?_
          refine lgen1 (i := 11) (v := Value.int (Int32.ofInt ((k : Int) + 1))) (fun lv lg ls => ?_)
          replace l13 := lg 13 _ rfl rfl l13
          replace l12 := lg 12 _ rfl rfl l12
          replace l0 := lg 0 _ rfl rfl l0
          replace l1 := lg 1 _ rfl rfl l1
          replace l2 := lg 2 _ rfl rfl l2
          replace l3 := lg 3 _ rfl rfl l3
          replace l4 := lg 4 _ rfl rfl l4
          replace l5 := lg 5 _ rfl rfl l5
          have l11 := ls
          refine i_231_500 ?_
          rw [show (k : Int) + 1 = ((k + 1 : Nat) : Int) by omega] at l11
          have e : tkQ S V f g (k + 1) = tk (tkQ S V f g k) 3 (xorI (S 156 (f + (k : Int)).toNat) (S 156 (g + (k : Int)).toNat)) (V (160 + 2 * (f + (k : Int)).toNat) * V (160 + 2 * (g + (k : Int)).toNat)) ((S 155 (f + (k : Int)).toNat - S 153 (f + (k : Int)).toNat) + (S 155 (g + (k : Int)).toNat - S 153 (g + (k : Int)).toNat)) := if_pos ⟨by omega, by omega⟩
          have hEk3 := hEk
          rw [e] at hEk3
          have hP := tk2 hox hEk3
          have T := tk_3 (sg := xorI (S 156 (f + (k : Int)).toNat) (S 156 (g + (k : Int)).toNat)) (m := V (160 + 2 * (f + (k : Int)).toNat) * V (160 + 2 * (g + (k : Int)).toNat)) (sc := (S 155 (f + (k : Int)).toNat - S 153 (f + (k : Int)).toNat) + (S 155 (g + (k : Int)).toNat - S 153 (g + (k : Int)).toNat)) hox xor_01 (by omega)
          have hxs : xorI (S 156 (f + (k : Int)).toNat) (S 156 (g + (k : Int)).toNat) = 1 := if_neg (by omega)
          rw [hxs] at hP T e
          rw [← e] at hP T
          exact ih (k + 1) (by omega) hR hS (by rw [hPe]; exact hP.1.symm) (by rw [hNe]; exact hP.2.symm) (by rw [T.2.2.2.2.2.1]; rfl) (by rw [T.2.2.2.2.2.2.1]; exact hpz) (by rw [T.2.2.2.2.2.2.2]; exact hnz) l0 l1 l2 l3 l4 l5 l11
      · refine i_231_404 (x := 128) l0 ?_
        refine i_231_405 (x := 128) l0 ?_
        refine i_231_406 (v := Value.ref 156) hR.c128 rfl ?_
        refine i_231_409 (x := Int32.ofInt (f + (k : Int))) l12 ?_
        refine i_231_411z (v := Value.int (Int32.ofInt (S 156 ((f + (k : Int)).toNat)))) (hR.row a156) (ix0 (T := f + (k : Int)) (by omega) (by omega)) (ix1 (T := f + (k : Int)) (by omega) (by omega) (by omega)) (ra (T := f + (k : Int)) (by omega) (by omega) (hS.1.1 _ _ (by decide))) ?_
        refine i_231_412 (x := 128) l0 ?_
        refine i_231_413 (v := Value.ref 156) hR.c128 rfl ?_
        refine i_231_416 (x := Int32.ofInt (g + (k : Int))) l13 ?_
        refine i_231_418z (v := Value.int (Int32.ofInt (S 156 ((g + (k : Int)).toNat)))) (hR.row a156) (ix0 (T := g + (k : Int)) (by omega) (by omega)) (ix1 (T := g + (k : Int)) (by omega) (by omega) (by omega)) (ra (T := g + (k : Int)) (by omega) (by omega) (hS.1.1 _ _ (by decide))) ?_
        refine i_231_419 (b_eq (a := S 156 ((f + (k : Int)).toNat)) (b := S 156 ((g + (k : Int)).toNat)) ⟨by omega, by omega⟩ ⟨by omega, by omega⟩ fun c5 => ?_) (b_ne (a := S 156 ((f + (k : Int)).toNat)) (b := S 156 ((g + (k : Int)).toNat)) ⟨by omega, by omega⟩ ⟨by omega, by omega⟩ fun c5 => ?_)
        · refine i_231_426 ?_
          have hobj := hR.c128
          obtain ⟨w, S1, V1, hrun, hR, hS⟩ := t_addZero (d := d + 6) (sg := 0) hR hS (by omega)
          refine i_231_427 hobj (Nat.le_of_ble_eq_true rfl) hrun ?_
          refine i_231_430 ?_
          refine i_231_497 (x := (Int32.ofInt (k : Int))) (c := (Int32.ofInt ((k : Int) + 1))) l11 (o_add (k : Int) 1) rfl ?_
          refine lgen1 (i := 11) (v := Value.int (Int32.ofInt ((k : Int) + 1))) (fun lv lg ls => ?_)
          replace l13 := lg 13 _ rfl rfl l13
          replace l12 := lg 12 _ rfl rfl l12
          replace l0 := lg 0 _ rfl rfl l0
          replace l1 := lg 1 _ rfl rfl l1
          replace l2 := lg 2 _ rfl rfl l2
          replace l3 := lg 3 _ rfl rfl l3
          replace l4 := lg 4 _ rfl rfl l4
          replace l5 := lg 5 _ rfl rfl l5
          have l11 := ls
          refine i_231_500 ?_
          rw [show (k : Int) + 1 = ((k + 1 : Nat) : Int) by omega] at l11
          have e : tkQ S V f g (k + 1) = tk (tkQ S V f g k) 2 (xorI (S 156 (f + (k : Int)).toNat) (S 156 (g + (k : Int)).toNat)) 0 0 := by
            show tkp _ _ _ _ _ _ _ _ _ = _
            unfold tkp
            rw [if_neg (by omega), if_neg (by omega), if_pos (by omega)]
          have hP := tk2s (x := tkQ S V f g k) (k := 2) (sg := xorI (S 156 (f + (k : Int)).toNat) (S 156 (g + (k : Int)).toNat)) (m := 0) (sc := 0) (E := E) (by decide)
          have T := tk_2 (sg := xorI (S 156 (f + (k : Int)).toNat) (S 156 (g + (k : Int)).toNat)) hox xor_01
          have hxs : xorI (S 156 (f + (k : Int)).toNat) (S 156 (g + (k : Int)).toNat) = 0 := if_pos (by omega)
          rw [hxs] at hP T e
          rw [← e] at hP T
          exact ih (k + 1) (by omega) hR hS (hPe.trans hP.1.symm) (hNe.trans hP.2.symm) (by rw [T.2.2.2.2.2.1]; exact hz) (by rw [T.2.2.2.2.2.2.1]; rw [if_pos rfl, if_pos rfl]) (by rw [T.2.2.2.2.2.2.2]; rw [if_pos rfl, if_pos rfl]; exact hnz) l0 l1 l2 l3 l4 l5 l11
        · refine i_231_422 ?_
          refine i_231_423 ?_
          have hobj := hR.c128
          obtain ⟨w, S1, V1, hrun, hR, hS⟩ := t_addZero (d := d + 6) (sg := 1) hR hS (by omega)
          refine i_231_427 hobj (Nat.le_of_ble_eq_true rfl) hrun ?_
          refine i_231_430 ?_
          refine i_231_497 (x := (Int32.ofInt (k : Int))) (c := (Int32.ofInt ((k : Int) + 1))) l11 (o_add (k : Int) 1) rfl ?_
          refine lgen1 (i := 11) (v := Value.int (Int32.ofInt ((k : Int) + 1))) (fun lv lg ls => ?_)
          replace l13 := lg 13 _ rfl rfl l13
          replace l12 := lg 12 _ rfl rfl l12
          replace l0 := lg 0 _ rfl rfl l0
          replace l1 := lg 1 _ rfl rfl l1
          replace l2 := lg 2 _ rfl rfl l2
          replace l3 := lg 3 _ rfl rfl l3
          replace l4 := lg 4 _ rfl rfl l4
          replace l5 := lg 5 _ rfl rfl l5
          have l11 := ls
          refine i_231_500 ?_
          rw [show (k : Int) + 1 = ((k + 1 : Nat) : Int) by omega] at l11
          have e : tkQ S V f g (k + 1) = tk (tkQ S V f g k) 2 (xorI (S 156 (f + (k : Int)).toNat) (S 156 (g + (k : Int)).toNat)) 0 0 := by
            show tkp _ _ _ _ _ _ _ _ _ = _
            unfold tkp
            rw [if_neg (by omega), if_neg (by omega), if_pos (by omega)]
          have hP := tk2s (x := tkQ S V f g k) (k := 2) (sg := xorI (S 156 (f + (k : Int)).toNat) (S 156 (g + (k : Int)).toNat)) (m := 0) (sc := 0) (E := E) (by decide)
          have T := tk_2 (sg := xorI (S 156 (f + (k : Int)).toNat) (S 156 (g + (k : Int)).toNat)) hox xor_01
          have hxs : xorI (S 156 (f + (k : Int)).toNat) (S 156 (g + (k : Int)).toNat) = 1 := if_neg (by omega)
          rw [hxs] at hP T e
          rw [← e] at hP T
          exact ih (k + 1) (by omega) hR hS (hPe.trans hP.1.symm) (hNe.trans hP.2.symm) (by rw [T.2.2.2.2.2.1]; exact hz) (by rw [T.2.2.2.2.2.2.1]; rw [if_neg (by decide), if_neg (by decide)]; exact hpz) (by rw [T.2.2.2.2.2.2.2]; rw [if_neg (by decide), if_neg (by decide)]) l0 l1 l2 l3 l4 l5 l11
set_option maxHeartbeats 8000000 in
theorem s_dot (hR : mR w0 S V w) (hI : mI S V) (hr : 0 ≤ r ∧ r ≤ 15) (hf : 0 ≤ f) (hg : 0 ≤ g) (hn : 1 ≤ n ∧ n ≤ 16) (hfn : f + n ≤ 16) (hgn : g + n ≤ 16) (hmo : 0 ≤ mode ∧ mode ≤ 4) : ∃ w', xRun (d + 8) 231 [Value.ref 128, Value.int (Int32.ofInt r), Value.int (Int32.ofInt f), Value.int (Int32.ofInt g), Value.int (Int32.ofInt n), Value.int (Int32.ofInt mode)] w (.inl (some (.int (Int32.ofInt (sFinT (S 153 r.toNat) (S 128 17) (S 128 18) (S 128 20) (S 128 19) mode (tkQ S V f g n.toNat)).2.2.2.2.1)))) w' ∧ ∃ S' V', mR w0 S' V' w' ∧ oP S S' V V' r.toNat (sFinT (S 153 r.toNat) (S 128 17) (S 128 18) (S 128 20) (S 128 19) mode (tkQ S V f g n.toNat)) := by
  have hox := okT_Q hI hf hg n.toNat (by omega) (by omega)
  obtain ⟨hp_r, -⟩ := hI.1 r.toNat (by omega)
  have hi_l := hI.2.1
  have hi_g := hI.2.2.1
  have hi_f := hI.2.2.2
  have key : xEv (d + 8) 231 0 (lv_args 0 [Value.ref 128, Value.int (Int32.ofInt r), Value.int (Int32.ofInt f), Value.int (Int32.ofInt g), Value.int (Int32.ofInt n), Value.int (Int32.ofInt mode)]) [] w (fun o w' => o = .inl (some (.int (Int32.ofInt (sFinT (S 153 r.toNat) (S 128 17) (S 128 18) (S 128 20) (S 128 19) mode (tkQ S V f g n.toNat)).2.2.2.2.1))) ∧ ∃ S' V', mR w0 S' V' w' ∧ oP S S' V V' r.toNat (sFinT (S 153 r.toNat) (S 128 17) (S 128 18) (S 128 20) (S 128 19) mode (tkQ S V f g n.toNat))) := by
    refine i_231_0 (x := Int32.ofInt r) rfl ?_
    have hrun := s_reg1 (d := d + 5) (w := w) (r := r) (by omega) (by omega)
    refine i_231_1 (Nat.le_of_ble_eq_true rfl) hrun ?_
    refine i_231_4 (x := Int32.ofInt f) rfl ?_
    have hrun := s_reg1 (d := d + 5) (w := w) (r := f) (by omega) (by omega)
    refine i_231_5 (Nat.le_of_ble_eq_true rfl) hrun ?_
    refine i_231_8 (x := Int32.ofInt g) rfl ?_
    have hrun := s_reg1 (d := d + 5) (w := w) (r := g) (by omega) (by omega)
    refine i_231_9 (Nat.le_of_ble_eq_true rfl) hrun ?_
    refine i_231_12 (x := Int32.ofInt n) rfl ?_
    refine i_231_14 ?_
    refine i_231_15 ?_
    have hrun := s_in (d := d + 6) (w := w) (v := n) (lo := 1) (hi := 16) ⟨by omega, by omega⟩ ⟨by decide, by decide⟩ ⟨by decide, by decide⟩
    refine i_231_17 (Nat.le_of_ble_eq_true rfl) hrun ?_
    refine i_231_20 (zb_f fun c0 => absurd c0 (by simp_all)) (zb_t fun c0 => ?_)
    refine i_231_23 (x := Int32.ofInt f) rfl ?_
    refine i_231_24 (x := Int32.ofInt n) rfl ?_
    refine i_231_26 (c := Int32.ofInt (f + n)) (o_add f n) ?_
    refine i_231_27 ?_
    refine i_231_29 (b_lt (a := 16) (b := f + n) ⟨by decide, by decide⟩ ⟨by omega, by omega⟩ fun c1 => absurd c1 (by omega)) (b_le (a := f + n) (b := 16) ⟨by omega, by omega⟩ ⟨by decide, by decide⟩ fun c1 => ?_)
    refine i_231_32 (x := Int32.ofInt g) rfl ?_
    refine i_231_33 (x := Int32.ofInt n) rfl ?_
    refine i_231_35 (c := Int32.ofInt (g + n)) (o_add g n) ?_
    refine i_231_36 ?_
    refine i_231_38 (b_lt (a := 16) (b := g + n) ⟨by decide, by decide⟩ ⟨by omega, by omega⟩ fun c2 => absurd c2 (by omega)) (b_le (a := g + n) (b := 16) ⟨by omega, by omega⟩ ⟨by decide, by decide⟩ fun c2 => ?_)
    refine i_231_41 ?_
    refine i_231_42 ?_
    have hrun := s_ck1 (d := d + 6) (w := w) (b := true) rfl
    refine i_231_46 (Nat.le_of_ble_eq_true rfl) hrun ?_
    refine i_231_49 (x := Int32.ofInt mode) rfl ?_
    have hrun := s_mode1 (d := d + 5) (w := w) (r := mode) (by omega) (by omega)
    refine i_231_51 (Nat.le_of_ble_eq_true rfl) hrun ?_
    refine i_231_54 ?_
    refine i_231_57 (lv2 := [(6, Value.int 2147483647), (0, Value.ref 128), (1, Value.int (Int32.ofInt r)), (2, Value.int (Int32.ofInt f)), (3, Value.int (Int32.ofInt g)), (4, Value.int (Int32.ofInt n)), (5, Value.int (Int32.ofInt mode))]) rfl ?_
    refine i_231_59 ?_
    refine i_231_60 (lv2 := [(7, Value.int 0), (6, Value.int 2147483647), (0, Value.ref 128), (1, Value.int (Int32.ofInt r)), (2, Value.int (Int32.ofInt f)), (3, Value.int (Int32.ofInt g)), (4, Value.int (Int32.ofInt n)), (5, Value.int (Int32.ofInt mode))]) rfl ?_
    refine i_231_62 ?_
    refine i_231_63 (lv2 := [(8, Value.int 0), (7, Value.int 0), (6, Value.int 2147483647), (0, Value.ref 128), (1, Value.int (Int32.ofInt r)), (2, Value.int (Int32.ofInt f)), (3, Value.int (Int32.ofInt g)), (4, Value.int (Int32.ofInt n)), (5, Value.int (Int32.ofInt mode))]) rfl ?_
    refine i_231_65 ?_
    refine i_231_66 (lv2 := [(9, Value.int 0), (8, Value.int 0), (7, Value.int 0), (6, Value.int 2147483647), (0, Value.ref 128), (1, Value.int (Int32.ofInt r)), (2, Value.int (Int32.ofInt f)), (3, Value.int (Int32.ofInt g)), (4, Value.int (Int32.ofInt n)), (5, Value.int (Int32.ofInt mode))]) rfl ?_
    refine i_231_68 ?_
    refine i_231_69 (lv2 := [(10, Value.int 0), (9, Value.int 0), (8, Value.int 0), (7, Value.int 0), (6, Value.int 2147483647), (0, Value.ref 128), (1, Value.int (Int32.ofInt r)), (2, Value.int (Int32.ofInt f)), (3, Value.int (Int32.ofInt g)), (4, Value.int (Int32.ofInt n)), (5, Value.int (Int32.ofInt mode))]) rfl ?_
    refine i_231_71 ?_
    refine i_231_72 (lv2 := [(11, Value.int 0), (10, Value.int 0), (9, Value.int 0), (8, Value.int 0), (7, Value.int 0), (6, Value.int 2147483647), (0, Value.ref 128), (1, Value.int (Int32.ofInt r)), (2, Value.int (Int32.ofInt f)), (3, Value.int (Int32.ofInt g)), (4, Value.int (Int32.ofInt n)), (5, Value.int (Int32.ofInt mode))]) rfl ?_
    refine dt_1 hI hr hf hg hn hfn hgn ?_ n.toNat 0 (by omega) hR (e := 2147483647) (up := 0) (dn := 0) (no := 0) (wr := 0) (by decide) (Or.inl rfl) (Or.inl rfl) (Or.inl rfl) (Or.inl rfl) rfl (fun _ => ⟨rfl, rfl, fun _ => ⟨rfl, rfl⟩⟩) rfl rfl rfl rfl rfl rfl rfl rfl rfl rfl rfl rfl
    clear hR
    intro lv w e up dn no wr hR he0 hup hdn hno hwr hx hJ l0 l1 l2 l3 l4 l5 l6 l7 l8 l9 l10
    obtain ⟨b1, b2, b3, b4, b5, b6, b7⟩ := okT_f hox
    refine i_231_301 (x := Int32.ofInt no) l9 ?_
    refine i_231_303 (z_eq (a := no) ⟨by omega, by omega⟩ fun c0 => ?_) (z_ne (a := no) ⟨by omega, by omega⟩ fun c0 => ?_)
    · refine i_231_314 (x := Int32.ofInt wr) l10 ?_
      refine i_231_316 (z_ne (a := wr) ⟨by omega, by omega⟩ fun c1 => ?_) (z_eq (a := wr) ⟨by omega, by omega⟩ fun c1 => ?_)
      · refine i_231_329 (x := 128) l0 ?_
        refine i_231_330 (x := Int32.ofInt r) l1 ?_
        have hobj := hR.c128
        obtain ⟨w, hrun, hR⟩ := s_invalid (d := d + 5) (r := r) hR (by omega) (by omega)
        refine i_231_331 hobj (Nat.le_of_ble_eq_true rfl) hrun ?_
        refine i_231_334 ?_
        have hJ1 := hid.o hJ (by omega)
        obtain ⟨hw, he, hj2⟩ := hJ1
        have eo : sFinT (S 153 r.toNat) (S 128 17) (S 128 18) (S 128 20) (S 128 19) mode (tkQ S V f g n.toNat) = oS 0 0 (zor (S 128 19) 8) := by
          rw [finR hox, if_neg (by omega), if_pos]
          by_cases hi : (tkQ S V f g n.toNat).2.1 = 0
          · obtain ⟨hu, hd⟩ := hj2 hi
            exact Or.inr (by omega)
          · exact Or.inl hi
        rw [eo]
        exact ⟨rfl, _, _, hR, oP_flag (by omega) (by decide) nS.refl nV.refl rfl⟩
      · refine i_231_319 (x := Int32.ofInt up) l7 ?_
        refine i_231_321 (z_eq (a := up) ⟨by omega, by omega⟩ fun c2 => ?_) (z_ne (a := up) ⟨by omega, by omega⟩ fun c2 => ?_)
        · refine i_231_335 (x := Int32.ofInt up) l7 ?_
          refine i_231_337 (z_ne (a := up) ⟨by omega, by omega⟩ fun c3 => absurd c3 (by omega)) (z_eq (a := up) ⟨by omega, by omega⟩ fun c3 => ?_)
          refine i_231_340 (x := Int32.ofInt dn) l8 ?_
          refine i_231_342 (z_eq (a := dn) ⟨by omega, by omega⟩ fun c4 => ?_) (z_ne (a := dn) ⟨by omega, by omega⟩ fun c4 => ?_)
          · refine i_231_354 (x := 128) l0 ?_
            refine i_231_355 (x := Int32.ofInt e) l6 ?_
            have hobj := hR.c128
            obtain ⟨w, S1, V1, hrun, hR, hS⟩ := t_open (d := d + 4) (e := e) hR nS.refl nV.refl
            refine i_231_357 hobj (Nat.le_of_ble_eq_true rfl) hrun ?_
            refine i_231_360 ?_
            refine i_231_361 rfl ?_
            refine lgen1 (i := 11) (v := Value.int 0) (fun lv lg ls => ?_)
            replace l0 := lg 0 _ rfl rfl l0
            replace l1 := lg 1 _ rfl rfl l1
            replace l2 := lg 2 _ rfl rfl l2
            replace l3 := lg 3 _ rfl rfl l3
            replace l4 := lg 4 _ rfl rfl l4
            replace l5 := lg 5 _ rfl rfl l5
            replace l6 := lg 6 _ rfl rfl l6
            replace l7 := lg 7 _ rfl rfl l7
            replace l8 := lg 8 _ rfl rfl l8
            replace l9 := lg 9 _ rfl rfl l9
            replace l10 := lg 10 _ rfl rfl l10
            have l11 := ls
            have hJ1 := hid.o hJ (by omega)
            obtain ⟨hw, he, hj2⟩ := hJ1
            obtain ⟨hu, hd⟩ := hj2 (by omega)
            have hkd : hid (∀ k : Nat, (k : Int) < n → (S 154 (f + (k : Int)).toNat = 2 ∨ S 154 (f + (k : Int)).toNat = 3) ∧ (S 154 (g + (k : Int)).toNat = 2 ∨ S 154 (g + (k : Int)).toNat = 3)) := by
              intro k hk
              obtain ⟨-, m1, m2, m3, m4⟩ := tQ_mono hI hf hg (show k + 1 ≤ n.toNat by omega) (by omega) (by omega)
              have hok := okT_Q hI hf hg k (by omega) (by omega)
              obtain ⟨c1, c2, c3, c4, -⟩ := okT_f hok
              obtain ⟨hp_a, hk_a, hn_a, ht_a, -⟩ := hI.1 (f + (k : Int)).toNat (by omega)
              obtain ⟨hp_b, hk_b, hn_b, ht_b, -⟩ := hI.1 (g + (k : Int)).toNat (by omega)
              rcases tQ_c hI hf hg (k := k) (by omega) (by omega) with ⟨c, e⟩ | ⟨c, e⟩ | ⟨c, e⟩ | ⟨c, e⟩ | ⟨c, e⟩
              · omega
              · have u : (tkQ S V f g (k + 1)).1 = 1 := congrArg (fun x : AT => x.1) e
                omega
              · omega
              · have u : (tkQ S V f g (k + 1)).2.1 = 1 := congrArg (fun x : AT => x.2.1) e
                omega
              · have e : tkQ S V f g (k + 1) = _ := e
                have T := tk_1 (sg := xorI (S 156 (f + (k : Int)).toNat) (S 156 (g + (k : Int)).toNat)) hok xor_01
                rw [← e] at T
                rcases xor_01 (a := S 156 (f + (k : Int)).toNat) (b := S 156 (g + (k : Int)).toNat) with x | x
                · have u := T.2.2.1
                  rw [if_pos x] at u
                  clear T
                  omega
                · have u := T.2.2.2.1
                  rw [if_neg (by omega)] at u
                  clear T
                  omega
            refine dt_2 (E := e) hI hr hf hg hn hfn hgn he hkd ?_ n.toNat 0 (by omega) hR hS rfl rfl rfl rfl rfl l0 l1 l2 l3 l4 l5 l11
            clear hR hS
            intro lv w S1 V1 hR hS l0 l1 l2 l3 l4 l5
            obtain ⟨hPb, hNb⟩ := pM_b (E := e) hox ⟨by omega, by omega⟩ ⟨by rw [he]; exact (eM_b hox).1, Int.le_of_eq he⟩
            refine i_231_503 (x := 128) l0 ?_
            refine i_231_504 (x := Int32.ofInt r) l1 ?_
            refine i_231_505 (x := Int32.ofInt mode) l5 ?_
            have hobj := hR.c128
            obtain ⟨w, hrun, S2, V2, hR, hP⟩ := t_close (d := d + 2) (r := r) (mode := mode) hR hS hI (by omega) (by omega) (by exact ⟨by split <;> omega, b6, b7⟩) (by omega) (by omega) (by intro hne; refine ⟨by rw [he]; have := (eM_b hox).1; omega, ?_⟩; rw [he]; refine Int.le_trans ((eM_b hox).2.2 fun z0 => hne ?_) (by decide); unfold pM qM; rw [if_pos z0, if_pos z0])
            refine i_231_507 hobj (Nat.le_of_ble_eq_true rfl) hrun ?_
            refine i_231_510 ?_
            have eo : sFinT (S 153 r.toNat) (S 128 17) (S 128 18) (S 128 20) (S 128 19) mode (tkQ S V f g n.toNat) = sumS (S 153 r.toNat) (S 128 17) (S 128 18) (S 128 20) (S 128 19) mode (pM (tkQ S V f g n.toNat) e) (qM (tkQ S V f g n.toNat) e) e (if (tkQ S V f g n.toNat).2.2.2.2.2.2.2.1 = 0 then 1 else 0) ((tkQ S V f g n.toNat).2.2.2.2.2.2.2.2.1) ((tkQ S V f g n.toNat).2.2.2.2.2.2.2.2.2) := by
              rw [finR hox, if_neg (by omega), if_neg (by omega), if_neg (by omega), he]
            rw [eo]
            exact ⟨rfl, _, _, hR, hP⟩
          · refine i_231_345 (x := 128) l0 ?_
            refine i_231_346 (x := Int32.ofInt r) l1 ?_
            refine i_231_347 ?_
            refine i_231_348 (x := Int32.ofInt dn) l8 ?_
            have hobj := hR.c128
            obtain ⟨w, hrun, hR⟩ := s_special (d := d + 6) (r := r) (k := 1) (s := dn) hR (by omega) (by omega) (by omega)
            refine i_231_350 hobj (Nat.le_of_ble_eq_true rfl) hrun ?_
            refine i_231_353 ?_
            have hJ1 := hid.o hJ (by omega)
            obtain ⟨hw, he, hj2⟩ := hJ1
            obtain ⟨hu, hd⟩ := hj2 (by omega)
            have eo : sFinT (S 153 r.toNat) (S 128 17) (S 128 18) (S 128 20) (S 128 19) mode (tkQ S V f g n.toNat) = oS 1 dn (S 128 19) := by
              rw [finR hox, if_neg (by omega), if_neg (by omega), if_pos (by omega), ← hd]
            rw [eo]
            exact ⟨rfl, _, _, hR, oP_special (by omega) (by decide) nS.refl nV.refl rfl⟩
        · refine i_231_324 (x := Int32.ofInt dn) l8 ?_
          refine i_231_326 (z_eq (a := dn) ⟨by omega, by omega⟩ fun c5 => ?_) (z_ne (a := dn) ⟨by omega, by omega⟩ fun c5 => ?_)
          · refine i_231_335 (x := Int32.ofInt up) l7 ?_
            refine i_231_337 (z_ne (a := up) ⟨by omega, by omega⟩ fun c6 => ?_) (z_eq (a := up) ⟨by omega, by omega⟩ fun c6 => absurd c6 (by omega))
            refine i_231_345 (x := 128) l0 ?_
            refine i_231_346 (x := Int32.ofInt r) l1 ?_
            refine i_231_347 ?_
            refine i_231_348 (x := Int32.ofInt dn) l8 ?_
            have hobj := hR.c128
            obtain ⟨w, hrun, hR⟩ := s_special (d := d + 6) (r := r) (k := 1) (s := dn) hR (by omega) (by omega) (by omega)
            refine i_231_350 hobj (Nat.le_of_ble_eq_true rfl) hrun ?_
            refine i_231_353 ?_
            have hJ1 := hid.o hJ (by omega)
            obtain ⟨hw, he, hj2⟩ := hJ1
            obtain ⟨hu, hd⟩ := hj2 (by omega)
            have eo : sFinT (S 153 r.toNat) (S 128 17) (S 128 18) (S 128 20) (S 128 19) mode (tkQ S V f g n.toNat) = oS 1 dn (S 128 19) := by
              rw [finR hox, if_neg (by omega), if_neg (by omega), if_pos (by omega), ← hd]
            rw [eo]
            exact ⟨rfl, _, _, hR, oP_special (by omega) (by decide) nS.refl nV.refl rfl⟩
          · refine i_231_329 (x := 128) l0 ?_
            refine i_231_330 (x := Int32.ofInt r) l1 ?_
            have hobj := hR.c128
            obtain ⟨w, hrun, hR⟩ := s_invalid (d := d + 5) (r := r) hR (by omega) (by omega)
            refine i_231_331 hobj (Nat.le_of_ble_eq_true rfl) hrun ?_
            refine i_231_334 ?_
            have hJ1 := hid.o hJ (by omega)
            obtain ⟨hw, he, hj2⟩ := hJ1
            have eo : sFinT (S 153 r.toNat) (S 128 17) (S 128 18) (S 128 20) (S 128 19) mode (tkQ S V f g n.toNat) = oS 0 0 (zor (S 128 19) 8) := by
              rw [finR hox, if_neg (by omega), if_pos]
              by_cases hi : (tkQ S V f g n.toNat).2.1 = 0
              · obtain ⟨hu, hd⟩ := hj2 hi
                exact Or.inr (by omega)
              · exact Or.inl hi
            rw [eo]
            exact ⟨rfl, _, _, hR, oP_flag (by omega) (by decide) nS.refl nV.refl rfl⟩
    · refine i_231_306 (x := 128) l0 ?_
      refine i_231_307 (x := Int32.ofInt r) l1 ?_
      refine i_231_308 ?_
      refine i_231_309 ?_
      have hobj := hR.c128
      obtain ⟨w, hrun, hR⟩ := s_special (d := d + 6) (r := r) (k := 0) (s := 0) hR (by omega) (by omega) (by omega)
      refine i_231_310 hobj (Nat.le_of_ble_eq_true rfl) hrun ?_
      refine i_231_313 ?_
      have eo : sFinT (S 153 r.toNat) (S 128 17) (S 128 18) (S 128 20) (S 128 19) mode (tkQ S V f g n.toNat) = oS 0 0 (S 128 19) := by
        rw [finR hox, if_pos (by omega)]
      rw [eo]
      exact ⟨rfl, _, _, hR, oP_special (by omega) (by decide) nS.refl nV.refl rfl⟩
  obtain ⟨o, w', h1, rfl, h2⟩ := key.run
  exact ⟨w', h1, h2⟩
theorem b_dot {d : Nat} {w : xW} {r f g n mode : Int} (b_r : -2147483648 ≤ r ∧ r < 2147483648) (b_f : -2147483648 ≤ f ∧ f < 2147483648) (b_g : -2147483648 ≤ g ∧ g < 2147483648) (b_n : -2147483648 ≤ n ∧ n < 2147483648) (b_mode : -2147483648 ≤ mode ∧ mode < 2147483648) (h : ¬ ((0 ≤ r ∧ r ≤ 15) ∧ (0 ≤ f ∧ f ≤ 15) ∧ (0 ≤ g ∧ g ≤ 15) ∧ (1 ≤ n ∧ n ≤ 16) ∧ f + n ≤ 16 ∧ g + n ≤ 16 ∧ (0 ≤ mode ∧ mode ≤ 4))) : xRun (d + 8) 231 [Value.ref 128, Value.int (Int32.ofInt r), Value.int (Int32.ofInt f), Value.int (Int32.ofInt g), Value.int (Int32.ofInt n), Value.int (Int32.ofInt mode)] w (.inr w.length) (w ++ [.inr (14, [])]) := by
  refine xRun.of ?_
  refine i_231_0 (x := Int32.ofInt r) rfl ?_
  rcases Classical.em (0 ≤ r ∧ r ≤ 15) with hc1 | hc1
  · have hrun := s_reg1 (d := d + 5) (w := w) (r := r) (by omega) hc1
    refine i_231_1 (Nat.le_of_ble_eq_true rfl) hrun ?_
    refine i_231_4 (x := Int32.ofInt f) rfl ?_
    rcases Classical.em (0 ≤ f ∧ f ≤ 15) with hc2 | hc2
    · have hrun := s_reg1 (d := d + 5) (w := w) (r := f) (by omega) hc2
      refine i_231_5 (Nat.le_of_ble_eq_true rfl) hrun ?_
      refine i_231_8 (x := Int32.ofInt g) rfl ?_
      rcases Classical.em (0 ≤ g ∧ g ≤ 15) with hc3 | hc3
      · have hrun := s_reg1 (d := d + 5) (w := w) (r := g) (by omega) hc3
        refine i_231_9 (Nat.le_of_ble_eq_true rfl) hrun ?_
        refine i_231_12 (x := Int32.ofInt n) rfl ?_
        refine i_231_14 ?_
        refine i_231_15 ?_
        have hrun := s_in (d := d + 6) (w := w) (v := n) (lo := 1) (hi := 16) ⟨by omega, by omega⟩ ⟨by decide, by decide⟩ ⟨by decide, by decide⟩
        refine i_231_17 (Nat.le_of_ble_eq_true rfl) hrun ?_
        refine i_231_20 (zb_f fun c3 => ?_) (zb_t fun c3 => ?_)
        · try simp only [decide_eq_true_eq] at *
          refine i_231_45 ?_
          have hrun := s_ck0 (d := d + 1) (w := w) (b := false) rfl
          refine j_231_46 (Nat.le_of_ble_eq_true rfl) hrun (xDone.t (ci := 14) xgl rfl rfl ?_)
          exact ⟨rfl, rfl⟩
        · try simp only [decide_eq_true_eq] at *
          refine i_231_23 (x := Int32.ofInt f) rfl ?_
          refine i_231_24 (x := Int32.ofInt n) rfl ?_
          refine i_231_26 (c := Int32.ofInt (f + n)) (o_add f n) ?_
          refine i_231_27 ?_
          refine i_231_29 (b_lt (a := 16) (b := f + n) ⟨by decide, by decide⟩ ⟨by omega, by omega⟩ fun c4 => ?_) (b_le (a := f + n) (b := 16) ⟨by omega, by omega⟩ ⟨by decide, by decide⟩ fun c4 => ?_)
          · refine i_231_45 ?_
            have hrun := s_ck0 (d := d + 1) (w := w) (b := false) rfl
            refine j_231_46 (Nat.le_of_ble_eq_true rfl) hrun (xDone.t (ci := 14) xgl rfl rfl ?_)
            exact ⟨rfl, rfl⟩
          · refine i_231_32 (x := Int32.ofInt g) rfl ?_
            refine i_231_33 (x := Int32.ofInt n) rfl ?_
            refine i_231_35 (c := Int32.ofInt (g + n)) (o_add g n) ?_
            refine i_231_36 ?_
            refine i_231_38 (b_lt (a := 16) (b := g + n) ⟨by decide, by decide⟩ ⟨by omega, by omega⟩ fun c5 => ?_) (b_le (a := g + n) (b := 16) ⟨by omega, by omega⟩ ⟨by decide, by decide⟩ fun c5 => ?_)
            · refine i_231_45 ?_
              have hrun := s_ck0 (d := d + 1) (w := w) (b := false) rfl
              refine j_231_46 (Nat.le_of_ble_eq_true rfl) hrun (xDone.t (ci := 14) xgl rfl rfl ?_)
              exact ⟨rfl, rfl⟩
            · refine i_231_41 ?_
              refine i_231_42 ?_
              have hrun := s_ck1 (d := d + 6) (w := w) (b := true) rfl
              refine i_231_46 (Nat.le_of_ble_eq_true rfl) hrun ?_
              refine i_231_49 (x := Int32.ofInt mode) rfl ?_
              rcases Classical.em (0 ≤ mode ∧ mode ≤ 4) with hc7 | hc7
              · have hrun := s_mode1 (d := d + 5) (w := w) (r := mode) (by omega) hc7
                refine i_231_51 (Nat.le_of_ble_eq_true rfl) hrun ?_
                exfalso; omega
              · have hrun := s_mode0 (d := d) (w := w) (r := mode) (by omega) hc7
                refine j_231_51 (Nat.le_of_ble_eq_true rfl) hrun (xDone.t (ci := 14) xgl rfl rfl ?_)
                exact ⟨rfl, rfl⟩
      · have hrun := s_reg0 (d := d) (w := w) (r := g) (by omega) hc3
        refine j_231_9 (Nat.le_of_ble_eq_true rfl) hrun (xDone.t (ci := 14) xgl rfl rfl ?_)
        exact ⟨rfl, rfl⟩
    · have hrun := s_reg0 (d := d) (w := w) (r := f) (by omega) hc2
      refine j_231_5 (Nat.le_of_ble_eq_true rfl) hrun (xDone.t (ci := 14) xgl rfl rfl ?_)
      exact ⟨rfl, rfl⟩
  · have hrun := s_reg0 (d := d) (w := w) (r := r) (by omega) hc1
    refine j_231_1 (Nat.le_of_ble_eq_true rfl) hrun (xDone.t (ci := 14) xgl rfl rfl ?_)
    exact ⟨rfl, rfl⟩
end
