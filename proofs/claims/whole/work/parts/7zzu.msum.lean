/-! sums of the reference as folds over their terms -/
def tkR (S : Nat → Nat → Int) (V : Nat → Nat) (f : Int) : Nat → AT
  | 0 => tk0
  | k + 1 => tk (tkR S V f k) (S 154 (f + (k : Int)).toNat) (S 156 (f + (k : Int)).toNat) (V (160 + 2 * (f + (k : Int)).toNat)) (S 155 (f + (k : Int)).toNat - S 153 (f + (k : Int)).toNat)
def eM (x : AT) : Int := if x.2.2.2.2.2.2.2.1 = 0 then 2147483647 else x.2.2.2.2.1
def pM (x : AT) (E : Int) : Nat := if x.2.2.2.2.2.2.2.1 = 0 then 0 else x.2.2.2.2.2.1 * 2 ^ (x.2.2.2.2.1 - E).toNat
def qM (x : AT) (E : Int) : Nat := if x.2.2.2.2.2.2.2.1 = 0 then 0 else x.2.2.2.2.2.2.1 * 2 ^ (x.2.2.2.2.1 - E).toNat
theorem hid.o {P : Prop} (h : hid P) : P := h
theorem o_or0 {x : Int} : Int32.ofInt x ||| (0 : Int32) = Int32.ofInt x := by simp
theorem o_orb1 {x : Int} (h : x = 0 ∨ x = 1) : Int32.ofInt x ||| (1 : Int32) = 1 := by rcases h with h | h <;> subst h <;> decide
section
variable {n k sg sc p least greatest gradual f mode E : Int} {x : AT} {m : Nat}
theorem tk1 (hx : okT n x) (hs : sg = 0 ∨ sg = 1) (hsc : k = 3 → sc ≤ 2147483647) : (tk x k sg m sc).1 = (if k = 0 then 1 else x.1) ∧ (tk x k sg m sc).2.1 = x.2.1 ∧ (tk x k sg m sc).2.2.1 = (if k = 1 ∧ sg = 0 then 1 else x.2.2.1) ∧ (tk x k sg m sc).2.2.2.1 = (if k = 1 ∧ sg ≠ 0 then 1 else x.2.2.2.1) ∧ eM (tk x k sg m sc) = (if k = 3 then min (eM x) sc else eM x) ∧ (tk x k sg m sc).2.2.2.2.2.2.2.1 = (if k = 3 then 1 else x.2.2.2.2.2.2.2.1) ∧ (tk x k sg m sc).2.2.2.2.2.2.2.2.1 = (if k = 2 ∧ sg = 0 then 1 else x.2.2.2.2.2.2.2.2.1) ∧ (tk x k sg m sc).2.2.2.2.2.2.2.2.2 = (if k = 2 ∧ sg ≠ 0 then 1 else x.2.2.2.2.2.2.2.2.2) := by
  obtain ⟨nan, inv, pi, mi, b, P, N, num, pz, nz⟩ := x
  obtain ⟨⟨f1, f2, f3, f4, f5, f6, f7⟩, hb, -⟩ := hx
  by_cases h : k = 3
  · have h' := hsc h
    rw [tk_num h]
    refine ⟨?_, rfl, ?_, ?_, ?_, ?_, ?_, ?_⟩
    · show nan = if k = 0 then 1 else nan
      rw [if_neg (by omega)]
    · show pi = if k = 1 ∧ sg = 0 then 1 else pi
      rw [if_neg (by omega)]
    · show mi = if k = 1 ∧ sg ≠ 0 then 1 else mi
      rw [if_neg (by omega)]
    · show (if (1 : Int) = 0 then 2147483647 else nlo num b sc) = if k = 3 then min (if num = 0 then 2147483647 else b) sc else (if num = 0 then 2147483647 else b)
      rw [if_neg (by decide), if_pos h]
      unfold nlo
      split <;> omega
    · show (1 : Int) = if k = 3 then 1 else num
      rw [if_pos h]
    · show pz = if k = 2 ∧ sg = 0 then 1 else pz
      rw [if_neg (by omega)]
    · show nz = if k = 2 ∧ sg ≠ 0 then 1 else nz
      rw [if_neg (by omega)]
  · rw [tk_spc h]
    refine ⟨?_, rfl, ?_, ?_, ?_, ?_, ?_, ?_⟩
    · show orI nan (k = 0) = if k = 0 then 1 else nan
      unfold orI; split <;> split <;> omega
    · show orI pi (k = 1 ∧ sg = 0) = if k = 1 ∧ sg = 0 then 1 else pi
      unfold orI; split <;> split <;> omega
    · show orI mi (k = 1 ∧ sg ≠ 0) = if k = 1 ∧ sg ≠ 0 then 1 else mi
      unfold orI; split <;> split <;> omega
    · show (if num = 0 then 2147483647 else b) = if k = 3 then min (if num = 0 then 2147483647 else b) sc else (if num = 0 then 2147483647 else b)
      rw [if_neg h]
    · show num = if k = 3 then 1 else num
      rw [if_neg h]
    · show orI pz (k = 2 ∧ sg = 0) = if k = 2 ∧ sg = 0 then 1 else pz
      unfold orI; split <;> split <;> omega
    · show orI nz (k = 2 ∧ sg ≠ 0) = if k = 2 ∧ sg ≠ 0 then 1 else nz
      unfold orI; split <;> split <;> omega
theorem pq_sc {P m : Nat} {b c sc E : Int} (h1 : E ≤ c) (h2 : c ≤ b) (h3 : c ≤ sc) : (P * 2 ^ (b - c).toNat + m * 2 ^ (sc - c).toNat) * 2 ^ (c - E).toNat = P * 2 ^ (b - E).toNat + m * 2 ^ (sc - E).toNat := by
  rw [Nat.add_mul, Nat.mul_assoc, Nat.mul_assoc, ← Nat.pow_add, ← Nat.pow_add, show (b - c).toNat + (c - E).toNat = (b - E).toNat by omega, show (sc - c).toNat + (c - E).toNat = (sc - E).toNat by omega]
theorem pq_s0 {P : Nat} {b c E : Int} (h1 : E ≤ c) (h2 : c ≤ b) : P * 2 ^ (b - c).toNat * 2 ^ (c - E).toNat = P * 2 ^ (b - E).toNat := by
  rw [Nat.mul_assoc, ← Nat.pow_add, show (b - c).toNat + (c - E).toNat = (b - E).toNat by omega]
theorem tk2 (hx : okT n x) (hE : E ≤ eM (tk x 3 sg m sc)) : pM (tk x 3 sg m sc) E = pM x E + (if sg = 0 then m * 2 ^ (sc - E).toNat else 0) ∧ qM (tk x 3 sg m sc) E = qM x E + (if sg = 0 then 0 else m * 2 ^ (sc - E).toNat) := by
  obtain ⟨nan, inv, pi, mi, b, P, N, num, pz, nz⟩ := x
  obtain ⟨-, hb, hz⟩ := hx
  rw [tk_num rfl] at hE ⊢
  have hE : E ≤ nlo num b sc := hE
  show (if (1 : Int) = 0 then 0 else (shf P (if num = 0 then 0 else b - nlo num b sc) + (if sg = 0 then shf m (sc - nlo num b sc) else 0)) * 2 ^ (nlo num b sc - E).toNat) = (if num = 0 then 0 else P * 2 ^ (b - E).toNat) + _ ∧ (if (1 : Int) = 0 then 0 else (shf N (if num = 0 then 0 else b - nlo num b sc) + (if sg = 0 then 0 else shf m (sc - nlo num b sc))) * 2 ^ (nlo num b sc - E).toNat) = (if num = 0 then 0 else N * 2 ^ (b - E).toNat) + _
  rw [if_neg (show ¬ (1 : Int) = 0 by decide), if_neg (show ¬ (1 : Int) = 0 by decide)]
  rcases hz with ⟨z0, rfl, rfl⟩ | ⟨z0, -, -⟩
  · rw [show nlo num b sc = sc from if_pos z0] at hE ⊢
    simp only [if_pos z0, shf_z, Int.sub_self, Nat.zero_add]
    split
    · exact ⟨rfl, Nat.zero_mul _⟩
    · exact ⟨Nat.zero_mul _, rfl⟩
  · rw [show nlo num b sc = min b sc from if_neg z0] at hE ⊢
    simp only [if_neg z0]
    generalize hc : min b sc = c at hE ⊢
    rw [shf_nn (u := P) (by omega), shf_nn (u := N) (by omega), shf_nn (u := m) (by omega)]
    split
    · exact ⟨pq_sc hE (by omega) (by omega), by rw [Nat.add_zero, Nat.add_zero]; exact pq_s0 hE (by omega)⟩
    · exact ⟨by rw [Nat.add_zero, Nat.add_zero]; exact pq_s0 hE (by omega), pq_sc hE (by omega) (by omega)⟩
theorem tk2k (hx : okT n x) (hk : k = 3) (hE : E ≤ eM (tk x k sg m sc)) : pM (tk x k sg m sc) E = pM x E + (if sg = 0 then m * 2 ^ (sc - E).toNat else 0) ∧ qM (tk x k sg m sc) E = qM x E + (if sg = 0 then 0 else m * 2 ^ (sc - E).toNat) := by
  subst hk
  exact tk2 hx hE
theorem tk2s (h : k ≠ 3) : pM (tk x k sg m sc) E = pM x E ∧ qM (tk x k sg m sc) E = qM x E := by
  obtain ⟨nan, inv, pi, mi, b, P, N, num, pz, nz⟩ := x
  rw [tk_spc h]
  exact ⟨rfl, rfl⟩
theorem eM_b (hx : okT n x) : -60000 ≤ eM x ∧ eM x ≤ 2147483647 ∧ (x.2.2.2.2.2.2.2.1 ≠ 0 → eM x ≤ 60000) := by
  obtain ⟨nan, inv, pi, mi, b, P, N, num, pz, nz⟩ := x
  obtain ⟨-, hb, -⟩ := hx
  show -60000 ≤ (if num = 0 then 2147483647 else b) ∧ (if num = 0 then 2147483647 else b) ≤ 2147483647 ∧ (num ≠ 0 → (if num = 0 then 2147483647 else b) ≤ 60000)
  split <;> omega
theorem okT_f (hx : okT n x) : (x.1 = 0 ∨ x.1 = 1) ∧ (x.2.1 = 0 ∨ x.2.1 = 1) ∧ (x.2.2.1 = 0 ∨ x.2.2.1 = 1) ∧ (x.2.2.2.1 = 0 ∨ x.2.2.2.1 = 1) ∧ (x.2.2.2.2.2.2.2.1 = 0 ∨ x.2.2.2.2.2.2.2.1 = 1) ∧ (x.2.2.2.2.2.2.2.2.1 = 0 ∨ x.2.2.2.2.2.2.2.2.1 = 1) ∧ (x.2.2.2.2.2.2.2.2.2 = 0 ∨ x.2.2.2.2.2.2.2.2.2 = 1) := by
  obtain ⟨nan, inv, pi, mi, b, P, N, num, pz, nz⟩ := x
  exact hx.1
theorem pM_b (hx : okT n x) (h0 : 0 ≤ n ∧ n ≤ 100) (hE : -60000 ≤ E ∧ E ≤ eM x) : xbl (pM x E) ≤ 121000 ∧ xbl (qM x E) ≤ 121000 := by
  obtain ⟨nan, inv, pi, mi, b, P, N, num, pz, nz⟩ := x
  obtain ⟨-, hb, hz⟩ := hx
  have hE2 : E ≤ (if num = 0 then 2147483647 else b) := hE.2
  show xbl (if num = 0 then 0 else P * 2 ^ (b - E).toNat) ≤ _ ∧ xbl (if num = 0 then 0 else N * 2 ^ (b - E).toNat) ≤ _
  rcases hz with ⟨z0, -, -⟩ | ⟨z0, z1, z2⟩
  · rw [if_pos z0, if_pos z0, xbl_zero]; omega
  · rw [if_neg z0] at hE2 ⊢
    rw [if_neg z0]
    have := xbl_powle P (b - E).toNat
    have := xbl_powle N (b - E).toNat
    omega
/-- the fold's end, as the reference has it -/
theorem finR (hx : okT n x) : sFinT p least greatest gradual f mode x = (if x.1 ≠ 0 then oS 0 0 f else if x.2.1 ≠ 0 ∨ (x.2.2.1 ≠ 0 ∧ x.2.2.2.1 ≠ 0) then oS 0 0 (zor f 8) else if x.2.2.1 ≠ 0 ∨ x.2.2.2.1 ≠ 0 then oS 1 x.2.2.2.1 f else sumS p least greatest gradual f mode (pM x (eM x)) (qM x (eM x)) (eM x) (if x.2.2.2.2.2.2.2.1 = 0 then 1 else 0) x.2.2.2.2.2.2.2.2.1 x.2.2.2.2.2.2.2.2.2) := by
  obtain ⟨nan, inv, pi, mi, b, P, N, num, pz, nz⟩ := x
  obtain ⟨-, hb, hz⟩ := hx
  have e : sumS p least greatest gradual f mode P N b (if num = 0 then 1 else 0) pz nz = sumS p least greatest gradual f mode (if num = 0 then 0 else P * 2 ^ (b - eM (nan, inv, pi, mi, b, P, N, num, pz, nz)).toNat) (if num = 0 then 0 else N * 2 ^ (b - eM (nan, inv, pi, mi, b, P, N, num, pz, nz)).toNat) (eM (nan, inv, pi, mi, b, P, N, num, pz, nz)) (if num = 0 then 1 else 0) pz nz := by
    rcases hz with ⟨z0, rfl, rfl⟩ | ⟨z0, -, -⟩
    · rw [if_pos z0, if_pos z0]
      unfold sumS
      rw [if_pos rfl, if_pos rfl]
    · have : eM (nan, inv, pi, mi, b, P, N, num, pz, nz) = b := if_neg z0
      simp only [this, if_neg z0, Int.sub_self, show (0 : Int).toNat = 0 from rfl, Nat.pow_zero, Nat.mul_one]
  show sFin p least greatest gradual f mode nan inv pi mi b P N num pz nz = _
  unfold sFin
  rw [e]
  rfl
end
section
variable {d : Nat} {w0 w : xW} {S S1 : Nat → Nat → Int} {V V1 : Nat → Nat} {r f g n mode E : Int} {lv : xLv} {Q : Option Value ⊕ Nat → xW → Prop}
theorem okT_R (hI : mI S V) (hf : 0 ≤ f) : ∀ k : Nat, f + (k : Int) ≤ 16 → okT (k : Int) (tkR S V f k) := by
  intro k
  induction k with
  | zero => intro _; exact okT_0
  | succ k ih =>
    intro h
    obtain ⟨h1, h2, h3, h4, h5, -⟩ := hI.1 (f + (k : Int)).toNat (by omega)
    have := okT_tk (k := S 154 (f + (k : Int)).toNat) (sg := S 156 (f + (k : Int)).toNat) (m := V (160 + 2 * (f + (k : Int)).toNat)) (sc := S 155 (f + (k : Int)).toNat - S 153 (f + (k : Int)).toNat) (by omega) (ih (by omega)) (fun _ => by omega)
    rw [show ((k + 1 : Nat) : Int) = (k : Int) + 1 by omega]
    exact this
def tR1 (hI : mI S V) (hf : 0 ≤ f) {k : Nat} (h : f + (k : Int) < 16) := tk1 (k := S 154 (f + (k : Int)).toNat) (sg := S 156 (f + (k : Int)).toNat) (m := V (160 + 2 * (f + (k : Int)).toNat)) (sc := S 155 (f + (k : Int)).toNat - S 153 (f + (k : Int)).toNat) (okT_R hI hf k (by omega)) (hI.1 (f + (k : Int)).toNat (by omega)).2.2.1 (fun _ => by obtain ⟨h1, h2, h3, h4, h5, -⟩ := hI.1 (f + (k : Int)).toNat (by omega); omega)
/-- what later terms do not take back -/
theorem tR_mono (hI : mI S V) (hf : 0 ≤ f) {k m : Nat} (h : k ≤ m) (hm : f + (m : Int) ≤ 16) : eM (tkR S V f m) ≤ eM (tkR S V f k) ∧ (tkR S V f k).1 ≤ (tkR S V f m).1 ∧ (tkR S V f k).2.2.1 ≤ (tkR S V f m).2.2.1 ∧ (tkR S V f k).2.2.2.1 ≤ (tkR S V f m).2.2.2.1 := by
  induction m with
  | zero => rw [show k = 0 by omega]; exact ⟨Int.le_refl _, Int.le_refl _, Int.le_refl _, Int.le_refl _⟩
  | succ m ih =>
    by_cases c : k = m + 1
    · rw [c]; exact ⟨Int.le_refl _, Int.le_refl _, Int.le_refl _, Int.le_refl _⟩
    · obtain ⟨a1, a2, a3, a4⟩ := ih (by omega) (by omega)
      obtain ⟨t1, -, t3, t4, t5, -⟩ := tR1 hI hf (k := m) (by omega)
      obtain ⟨b1, -, b3, b4, -⟩ := okT_f (okT_R hI hf m (by omega))
      have u1 : (tkR S V f (m + 1)).1 = _ := t1
      have u3 : (tkR S V f (m + 1)).2.2.1 = _ := t3
      have u4 : (tkR S V f (m + 1)).2.2.2.1 = _ := t4
      have u5 : eM (tkR S V f (m + 1)) = _ := t5
      rw [u1, u3, u4, u5]
      refine ⟨?_, ?_, ?_, ?_⟩ <;> split <;> omega
theorem tR_inv (hI : mI S V) (hf : 0 ≤ f) : ∀ k : Nat, f + (k : Int) ≤ 16 → (tkR S V f k).2.1 = 0 := by
  intro k
  induction k with
  | zero => intro _; rfl
  | succ k ih =>
    intro h
    obtain ⟨-, t2, -⟩ := tR1 hI hf (k := k) (by omega)
    exact t2.trans (ih (by omega))
set_option maxHeartbeats 4000000 in
theorem sm_1 (hI : mI S V) (hr : 0 ≤ r ∧ r ≤ 15) (hf : 0 ≤ f) (hn : 1 ≤ n ∧ n ≤ 16) (hfn : f + n ≤ 16) (hQ : ∀ {lv : xLv} {w : xW} {e up dn no : Int}, mR w0 S V w → e = eM (tkR S V f n.toNat) → up = (tkR S V f n.toNat).2.2.1 → dn = (tkR S V f n.toNat).2.2.2.1 → no = (tkR S V f n.toNat).1 → xld lv 0 = some (Value.ref 128) → xld lv 1 = some (Value.int (Int32.ofInt r)) → xld lv 2 = some (Value.int (Int32.ofInt f)) → xld lv 3 = some (Value.int (Int32.ofInt n)) → xld lv 4 = some (Value.int (Int32.ofInt mode)) → xld lv 5 = some (Value.int (Int32.ofInt e)) → xld lv 6 = some (Value.int (Int32.ofInt up)) → xld lv 7 = some (Value.int (Int32.ofInt dn)) → xld lv 8 = some (Value.int (Int32.ofInt no)) → xEv (d + 8) 229 176 lv [] w Q) : ∀ (m k : Nat) {lv : xLv} {w : xW} {e up dn no : Int}, (k : Int) + (m : Int) = n → mR w0 S V w → e = eM (tkR S V f k) → up = (tkR S V f k).2.2.1 → dn = (tkR S V f k).2.2.2.1 → no = (tkR S V f k).1 → xld lv 0 = some (Value.ref 128) → xld lv 1 = some (Value.int (Int32.ofInt r)) → xld lv 2 = some (Value.int (Int32.ofInt f)) → xld lv 3 = some (Value.int (Int32.ofInt n)) → xld lv 4 = some (Value.int (Int32.ofInt mode)) → xld lv 5 = some (Value.int (Int32.ofInt e)) → xld lv 6 = some (Value.int (Int32.ofInt up)) → xld lv 7 = some (Value.int (Int32.ofInt dn)) → xld lv 8 = some (Value.int (Int32.ofInt no)) → xld lv 9 = some (Value.int (Int32.ofInt (f + (k : Int)))) → xEv (d + 8) 229 56 lv [] w Q := by
  intro m
  induction m with
  | zero =>
    intro k lv w e up dn no hk hR he hu hd hno l0 l1 l2 l3 l4 l5 l6 l7 l8 l9
    refine i_229_56 l9 ?_
    refine i_229_58 l2 ?_
    refine i_229_59 l3 ?_
    refine i_229_60 (c := Int32.ofInt (f + n)) (o_add f n) ?_
    refine i_229_61 (b_le (a := f + n) (b := f + (k : Int)) ⟨by omega, by omega⟩ ⟨by omega, by omega⟩ fun _ => ?_) (b_lt (a := f + (k : Int)) (b := f + n) ⟨by omega, by omega⟩ ⟨by omega, by omega⟩ fun c => absurd c (by omega))
    rw [show k = n.toNat by omega] at he hu hd hno
    exact hQ hR he hu hd hno l0 l1 l2 l3 l4 l5 l6 l7 l8
  | succ m ih =>
    intro k lv w e up dn no hk hR he hu hd hno l0 l1 l2 l3 l4 l5 l6 l7 l8 l9
    have T : hid _ := tR1 hI hf (k := k) (by omega)
    obtain ⟨hp_a, hk_a, hn_a, ht_a, hx_a, -⟩ := hI.1 (f + (k : Int)).toNat (by omega)
    obtain ⟨b1, -, b3, b4, -⟩ := okT_f (okT_R hI hf k (by omega))
    have hE := eM_b (okT_R hI hf k (by omega))
    have hE := And.intro hE.1 hE.2.1
    refine i_229_56 (x := Int32.ofInt (f + (k : Int))) l9 ?_
    refine i_229_58 (x := Int32.ofInt f) l2 ?_
    refine i_229_59 (x := Int32.ofInt n) l3 ?_
    refine i_229_60 (c := Int32.ofInt (f + n)) (o_add f n) ?_
    refine i_229_61 (b_le (a := f + n) (b := f + (k : Int)) ⟨by omega, by omega⟩ ⟨by omega, by omega⟩ fun c0 => absurd c0 (by omega)) (b_lt (a := f + (k : Int)) (b := f + n) ⟨by omega, by omega⟩ ⟨by omega, by omega⟩ fun c0 => ?_)
    refine i_229_64 (x := Int32.ofInt no) l8 ?_
    refine i_229_66 (x := 128) l0 ?_
    refine i_229_67 (v := Value.ref 154) hR.c128 rfl ?_
    refine i_229_70 (x := Int32.ofInt (f + (k : Int))) l9 ?_
    refine i_229_72 (v := Value.int (Int32.ofInt (S 154 ((f + (k : Int)).toNat)))) (hR.row a154) (ix0 (T := f + (k : Int)) (by omega) (by omega)) (ix1 (T := f + (k : Int)) (by omega) (by omega) (by omega)) (ra (T := f + (k : Int)) (by omega) (by omega) rfl) ?_
    refine i_229_73 (z_ne (a := S 154 ((f + (k : Int)).toNat)) ⟨by omega, by omega⟩ fun c1 => ?_) (z_eq (a := S 154 ((f + (k : Int)).toNat)) ⟨by omega, by omega⟩ fun c1 => ?_)
    · refine i_229_80 ?_
      refine i_229_81 (c := Int32.ofInt no) o_or0 ?_
      refine i_229_82 rfl ?_
      refine lgen1 (i := 8) (v := Value.int (Int32.ofInt no)) (fun lv lg ls => ?_)
      replace l0 := lg 0 _ rfl rfl l0
      replace l1 := lg 1 _ rfl rfl l1
      replace l2 := lg 2 _ rfl rfl l2
      replace l3 := lg 3 _ rfl rfl l3
      replace l4 := lg 4 _ rfl rfl l4
      replace l5 := lg 5 _ rfl rfl l5
      replace l6 := lg 6 _ rfl rfl l6
      replace l7 := lg 7 _ rfl rfl l7
      replace l9 := lg 9 _ rfl rfl l9
      have l8 := ls
      refine i_229_84 (x := Int32.ofInt up) l6 ?_
      refine i_229_86 (x := 128) l0 ?_
      refine i_229_87 (v := Value.ref 154) hR.c128 rfl ?_
      refine i_229_90 (x := Int32.ofInt (f + (k : Int))) l9 ?_
      refine i_229_92 (v := Value.int (Int32.ofInt (S 154 ((f + (k : Int)).toNat)))) (hR.row a154) (ix0 (T := f + (k : Int)) (by omega) (by omega)) (ix1 (T := f + (k : Int)) (by omega) (by omega) (by omega)) (ra (T := f + (k : Int)) (by omega) (by omega) rfl) ?_
      refine i_229_93 ?_
      refine i_229_94 (b_ne (a := S 154 ((f + (k : Int)).toNat)) (b := 1) ⟨by omega, by omega⟩ ⟨by decide, by decide⟩ fun c2 => ?_) (b_eq (a := S 154 ((f + (k : Int)).toNat)) (b := 1) ⟨by omega, by omega⟩ ⟨by decide, by decide⟩ fun c2 => ?_)
      · refine i_229_111 ?_
        refine i_229_112 (c := Int32.ofInt up) o_or0 ?_
        refine i_229_113 rfl ?_
        refine lgen1 (i := 6) (v := Value.int (Int32.ofInt up)) (fun lv lg ls => ?_)
        replace l8 := lg 8 _ rfl rfl l8
        replace l0 := lg 0 _ rfl rfl l0
        replace l1 := lg 1 _ rfl rfl l1
        replace l2 := lg 2 _ rfl rfl l2
        replace l3 := lg 3 _ rfl rfl l3
        replace l4 := lg 4 _ rfl rfl l4
        replace l5 := lg 5 _ rfl rfl l5
        replace l7 := lg 7 _ rfl rfl l7
        replace l9 := lg 9 _ rfl rfl l9
        have l6 := ls
        refine i_229_115 (x := Int32.ofInt dn) l7 ?_
        refine i_229_117 (x := 128) l0 ?_
        refine i_229_118 (v := Value.ref 154) hR.c128 rfl ?_
        refine i_229_121 (x := Int32.ofInt (f + (k : Int))) l9 ?_
        refine i_229_123 (v := Value.int (Int32.ofInt (S 154 ((f + (k : Int)).toNat)))) (hR.row a154) (ix0 (T := f + (k : Int)) (by omega) (by omega)) (ix1 (T := f + (k : Int)) (by omega) (by omega) (by omega)) (ra (T := f + (k : Int)) (by omega) (by omega) rfl) ?_
        refine i_229_124 ?_
        refine i_229_125 (b_ne (a := S 154 ((f + (k : Int)).toNat)) (b := 1) ⟨by omega, by omega⟩ ⟨by decide, by decide⟩ fun c3 => ?_) (b_eq (a := S 154 ((f + (k : Int)).toNat)) (b := 1) ⟨by omega, by omega⟩ ⟨by decide, by decide⟩ fun c3 => absurd c3 (by omega))
        refine i_229_142 ?_
        refine i_229_143 (c := Int32.ofInt dn) o_or0 ?_
        refine i_229_144 rfl ?_
        refine lgen1 (i := 7) (v := Value.int (Int32.ofInt dn)) (fun lv lg ls => ?_)
        replace l6 := lg 6 _ rfl rfl l6
        replace l8 := lg 8 _ rfl rfl l8
        replace l0 := lg 0 _ rfl rfl l0
        replace l1 := lg 1 _ rfl rfl l1
        replace l2 := lg 2 _ rfl rfl l2
        replace l3 := lg 3 _ rfl rfl l3
        replace l4 := lg 4 _ rfl rfl l4
        replace l5 := lg 5 _ rfl rfl l5
        replace l9 := lg 9 _ rfl rfl l9
        have l7 := ls
        refine i_229_146 (x := 128) l0 ?_
        refine i_229_147 (v := Value.ref 154) hR.c128 rfl ?_
        refine i_229_150 (x := Int32.ofInt (f + (k : Int))) l9 ?_
        refine i_229_152 (v := Value.int (Int32.ofInt (S 154 ((f + (k : Int)).toNat)))) (hR.row a154) (ix0 (T := f + (k : Int)) (by omega) (by omega)) (ix1 (T := f + (k : Int)) (by omega) (by omega) (by omega)) (ra (T := f + (k : Int)) (by omega) (by omega) rfl) ?_
        refine i_229_153 ?_
        refine i_229_154 (b_ne (a := S 154 ((f + (k : Int)).toNat)) (b := 3) ⟨by omega, by omega⟩ ⟨by decide, by decide⟩ fun c4 => ?_) (b_eq (a := S 154 ((f + (k : Int)).toNat)) (b := 3) ⟨by omega, by omega⟩ ⟨by decide, by decide⟩ fun c4 => ?_)
        · refine i_229_170 (x := (Int32.ofInt (f + (k : Int)))) (c := (Int32.ofInt (f + (k : Int) + 1))) l9 (o_add (f + (k : Int)) 1) rfl ?_
          refine lgen1 (i := 9) (v := Value.int (Int32.ofInt (f + (k : Int) + 1))) (fun lv lg ls => ?_)
          replace l7 := lg 7 _ rfl rfl l7
          replace l6 := lg 6 _ rfl rfl l6
          replace l8 := lg 8 _ rfl rfl l8
          replace l0 := lg 0 _ rfl rfl l0
          replace l1 := lg 1 _ rfl rfl l1
          replace l2 := lg 2 _ rfl rfl l2
          replace l3 := lg 3 _ rfl rfl l3
          replace l4 := lg 4 _ rfl rfl l4
          replace l5 := lg 5 _ rfl rfl l5
          have l9 := ls
          refine i_229_173 ?_
          rw [show f + (k : Int) + 1 = f + ((k + 1 : Nat) : Int) by omega] at l9
          exact ih (k + 1) (e := e) (up := up) (dn := dn) (no := no) (by omega) hR (by rw [show eM (tkR S V f (k + 1)) = _ from (hid.o T).2.2.2.2.1]; first | (rw [if_pos (by omega)]; done) | (rw [if_pos (by omega)]; omega) | (rw [if_neg (by omega)]; omega)) (by rw [show (tkR S V f (k + 1)).2.2.1 = _ from (hid.o T).2.2.1]; first | (rw [if_pos (by omega)]; done) | (rw [if_pos (by omega)]; omega) | (rw [if_neg (by omega)]; omega)) (by rw [show (tkR S V f (k + 1)).2.2.2.1 = _ from (hid.o T).2.2.2.1]; first | (rw [if_pos (by omega)]; done) | (rw [if_pos (by omega)]; omega) | (rw [if_neg (by omega)]; omega)) (by rw [show (tkR S V f (k + 1)).1 = _ from (hid.o T).1]; first | (rw [if_pos (by omega)]; done) | (rw [if_pos (by omega)]; omega) | (rw [if_neg (by omega)]; omega)) l0 l1 l2 l3 l4 l5 l6 l7 l8 l9
        · refine i_229_157 (x := Int32.ofInt e) l5 ?_
          refine i_229_159 (x := 128) l0 ?_
          refine i_229_160 (x := Int32.ofInt (f + (k : Int))) l9 ?_
          have hobj := hR.c128
          obtain ⟨w, hrun, hR⟩ := s_exponent (d := d + 6) (r := f + (k : Int)) hR (by omega) (by omega)
          refine i_229_162 hobj (Nat.le_of_ble_eq_true rfl) hrun ?_
          have hrun := s_min (d := d + 6) (w := w) (a := e) (b := S 155 (f + (k : Int)).toNat - S 153 (f + (k : Int)).toNat) ⟨by omega, by omega⟩ ⟨by omega, by omega⟩
          refine i_229_165 (Nat.le_of_ble_eq_true rfl) hrun ?_
          refine i_229_168 rfl ?_
          refine lgen1 (i := 5) (v := Value.int (Int32.ofInt (min e (S 155 (f + (k : Int)).toNat - S 153 (f + (k : Int)).toNat)))) (fun lv lg ls => ?_)
          replace l7 := lg 7 _ rfl rfl l7
          replace l6 := lg 6 _ rfl rfl l6
          replace l8 := lg 8 _ rfl rfl l8
          replace l0 := lg 0 _ rfl rfl l0
          replace l1 := lg 1 _ rfl rfl l1
          replace l2 := lg 2 _ rfl rfl l2
          replace l3 := lg 3 _ rfl rfl l3
          replace l4 := lg 4 _ rfl rfl l4
          replace l9 := lg 9 _ rfl rfl l9
          have l5 := ls
          refine i_229_170 (x := (Int32.ofInt (f + (k : Int)))) (c := (Int32.ofInt (f + (k : Int) + 1))) l9 (o_add (f + (k : Int)) 1) rfl ?_
          refine lgen1 (i := 9) (v := Value.int (Int32.ofInt (f + (k : Int) + 1))) (fun lv lg ls => ?_)
          replace l5 := lg 5 _ rfl rfl l5
          replace l7 := lg 7 _ rfl rfl l7
          replace l6 := lg 6 _ rfl rfl l6
          replace l8 := lg 8 _ rfl rfl l8
          replace l0 := lg 0 _ rfl rfl l0
          replace l1 := lg 1 _ rfl rfl l1
          replace l2 := lg 2 _ rfl rfl l2
          replace l3 := lg 3 _ rfl rfl l3
          replace l4 := lg 4 _ rfl rfl l4
          have l9 := ls
          refine i_229_173 ?_
          rw [show f + (k : Int) + 1 = f + ((k + 1 : Nat) : Int) by omega] at l9
          exact ih (k + 1) (e := min e (S 155 (f + (k : Int)).toNat - S 153 (f + (k : Int)).toNat)) (up := up) (dn := dn) (no := no) (by omega) hR (by rw [show eM (tkR S V f (k + 1)) = _ from (hid.o T).2.2.2.2.1]; first | (rw [if_pos (by omega)]; done) | (rw [if_pos (by omega)]; omega) | (rw [if_neg (by omega)]; omega)) (by rw [show (tkR S V f (k + 1)).2.2.1 = _ from (hid.o T).2.2.1]; first | (rw [if_pos (by omega)]; done) | (rw [if_pos (by omega)]; omega) | (rw [if_neg (by omega)]; omega)) (by rw [show (tkR S V f (k + 1)).2.2.2.1 = _ from (hid.o T).2.2.2.1]; first | (rw [if_pos (by omega)]; done) | (rw [if_pos (by omega)]; omega) | (rw [if_neg (by omega)]; omega)) (by rw [show (tkR S V f (k + 1)).1 = _ from (hid.o T).1]; first | (rw [if_pos (by omega)]; done) | (rw [if_pos (by omega)]; omega) | (rw [if_neg (by omega)]; omega)) l0 l1 l2 l3 l4 l5 l6 l7 l8 l9
      · refine i_229_97 (x := 128) l0 ?_
        refine i_229_98 (v := Value.ref 156) hR.c128 rfl ?_
        refine i_229_101 (x := Int32.ofInt (f + (k : Int))) l9 ?_
        refine i_229_103z (v := Value.int (Int32.ofInt (S 156 ((f + (k : Int)).toNat)))) (hR.row a156) (ix0 (T := f + (k : Int)) (by omega) (by omega)) (ix1 (T := f + (k : Int)) (by omega) (by omega) (by omega)) (ra (T := f + (k : Int)) (by omega) (by omega) rfl) ?_
        refine i_229_104 (z_ne (a := S 156 ((f + (k : Int)).toNat)) ⟨by omega, by omega⟩ fun c5 => ?_) (z_eq (a := S 156 ((f + (k : Int)).toNat)) ⟨by omega, by omega⟩ fun c5 => ?_)
        · refine i_229_111 ?_
          refine i_229_112 (c := Int32.ofInt up) o_or0 ?_
          refine i_229_113 rfl ?_
          refine lgen1 (i := 6) (v := Value.int (Int32.ofInt up)) (fun lv lg ls => ?_)
          replace l8 := lg 8 _ rfl rfl l8
          replace l0 := lg 0 _ rfl rfl l0
          replace l1 := lg 1 _ rfl rfl l1
          replace l2 := lg 2 _ rfl rfl l2
          replace l3 := lg 3 _ rfl rfl l3
          replace l4 := lg 4 _ rfl rfl l4
          replace l5 := lg 5 _ rfl rfl l5
          replace l7 := lg 7 _ rfl rfl l7
          replace l9 := lg 9 _ rfl rfl l9
          have l6 := ls
          refine i_229_115 (x := Int32.ofInt dn) l7 ?_
          refine i_229_117 (x := 128) l0 ?_
          refine i_229_118 (v := Value.ref 154) hR.c128 rfl ?_
          refine i_229_121 (x := Int32.ofInt (f + (k : Int))) l9 ?_
          refine i_229_123 (v := Value.int (Int32.ofInt (S 154 ((f + (k : Int)).toNat)))) (hR.row a154) (ix0 (T := f + (k : Int)) (by omega) (by omega)) (ix1 (T := f + (k : Int)) (by omega) (by omega) (by omega)) (ra (T := f + (k : Int)) (by omega) (by omega) rfl) ?_
          refine i_229_124 ?_
          refine i_229_125 (b_ne (a := S 154 ((f + (k : Int)).toNat)) (b := 1) ⟨by omega, by omega⟩ ⟨by decide, by decide⟩ fun c6 => absurd c6 (by omega)) (b_eq (a := S 154 ((f + (k : Int)).toNat)) (b := 1) ⟨by omega, by omega⟩ ⟨by decide, by decide⟩ fun c6 => ?_)
          refine i_229_128 (x := 128) l0 ?_
          refine i_229_129 (v := Value.ref 156) hR.c128 rfl ?_
          refine i_229_132 (x := Int32.ofInt (f + (k : Int))) l9 ?_
          refine i_229_134z (v := Value.int (Int32.ofInt (S 156 ((f + (k : Int)).toNat)))) (hR.row a156) (ix0 (T := f + (k : Int)) (by omega) (by omega)) (ix1 (T := f + (k : Int)) (by omega) (by omega) (by omega)) (ra (T := f + (k : Int)) (by omega) (by omega) rfl) ?_
          refine i_229_135 (z_eq (a := S 156 ((f + (k : Int)).toNat)) ⟨by omega, by omega⟩ fun c7 => absurd c7 (by omega)) (z_ne (a := S 156 ((f + (k : Int)).toNat)) ⟨by omega, by omega⟩ fun c7 => ?_)
          refine i_229_138 ?_
          refine i_229_139 ?_
          refine i_229_143 (c := 1) (o_orb1 (x := dn) (by omega)) ?_
          refine i_229_144 rfl ?_
          refine lgen1 (i := 7) (v := Value.int 1) (fun lv lg ls => ?_)
          replace l6 := lg 6 _ rfl rfl l6
          replace l8 := lg 8 _ rfl rfl l8
          replace l0 := lg 0 _ rfl rfl l0
          replace l1 := lg 1 _ rfl rfl l1
          replace l2 := lg 2 _ rfl rfl l2
          replace l3 := lg 3 _ rfl rfl l3
          replace l4 := lg 4 _ rfl rfl l4
          replace l5 := lg 5 _ rfl rfl l5
          replace l9 := lg 9 _ rfl rfl l9
          have l7 := ls
          refine i_229_146 (x := 128) l0 ?_
          refine i_229_147 (v := Value.ref 154) hR.c128 rfl ?_
          refine i_229_150 (x := Int32.ofInt (f + (k : Int))) l9 ?_
          refine i_229_152 (v := Value.int (Int32.ofInt (S 154 ((f + (k : Int)).toNat)))) (hR.row a154) (ix0 (T := f + (k : Int)) (by omega) (by omega)) (ix1 (T := f + (k : Int)) (by omega) (by omega) (by omega)) (ra (T := f + (k : Int)) (by omega) (by omega) rfl) ?_
          refine i_229_153 ?_
          refine i_229_154 (b_ne (a := S 154 ((f + (k : Int)).toNat)) (b := 3) ⟨by omega, by omega⟩ ⟨by decide, by decide⟩ fun c8 => ?_) (b_eq (a := S 154 ((f + (k : Int)).toNat)) (b := 3) ⟨by omega, by omega⟩ ⟨by decide, by decide⟩ fun c8 => absurd c8 (by omega))
          refine i_229_170 (x := (Int32.ofInt (f + (k : Int)))) (c := (Int32.ofInt (f + (k : Int) + 1))) l9 (o_add (f + (k : Int)) 1) rfl ?_
          refine lgen1 (i := 9) (v := Value.int (Int32.ofInt (f + (k : Int) + 1))) (fun lv lg ls => ?_)
          replace l7 := lg 7 _ rfl rfl l7
          replace l6 := lg 6 _ rfl rfl l6
          replace l8 := lg 8 _ rfl rfl l8
          replace l0 := lg 0 _ rfl rfl l0
          replace l1 := lg 1 _ rfl rfl l1
          replace l2 := lg 2 _ rfl rfl l2
          replace l3 := lg 3 _ rfl rfl l3
          replace l4 := lg 4 _ rfl rfl l4
          replace l5 := lg 5 _ rfl rfl l5
          have l9 := ls
          refine i_229_173 ?_
          rw [show f + (k : Int) + 1 = f + ((k + 1 : Nat) : Int) by omega] at l9
          exact ih (k + 1) (e := e) (up := up) (dn := 1) (no := no) (by omega) hR (by rw [show eM (tkR S V f (k + 1)) = _ from (hid.o T).2.2.2.2.1]; first | (rw [if_pos (by omega)]; done) | (rw [if_pos (by omega)]; omega) | (rw [if_neg (by omega)]; omega)) (by rw [show (tkR S V f (k + 1)).2.2.1 = _ from (hid.o T).2.2.1]; first | (rw [if_pos (by omega)]; done) | (rw [if_pos (by omega)]; omega) | (rw [if_neg (by omega)]; omega)) (by rw [show (tkR S V f (k + 1)).2.2.2.1 = _ from (hid.o T).2.2.2.1]; first | (rw [if_pos (by omega)]; done) | (rw [if_pos (by omega)]; omega) | (rw [if_neg (by omega)]; omega)) (by rw [show (tkR S V f (k + 1)).1 = _ from (hid.o T).1]; first | (rw [if_pos (by omega)]; done) | (rw [if_pos (by omega)]; omega) | (rw [if_neg (by omega)]; omega)) l0 l1 l2 l3 l4 l5 l6 l7 l8 l9
        · refine i_229_107 ?_
          refine i_229_108 ?_
          refine i_229_112 (c := 1) (o_orb1 (x := up) (by omega)) ?_
          refine i_229_113 rfl ?_
          refine lgen1 (i := 6) (v := Value.int 1) (fun lv lg ls => ?_)
          replace l8 := lg 8 _ rfl rfl l8
          replace l0 := lg 0 _ rfl rfl l0
          replace l1 := lg 1 _ rfl rfl l1
          replace l2 := lg 2 _ rfl rfl l2
          replace l3 := lg 3 _ rfl rfl l3
          replace l4 := lg 4 _ rfl rfl l4
          replace l5 := lg 5 _ rfl rfl l5
          replace l7 := lg 7 _ rfl rfl l7
          replace l9 := lg 9 _ rfl rfl l9
          have l6 := ls
          refine i_229_115 (x := Int32.ofInt dn) l7 ?_
          refine i_229_117 (x := 128) l0 ?_
          refine i_229_118 (v := Value.ref 154) hR.c128 rfl ?_
          refine i_229_121 (x := Int32.ofInt (f + (k : Int))) l9 ?_
          refine i_229_123 (v := Value.int (Int32.ofInt (S 154 ((f + (k : Int)).toNat)))) (hR.row a154) (ix0 (T := f + (k : Int)) (by omega) (by omega)) (ix1 (T := f + (k : Int)) (by omega) (by omega) (by omega)) (ra (T := f + (k : Int)) (by omega) (by omega) rfl) ?_
          refine i_229_124 ?_
          refine i_229_125 (b_ne (a := S 154 ((f + (k : Int)).toNat)) (b := 1) ⟨by omega, by omega⟩ ⟨by decide, by decide⟩ fun c9 => absurd c9 (by omega)) (b_eq (a := S 154 ((f + (k : Int)).toNat)) (b := 1) ⟨by omega, by omega⟩ ⟨by decide, by decide⟩ fun c9 => ?_)
          refine i_229_128 (x := 128) l0 ?_
          refine i_229_129 (v := Value.ref 156) hR.c128 rfl ?_
          refine i_229_132 (x := Int32.ofInt (f + (k : Int))) l9 ?_
          refine i_229_134z (v := Value.int (Int32.ofInt (S 156 ((f + (k : Int)).toNat)))) (hR.row a156) (ix0 (T := f + (k : Int)) (by omega) (by omega)) (ix1 (T := f + (k : Int)) (by omega) (by omega) (by omega)) (ra (T := f + (k : Int)) (by omega) (by omega) rfl) ?_
          refine i_229_135 (z_eq (a := S 156 ((f + (k : Int)).toNat)) ⟨by omega, by omega⟩ fun c10 => ?_) (z_ne (a := S 156 ((f + (k : Int)).toNat)) ⟨by omega, by omega⟩ fun c10 => absurd c10 (by omega))
          refine i_229_142 ?_
          refine i_229_143 (c := Int32.ofInt dn) o_or0 ?_
          refine i_229_144 rfl ?_
          refine lgen1 (i := 7) (v := Value.int (Int32.ofInt dn)) (fun lv lg ls => ?_)
          replace l6 := lg 6 _ rfl rfl l6
          replace l8 := lg 8 _ rfl rfl l8
          replace l0 := lg 0 _ rfl rfl l0
          replace l1 := lg 1 _ rfl rfl l1
          replace l2 := lg 2 _ rfl rfl l2
          replace l3 := lg 3 _ rfl rfl l3
          replace l4 := lg 4 _ rfl rfl l4
          replace l5 := lg 5 _ rfl rfl l5
          replace l9 := lg 9 _ rfl rfl l9
          have l7 := ls
          refine i_229_146 (x := 128) l0 ?_
          refine i_229_147 (v := Value.ref 154) hR.c128 rfl ?_
          refine i_229_150 (x := Int32.ofInt (f + (k : Int))) l9 ?_
          refine i_229_152 (v := Value.int (Int32.ofInt (S 154 ((f + (k : Int)).toNat)))) (hR.row a154) (ix0 (T := f + (k : Int)) (by omega) (by omega)) (ix1 (T := f + (k : Int)) (by omega) (by omega) (by omega)) (ra (T := f + (k : Int)) (by omega) (by omega) rfl) ?_
          refine i_229_153 ?_
          refine i_229_154 (b_ne (a := S 154 ((f + (k : Int)).toNat)) (b := 3) ⟨by omega, by omega⟩ ⟨by decide, by decide⟩ fun c11 => ?_) (b_eq (a := S 154 ((f + (k : Int)).toNat)) (b := 3) ⟨by omega, by omega⟩ ⟨by decide, by decide⟩ fun c11 => absurd c11 (by omega))
          refine i_229_170 (x := (Int32.ofInt (f + (k : Int)))) (c := (Int32.ofInt (f + (k : Int) + 1))) l9 (o_add (f + (k : Int)) 1) rfl ?_
          refine lgen1 (i := 9) (v := Value.int (Int32.ofInt (f + (k : Int) + 1))) (fun lv lg ls => ?_)
          replace l7 := lg 7 _ rfl rfl l7
          replace l6 := lg 6 _ rfl rfl l6
          replace l8 := lg 8 _ rfl rfl l8
          replace l0 := lg 0 _ rfl rfl l0
          replace l1 := lg 1 _ rfl rfl l1
          replace l2 := lg 2 _ rfl rfl l2
          replace l3 := lg 3 _ rfl rfl l3
          replace l4 := lg 4 _ rfl rfl l4
          replace l5 := lg 5 _ rfl rfl l5
          have l9 := ls
          refine i_229_173 ?_
          rw [show f + (k : Int) + 1 = f + ((k + 1 : Nat) : Int) by omega] at l9
          exact ih (k + 1) (e := e) (up := 1) (dn := dn) (no := no) (by omega) hR (by rw [show eM (tkR S V f (k + 1)) = _ from (hid.o T).2.2.2.2.1]; first | (rw [if_pos (by omega)]; done) | (rw [if_pos (by omega)]; omega) | (rw [if_neg (by omega)]; omega)) (by rw [show (tkR S V f (k + 1)).2.2.1 = _ from (hid.o T).2.2.1]; first | (rw [if_pos (by omega)]; done) | (rw [if_pos (by omega)]; omega) | (rw [if_neg (by omega)]; omega)) (by rw [show (tkR S V f (k + 1)).2.2.2.1 = _ from (hid.o T).2.2.2.1]; first | (rw [if_pos (by omega)]; done) | (rw [if_pos (by omega)]; omega) | (rw [if_neg (by omega)]; omega)) (by rw [show (tkR S V f (k + 1)).1 = _ from (hid.o T).1]; first | (rw [if_pos (by omega)]; done) | (rw [if_pos (by omega)]; omega) | (rw [if_neg (by omega)]; omega)) l0 l1 l2 l3 l4 l5 l6 l7 l8 l9
    · refine i_229_76 ?_
      refine i_229_77 ?_
      refine i_229_81 (c := 1) (o_orb1 (x := no) (by omega)) ?_
      refine i_229_82 rfl ?_
      refine lgen1 (i := 8) (v := Value.int 1) (fun lv lg ls => ?_)
      replace l0 := lg 0 _ rfl rfl l0
      replace l1 := lg 1 _ rfl rfl l1
      replace l2 := lg 2 _ rfl rfl l2
      replace l3 := lg 3 _ rfl rfl l3
      replace l4 := lg 4 _ rfl rfl l4
      replace l5 := lg 5 _ rfl rfl l5
      replace l6 := lg 6 _ rfl rfl l6
      replace l7 := lg 7 _ rfl rfl l7
      replace l9 := lg 9 _ rfl rfl l9
      have l8 := ls
      refine i_229_84 (x := Int32.ofInt up) l6 ?_
      refine i_229_86 (x := 128) l0 ?_
      refine i_229_87 (v := Value.ref 154) hR.c128 rfl ?_
      refine i_229_90 (x := Int32.ofInt (f + (k : Int))) l9 ?_
      refine i_229_92 (v := Value.int (Int32.ofInt (S 154 ((f + (k : Int)).toNat)))) (hR.row a154) (ix0 (T := f + (k : Int)) (by omega) (by omega)) (ix1 (T := f + (k : Int)) (by omega) (by omega) (by omega)) (ra (T := f + (k : Int)) (by omega) (by omega) rfl) ?_
      refine i_229_93 ?_
      refine i_229_94 (b_ne (a := S 154 ((f + (k : Int)).toNat)) (b := 1) ⟨by omega, by omega⟩ ⟨by decide, by decide⟩ fun c12 => ?_) (b_eq (a := S 154 ((f + (k : Int)).toNat)) (b := 1) ⟨by omega, by omega⟩ ⟨by decide, by decide⟩ fun c12 => absurd c12 (by omega))
      refine i_229_111 ?_
      refine i_229_112 (c := Int32.ofInt up) o_or0 ?_
      refine i_229_113 rfl ?_
      refine lgen1 (i := 6) (v := Value.int (Int32.ofInt up)) (fun lv lg ls => ?_)
      replace l8 := lg 8 _ rfl rfl l8
      replace l0 := lg 0 _ rfl rfl l0
      replace l1 := lg 1 _ rfl rfl l1
      replace l2 := lg 2 _ rfl rfl l2
      replace l3 := lg 3 _ rfl rfl l3
      replace l4 := lg 4 _ rfl rfl l4
      replace l5 := lg 5 _ rfl rfl l5
      replace l7 := lg 7 _ rfl rfl l7
      replace l9 := lg 9 _ rfl rfl l9
      have l6 := ls
      refine i_229_115 (x := Int32.ofInt dn) l7 ?_
      refine i_229_117 (x := 128) l0 ?_
      refine i_229_118 (v := Value.ref 154) hR.c128 rfl ?_
      refine i_229_121 (x := Int32.ofInt (f + (k : Int))) l9 ?_
      refine i_229_123 (v := Value.int (Int32.ofInt (S 154 ((f + (k : Int)).toNat)))) (hR.row a154) (ix0 (T := f + (k : Int)) (by omega) (by omega)) (ix1 (T := f + (k : Int)) (by omega) (by omega) (by omega)) (ra (T := f + (k : Int)) (by omega) (by omega) rfl) ?_
      refine i_229_124 ?_
      refine i_229_125 (b_ne (a := S 154 ((f + (k : Int)).toNat)) (b := 1) ⟨by omega, by omega⟩ ⟨by decide, by decide⟩ fun c13 => ?_) (b_eq (a := S 154 ((f + (k : Int)).toNat)) (b := 1) ⟨by omega, by omega⟩ ⟨by decide, by decide⟩ fun c13 => absurd c13 (by omega))
      refine i_229_142 ?_
      refine i_229_143 (c := Int32.ofInt dn) o_or0 ?_
      refine i_229_144 rfl ?_
      refine lgen1 (i := 7) (v := Value.int (Int32.ofInt dn)) (fun lv lg ls => ?_)
      replace l6 := lg 6 _ rfl rfl l6
      replace l8 := lg 8 _ rfl rfl l8
      replace l0 := lg 0 _ rfl rfl l0
      replace l1 := lg 1 _ rfl rfl l1
      replace l2 := lg 2 _ rfl rfl l2
      replace l3 := lg 3 _ rfl rfl l3
      replace l4 := lg 4 _ rfl rfl l4
      replace l5 := lg 5 _ rfl rfl l5
      replace l9 := lg 9 _ rfl rfl l9
      have l7 := ls
      refine i_229_146 (x := 128) l0 ?_
      refine i_229_147 (v := Value.ref 154) hR.c128 rfl ?_
      refine i_229_150 (x := Int32.ofInt (f + (k : Int))) l9 ?_
      refine i_229_152 (v := Value.int (Int32.ofInt (S 154 ((f + (k : Int)).toNat)))) (hR.row a154) (ix0 (T := f + (k : Int)) (by omega) (by omega)) (ix1 (T := f + (k : Int)) (by omega) (by omega) (by omega)) (ra (T := f + (k : Int)) (by omega) (by omega) rfl) ?_
      refine i_229_153 ?_
      refine i_229_154 (b_ne (a := S 154 ((f + (k : Int)).toNat)) (b := 3) ⟨by omega, by omega⟩ ⟨by decide, by decide⟩ fun c14 => ?_) (b_eq (a := S 154 ((f + (k : Int)).toNat)) (b := 3) ⟨by omega, by omega⟩ ⟨by decide, by decide⟩ fun c14 => absurd c14 (by omega))
      refine i_229_170 (x := (Int32.ofInt (f + (k : Int)))) (c := (Int32.ofInt (f + (k : Int) + 1))) l9 (o_add (f + (k : Int)) 1) rfl ?_
      refine lgen1 (i := 9) (v := Value.int (Int32.ofInt (f + (k : Int) + 1))) (fun lv lg ls => ?_)
      replace l7 := lg 7 _ rfl rfl l7
      replace l6 := lg 6 _ rfl rfl l6
      replace l8 := lg 8 _ rfl rfl l8
      replace l0 := lg 0 _ rfl rfl l0
      replace l1 := lg 1 _ rfl rfl l1
      replace l2 := lg 2 _ rfl rfl l2
      replace l3 := lg 3 _ rfl rfl l3
      replace l4 := lg 4 _ rfl rfl l4
      replace l5 := lg 5 _ rfl rfl l5
      have l9 := ls
      refine i_229_173 ?_
      rw [show f + (k : Int) + 1 = f + ((k + 1 : Nat) : Int) by omega] at l9
      exact ih (k + 1) (e := e) (up := up) (dn := dn) (no := 1) (by omega) hR (by rw [show eM (tkR S V f (k + 1)) = _ from (hid.o T).2.2.2.2.1]; first | (rw [if_pos (by omega)]; done) | (rw [if_pos (by omega)]; omega) | (rw [if_neg (by omega)]; omega)) (by rw [show (tkR S V f (k + 1)).2.2.1 = _ from (hid.o T).2.2.1]; first | (rw [if_pos (by omega)]; done) | (rw [if_pos (by omega)]; omega) | (rw [if_neg (by omega)]; omega)) (by rw [show (tkR S V f (k + 1)).2.2.2.1 = _ from (hid.o T).2.2.2.1]; first | (rw [if_pos (by omega)]; done) | (rw [if_pos (by omega)]; omega) | (rw [if_neg (by omega)]; omega)) (by rw [show (tkR S V f (k + 1)).1 = _ from (hid.o T).1]; first | (rw [if_pos (by omega)]; done) | (rw [if_pos (by omega)]; omega) | (rw [if_neg (by omega)]; omega)) l0 l1 l2 l3 l4 l5 l6 l7 l8 l9
set_option maxHeartbeats 4000000 in
theorem sm_2 (hI : mI S V) (hr : 0 ≤ r ∧ r ≤ 15) (hf : 0 ≤ f) (hn : 1 ≤ n ∧ n ≤ 16) (hfn : f + n ≤ 16) (hEn : E = eM (tkR S V f n.toNat)) (hkd : hid (∀ k : Nat, (k : Int) < n → S 154 (f + (k : Int)).toNat = 2 ∨ S 154 (f + (k : Int)).toNat = 3)) (hQ : ∀ {lv : xLv} {w : xW} {S1 : Nat → Nat → Int} {V1 : Nat → Nat}, mR w0 S1 V1 w → sS S V S1 V1 E (pM (tkR S V f n.toNat) E) (qM (tkR S V f n.toNat) E) (if (tkR S V f n.toNat).2.2.2.2.2.2.2.1 = 0 then 1 else 0) (tkR S V f n.toNat).2.2.2.2.2.2.2.2.1 (tkR S V f n.toNat).2.2.2.2.2.2.2.2.2 → xld lv 0 = some (Value.ref 128) → xld lv 1 = some (Value.int (Int32.ofInt r)) → xld lv 2 = some (Value.int (Int32.ofInt f)) → xld lv 3 = some (Value.int (Int32.ofInt n)) → xld lv 4 = some (Value.int (Int32.ofInt mode)) → xEv (d + 8) 229 296 lv [] w Q) : ∀ (m k : Nat) {lv : xLv} {w : xW} {S1 : Nat → Nat → Int} {V1 : Nat → Nat} {P N : Nat} {z pz nz : Int}, (k : Int) + (m : Int) = n → mR w0 S1 V1 w → sS S V S1 V1 E P N z pz nz → P = pM (tkR S V f k) E → N = qM (tkR S V f k) E → z = (if (tkR S V f k).2.2.2.2.2.2.2.1 = 0 then 1 else 0) → pz = (tkR S V f k).2.2.2.2.2.2.2.2.1 → nz = (tkR S V f k).2.2.2.2.2.2.2.2.2 → xld lv 0 = some (Value.ref 128) → xld lv 1 = some (Value.int (Int32.ofInt r)) → xld lv 2 = some (Value.int (Int32.ofInt f)) → xld lv 3 = some (Value.int (Int32.ofInt n)) → xld lv 4 = some (Value.int (Int32.ofInt mode)) → xld lv 9 = some (Value.int (Int32.ofInt (f + (k : Int)))) → xEv (d + 8) 229 233 lv [] w Q := by
  intro m
  induction m with
  | zero =>
    intro k lv w S1 V1 P N z pz nz hk hR hS hPe hNe hz hpz hnz l0 l1 l2 l3 l4 l9
    refine i_229_233 l9 ?_
    refine i_229_235 l2 ?_
    refine i_229_236 l3 ?_
    refine i_229_237 (c := Int32.ofInt (f + n)) (o_add f n) ?_
    refine i_229_238 (b_le (a := f + n) (b := f + (k : Int)) ⟨by omega, by omega⟩ ⟨by omega, by omega⟩ fun _ => ?_) (b_lt (a := f + (k : Int)) (b := f + n) ⟨by omega, by omega⟩ ⟨by omega, by omega⟩ fun c => absurd c (by omega))
    rw [show k = n.toNat by omega] at hPe hNe hz hpz hnz
    rw [hPe, hNe, hz, hpz, hnz] at hS
    exact hQ hR hS l0 l1 l2 l3 l4
  | succ m ih =>
    intro k lv w S1 V1 P N z pz nz hk hR hS hPe hNe hz hpz hnz l0 l1 l2 l3 l4 l9
    have T : hid _ := tR1 hI hf (k := k) (by omega)
    have hkk := hkd k (by omega)
    obtain ⟨hp_a, hk_a, hn_a, ht_a, hx_a, -⟩ := hI.1 (f + (k : Int)).toNat (by omega)
    have hEk : E ≤ eM (tkR S V f (k + 1)) := by rw [hEn]; exact (tR_mono hI hf (show k + 1 ≤ n.toNat by omega) (by omega)).1
    have hE0 : -60000 ≤ E := by rw [hEn]; exact (eM_b (okT_R hI hf n.toNat (by omega))).1
    have hEk0 : E ≤ eM (tkR S V f k) := by rw [hEn]; exact (tR_mono hI hf (show k ≤ n.toNat by omega) (by omega)).1
    obtain ⟨hPb, hNb⟩ := pM_b (okT_R hI hf k (by omega)) ⟨by omega, by omega⟩ ⟨hE0, hEk0⟩
    rw [← hPe] at hPb
    rw [← hNe] at hNb
    have hEs : S 154 (f + (k : Int)).toNat = 3 → E ≤ S 155 (f + (k : Int)).toNat - S 153 (f + (k : Int)).toNat := fun h3 => by
      have u5 : eM (tkR S V f (k + 1)) = _ := (hid.o T).2.2.2.2.1
      rw [u5, if_pos h3] at hEk
      omega
    refine i_229_233 (x := Int32.ofInt (f + (k : Int))) l9 ?_
    refine i_229_235 (x := Int32.ofInt f) l2 ?_
    refine i_229_236 (x := Int32.ofInt n) l3 ?_
    refine i_229_237 (c := Int32.ofInt (f + n)) (o_add f n) ?_
    refine i_229_238 (b_le (a := f + n) (b := f + (k : Int)) ⟨by omega, by omega⟩ ⟨by omega, by omega⟩ fun c0 => absurd c0 (by omega)) (b_lt (a := f + (k : Int)) (b := f + n) ⟨by omega, by omega⟩ ⟨by omega, by omega⟩ fun c0 => ?_)
    refine i_229_241 (x := 128) l0 ?_
    refine i_229_242 (v := Value.ref 154) hR.c128 rfl ?_
    refine i_229_245 (x := Int32.ofInt (f + (k : Int))) l9 ?_
    refine i_229_247 (v := Value.int (Int32.ofInt (S 154 ((f + (k : Int)).toNat)))) (hR.row a154) (ix0 (T := f + (k : Int)) (by omega) (by omega)) (ix1 (T := f + (k : Int)) (by omega) (by omega) (by omega)) (ra (T := f + (k : Int)) (by omega) (by omega) (hS.1.1 _ _ (by decide))) ?_
    refine i_229_248 ?_
    refine i_229_249 (b_ne (a := S 154 ((f + (k : Int)).toNat)) (b := 3) ⟨by omega, by omega⟩ ⟨by decide, by decide⟩ fun c1 => ?_) (b_eq (a := S 154 ((f + (k : Int)).toNat)) (b := 3) ⟨by omega, by omega⟩ ⟨by decide, by decide⟩ fun c1 => ?_)
    · refine i_229_279 (x := 128) l0 ?_
      refine i_229_280 (x := 128) l0 ?_
      refine i_229_281 (v := Value.ref 156) hR.c128 rfl ?_
      refine i_229_284 (x := Int32.ofInt (f + (k : Int))) l9 ?_
      refine i_229_286z (v := Value.int (Int32.ofInt (S 156 ((f + (k : Int)).toNat)))) (hR.row a156) (ix0 (T := f + (k : Int)) (by omega) (by omega)) (ix1 (T := f + (k : Int)) (by omega) (by omega) (by omega)) (ra (T := f + (k : Int)) (by omega) (by omega) (hS.1.1 _ _ (by decide))) ?_
      have hobj := hR.c128
      obtain ⟨w, S1, V1, hrun, hR, hS⟩ := t_addZero (d := d + 6) (sg := S 156 ((f + (k : Int)).toNat)) hR hS (by omega)
      refine i_229_287 hobj (Nat.le_of_ble_eq_true rfl) hrun ?_
      refine i_229_290 (x := (Int32.ofInt (f + (k : Int)))) (c := (Int32.ofInt (f + (k : Int) + 1))) l9 (o_add (f + (k : Int)) 1) rfl ?_
      refine lgen1 (i := 9) (v := Value.int (Int32.ofInt (f + (k : Int) + 1))) (fun lv lg ls => ?_)
      replace l0 := lg 0 _ rfl rfl l0
      replace l1 := lg 1 _ rfl rfl l1
      replace l2 := lg 2 _ rfl rfl l2
      replace l3 := lg 3 _ rfl rfl l3
      replace l4 := lg 4 _ rfl rfl l4
      have l9 := ls
      refine i_229_293 ?_
      rw [show f + (k : Int) + 1 = f + ((k + 1 : Nat) : Int) by omega] at l9
      exact ih (k + 1) (by omega) hR hS (hPe.trans (tk2s (by omega)).1.symm) (hNe.trans (tk2s (by omega)).2.symm) (by rw [show (tkR S V f (k + 1)).2.2.2.2.2.2.2.1 = (tkR S V f k).2.2.2.2.2.2.2.1 from ((hid.o T).2.2.2.2.2.1).trans (if_neg (by omega))]; exact hz) (by rw [show (tkR S V f (k + 1)).2.2.2.2.2.2.2.2.1 = _ from (hid.o T).2.2.2.2.2.2.1, hpz]; split <;> split <;> first | rfl | omega) (by rw [show (tkR S V f (k + 1)).2.2.2.2.2.2.2.2.2 = _ from (hid.o T).2.2.2.2.2.2.2, hnz]; split <;> split <;> first | rfl | omega) l0 l1 l2 l3 l4 l9
    · refine i_229_252 (x := 128) l0 ?_
      refine i_229_253 (x := 128) l0 ?_
      refine i_229_254 (v := Value.ref 157) hR.c128 rfl ?_
      refine i_229_257 (x := Int32.ofInt (f + (k : Int))) l9 ?_
      obtain ⟨gp, hgp, hgr⟩ := hR.part (j := (f + (k : Int)).toNat) (by omega)
      refine i_229_259 (v := Value.ref (160 + 2 * (f + (k : Int)).toNat)) hgp (ix0 (by omega) (by omega)) (ix1 (by omega) (by omega) (by omega)) (by rw [ixn (by omega) (by omega)]; exact hgr) ?_
      refine i_229_260 (x := 128) l0 ?_
      refine i_229_261 (x := Int32.ofInt (f + (k : Int))) l9 ?_
      have hobj := hR.c128
      obtain ⟨w, hrun, hR⟩ := s_exponent (d := d + 6) (r := f + (k : Int)) hR (by omega) (by omega)
      rw [hS.1.1 155 _ (by decide), hS.1.1 153 _ (by decide)] at hrun
      refine i_229_263 hobj (Nat.le_of_ble_eq_true rfl) hrun ?_
      refine i_229_266 (x := 128) l0 ?_
      refine i_229_267 (v := Value.ref 156) hR.c128 rfl ?_
      refine i_229_270 (x := Int32.ofInt (f + (k : Int))) l9 ?_
      refine i_229_272z (v := Value.int (Int32.ofInt (S 156 ((f + (k : Int)).toNat)))) (hR.row a156) (ix0 (T := f + (k : Int)) (by omega) (by omega)) (ix1 (T := f + (k : Int)) (by omega) (by omega) (by omega)) (ra (T := f + (k : Int)) (by omega) (by omega) (hS.1.1 _ _ (by decide))) ?_
      have hobj := hR.c128
      obtain ⟨w, S1, V1, hrun, hR, hS⟩ := t_addTo (d := d + 4) (h := 160 + 2 * (f + (k : Int)).toNat) (m := V (160 + 2 * (f + (k : Int)).toNat)) (e := S 155 (f + (k : Int)).toNat - S 153 (f + (k : Int)).toNat) (sg := S 156 ((f + (k : Int)).toNat)) hR hS (iNp (r := (f + (k : Int))) (by omega) (by omega)) ((hS.2.1 _ (by omega))) (by omega) (by omega) (by omega) (by omega) (by omega) (by omega)
      refine i_229_273 hobj (Nat.le_of_ble_eq_true rfl) hrun ?_
      refine i_229_276 ?_
      refine i_229_290 (x := (Int32.ofInt (f + (k : Int)))) (c := (Int32.ofInt (f + (k : Int) + 1))) l9 (o_add (f + (k : Int)) 1) rfl ?_
      refine lgen1 (i := 9) (v := Value.int (Int32.ofInt (f + (k : Int) + 1))) (fun lv lg ls => ?_)
      replace l0 := lg 0 _ rfl rfl l0
      replace l1 := lg 1 _ rfl rfl l1
      replace l2 := lg 2 _ rfl rfl l2
      replace l3 := lg 3 _ rfl rfl l3
      replace l4 := lg 4 _ rfl rfl l4
      have l9 := ls
      refine i_229_293 ?_
      rw [show f + (k : Int) + 1 = f + ((k + 1 : Nat) : Int) by omega] at l9
      exact ih (k + 1) (by omega) hR hS (by rw [hPe]; exact (tk2k (okT_R hI hf k (by omega)) (by omega) hEk).1.symm) (by rw [hNe]; exact (tk2k (okT_R hI hf k (by omega)) (by omega) hEk).2.symm) (by rw [show (tkR S V f (k + 1)).2.2.2.2.2.2.2.1 = 1 from ((hid.o T).2.2.2.2.2.1).trans (if_pos (by omega))]; rfl) (by rw [show (tkR S V f (k + 1)).2.2.2.2.2.2.2.2.1 = _ from (hid.o T).2.2.2.2.2.2.1, if_neg (by omega)]; exact hpz) (by rw [show (tkR S V f (k + 1)).2.2.2.2.2.2.2.2.2 = _ from (hid.o T).2.2.2.2.2.2.2, if_neg (by omega)]; exact hnz) l0 l1 l2 l3 l4 l9
set_option maxHeartbeats 8000000 in
theorem s_sum (hR : mR w0 S V w) (hI : mI S V) (hr : 0 ≤ r ∧ r ≤ 15) (hf : 0 ≤ f) (hn : 1 ≤ n ∧ n ≤ 16) (hfn : f + n ≤ 16) (hmo : 0 ≤ mode ∧ mode ≤ 4) : ∃ w', xRun (d + 8) 229 [Value.ref 128, Value.int (Int32.ofInt r), Value.int (Int32.ofInt f), Value.int (Int32.ofInt n), Value.int (Int32.ofInt mode)] w (.inl (some (.int (Int32.ofInt (sFinT (S 153 r.toNat) (S 128 17) (S 128 18) (S 128 20) (S 128 19) mode (tkR S V f n.toNat)).2.2.2.2.1)))) w' ∧ ∃ S' V', mR w0 S' V' w' ∧ oP S S' V V' r.toNat (sFinT (S 153 r.toNat) (S 128 17) (S 128 18) (S 128 20) (S 128 19) mode (tkR S V f n.toNat)) := by
  have hox := okT_R hI hf n.toNat (by omega)
  have hinv := tR_inv hI hf n.toNat (by omega)
  obtain ⟨hp_r, -⟩ := hI.1 r.toNat (by omega)
  have hi_l := hI.2.1
  have hi_g := hI.2.2.1
  have hi_f := hI.2.2.2
  have key : xEv (d + 8) 229 0 (lv_args 0 [Value.ref 128, Value.int (Int32.ofInt r), Value.int (Int32.ofInt f), Value.int (Int32.ofInt n), Value.int (Int32.ofInt mode)]) [] w (fun o w' => o = .inl (some (.int (Int32.ofInt (sFinT (S 153 r.toNat) (S 128 17) (S 128 18) (S 128 20) (S 128 19) mode (tkR S V f n.toNat)).2.2.2.2.1))) ∧ ∃ S' V', mR w0 S' V' w' ∧ oP S S' V V' r.toNat (sFinT (S 153 r.toNat) (S 128 17) (S 128 18) (S 128 20) (S 128 19) mode (tkR S V f n.toNat))) := by
    refine i_229_0 (x := Int32.ofInt r) rfl ?_
    have hrun := s_reg1 (d := d + 5) (w := w) (r := r) (by omega) (by omega)
    refine i_229_1 (Nat.le_of_ble_eq_true rfl) hrun ?_
    refine i_229_4 (x := Int32.ofInt f) rfl ?_
    have hrun := s_reg1 (d := d + 5) (w := w) (r := f) (by omega) (by omega)
    refine i_229_5 (Nat.le_of_ble_eq_true rfl) hrun ?_
    refine i_229_8 (x := Int32.ofInt n) rfl ?_
    refine i_229_9 ?_
    refine i_229_10 ?_
    have hrun := s_in (d := d + 6) (w := w) (v := n) (lo := 1) (hi := 16) ⟨by omega, by omega⟩ ⟨by decide, by decide⟩ ⟨by decide, by decide⟩
    refine i_229_12 (Nat.le_of_ble_eq_true rfl) hrun ?_
    refine i_229_15 (zb_f fun c0 => absurd c0 (by simp_all)) (zb_t fun c0 => ?_)
    refine i_229_18 (x := Int32.ofInt f) rfl ?_
    refine i_229_19 (x := Int32.ofInt n) rfl ?_
    refine i_229_20 (c := Int32.ofInt (f + n)) (o_add f n) ?_
    refine i_229_21 ?_
    refine i_229_23 (b_lt (a := 16) (b := f + n) ⟨by decide, by decide⟩ ⟨by omega, by omega⟩ fun c1 => absurd c1 (by omega)) (b_le (a := f + n) (b := 16) ⟨by omega, by omega⟩ ⟨by decide, by decide⟩ fun c1 => ?_)
    refine i_229_26 ?_
    refine i_229_27 ?_
    have hrun := s_ck1 (d := d + 6) (w := w) (b := true) rfl
    refine i_229_31 (Nat.le_of_ble_eq_true rfl) hrun ?_
    refine i_229_34 (x := Int32.ofInt mode) rfl ?_
    have hrun := s_mode1 (d := d + 5) (w := w) (r := mode) (by omega) (by omega)
    refine i_229_36 (Nat.le_of_ble_eq_true rfl) hrun ?_
    refine i_229_39 ?_
    refine i_229_42 (lv2 := [(5, Value.int 2147483647), (0, Value.ref 128), (1, Value.int (Int32.ofInt r)), (2, Value.int (Int32.ofInt f)), (3, Value.int (Int32.ofInt n)), (4, Value.int (Int32.ofInt mode))]) rfl ?_
    refine i_229_44 ?_
    refine i_229_45 (lv2 := [(6, Value.int 0), (5, Value.int 2147483647), (0, Value.ref 128), (1, Value.int (Int32.ofInt r)), (2, Value.int (Int32.ofInt f)), (3, Value.int (Int32.ofInt n)), (4, Value.int (Int32.ofInt mode))]) rfl ?_
    refine i_229_47 ?_
    refine i_229_48 (lv2 := [(7, Value.int 0), (6, Value.int 0), (5, Value.int 2147483647), (0, Value.ref 128), (1, Value.int (Int32.ofInt r)), (2, Value.int (Int32.ofInt f)), (3, Value.int (Int32.ofInt n)), (4, Value.int (Int32.ofInt mode))]) rfl ?_
    refine i_229_50 ?_
    refine i_229_51 (lv2 := [(8, Value.int 0), (7, Value.int 0), (6, Value.int 0), (5, Value.int 2147483647), (0, Value.ref 128), (1, Value.int (Int32.ofInt r)), (2, Value.int (Int32.ofInt f)), (3, Value.int (Int32.ofInt n)), (4, Value.int (Int32.ofInt mode))]) rfl ?_
    refine i_229_53 (x := Int32.ofInt f) rfl ?_
    refine i_229_54 (lv2 := [(9, Value.int (Int32.ofInt f)), (8, Value.int 0), (7, Value.int 0), (6, Value.int 0), (5, Value.int 2147483647), (0, Value.ref 128), (1, Value.int (Int32.ofInt r)), (2, Value.int (Int32.ofInt f)), (3, Value.int (Int32.ofInt n)), (4, Value.int (Int32.ofInt mode))]) rfl ?_
    refine sm_1 hI hr hf hn hfn ?_ n.toNat 0 (by omega) hR rfl rfl rfl rfl rfl rfl rfl rfl rfl rfl rfl rfl rfl (by rw [show f + ((0 : Nat) : Int) = f by omega]; rfl)
    clear hR
    intro lv w e up dn no hR he hu hd hno l0 l1 l2 l3 l4 l5 l6 l7 l8
    obtain ⟨b1, -, b3, b4, b5, b6, b7⟩ := okT_f hox
    refine i_229_176 (x := Int32.ofInt no) l8 ?_
    refine i_229_178 (z_eq (a := no) ⟨by omega, by omega⟩ fun c0 => ?_) (z_ne (a := no) ⟨by omega, by omega⟩ fun c0 => ?_)
    · refine i_229_189 (x := Int32.ofInt up) l6 ?_
      refine i_229_191 (z_eq (a := up) ⟨by omega, by omega⟩ fun c1 => ?_) (z_ne (a := up) ⟨by omega, by omega⟩ fun c1 => ?_)
      · refine i_229_205 (x := Int32.ofInt up) l6 ?_
        refine i_229_207 (z_ne (a := up) ⟨by omega, by omega⟩ fun c2 => absurd c2 (by omega)) (z_eq (a := up) ⟨by omega, by omega⟩ fun c2 => ?_)
        refine i_229_210 (x := Int32.ofInt dn) l7 ?_
        refine i_229_212 (z_eq (a := dn) ⟨by omega, by omega⟩ fun c3 => ?_) (z_ne (a := dn) ⟨by omega, by omega⟩ fun c3 => ?_)
        · refine i_229_224 (x := 128) l0 ?_
          refine i_229_225 (x := Int32.ofInt e) l5 ?_
          have hobj := hR.c128
          obtain ⟨w, S1, V1, hrun, hR, hS⟩ := t_open (d := d + 4) (e := e) hR nS.refl nV.refl
          refine i_229_227 hobj (Nat.le_of_ble_eq_true rfl) hrun ?_
          refine i_229_230 (x := Int32.ofInt f) l2 ?_
          refine i_229_231 rfl ?_
          refine lgen1 (i := 9) (v := Value.int (Int32.ofInt f)) (fun lv lg ls => ?_)
          replace l0 := lg 0 _ rfl rfl l0
          replace l1 := lg 1 _ rfl rfl l1
          replace l2 := lg 2 _ rfl rfl l2
          replace l3 := lg 3 _ rfl rfl l3
          replace l4 := lg 4 _ rfl rfl l4
          replace l5 := lg 5 _ rfl rfl l5
          replace l6 := lg 6 _ rfl rfl l6
          replace l7 := lg 7 _ rfl rfl l7
          replace l8 := lg 8 _ rfl rfl l8
          have l9 := ls
          have hkd : hid (∀ k : Nat, (k : Int) < n → S 154 (f + (k : Int)).toNat = 2 ∨ S 154 (f + (k : Int)).toNat = 3) := by
            intro k hk
            have T := tR1 hI hf (k := k) (by omega)
            obtain ⟨-, m1, m3, m4⟩ := tR_mono hI hf (show k + 1 ≤ n.toNat by omega) (by omega)
            obtain ⟨c1, -, c3, c4, -⟩ := okT_f (okT_R hI hf (k + 1) (by omega))
            obtain ⟨hp_a, hk_a, hn_a, -⟩ := hI.1 (f + (k : Int)).toNat (by omega)
            have u1 : (tkR S V f (k + 1)).1 = _ := T.1
            have u3 : (tkR S V f (k + 1)).2.2.1 = _ := T.2.2.1
            have u4 : (tkR S V f (k + 1)).2.2.2.1 = _ := T.2.2.2.1
            clear T
            have n0 : S 154 (f + (k : Int)).toNat ≠ 0 := fun h => by rw [if_pos h] at u1; omega
            have n1 : S 154 (f + (k : Int)).toNat ≠ 1 := fun h => by
              rcases hn_a with g | g
              · rw [if_pos ⟨h, g⟩] at u3; omega
              · rw [if_pos ⟨h, by omega⟩] at u4; omega
            omega
          refine sm_2 (E := e) hI hr hf hn hfn he hkd ?_ n.toNat 0 (by omega) hR hS rfl rfl rfl rfl rfl l0 l1 l2 l3 l4 (by rw [show f + ((0 : Nat) : Int) = f by omega]; exact l9)
          clear hR hS
          intro lv w S1 V1 hR hS l0 l1 l2 l3 l4
          obtain ⟨hPb, hNb⟩ := pM_b (E := e) hox ⟨by omega, by omega⟩ ⟨by rw [he]; exact (eM_b hox).1, Int.le_of_eq he⟩
          refine i_229_296 (x := 128) l0 ?_
          refine i_229_297 (x := Int32.ofInt r) l1 ?_
          refine i_229_298 (x := Int32.ofInt mode) l4 ?_
          have hobj := hR.c128
          obtain ⟨w, hrun, S2, V2, hR, hP⟩ := t_close (d := d + 2) (r := r) (mode := mode) hR hS hI (by omega) (by omega) (by exact ⟨by split <;> omega, b6, b7⟩) (by omega) (by omega) (by intro hne; refine ⟨by rw [he]; have := (eM_b hox).1; omega, ?_⟩; rw [he]; refine Int.le_trans ((eM_b hox).2.2 fun z0 => hne ?_) (by decide); unfold pM qM; rw [if_pos z0, if_pos z0])
          refine i_229_300 hobj (Nat.le_of_ble_eq_true rfl) hrun ?_
          refine i_229_303 ?_
          have eo : sFinT (S 153 r.toNat) (S 128 17) (S 128 18) (S 128 20) (S 128 19) mode (tkR S V f n.toNat) = sumS (S 153 r.toNat) (S 128 17) (S 128 18) (S 128 20) (S 128 19) mode (pM (tkR S V f n.toNat) e) (qM (tkR S V f n.toNat) e) e (if (tkR S V f n.toNat).2.2.2.2.2.2.2.1 = 0 then 1 else 0) ((tkR S V f n.toNat).2.2.2.2.2.2.2.2.1) ((tkR S V f n.toNat).2.2.2.2.2.2.2.2.2) := by
            rw [finR hox, if_neg (by omega), if_neg (by omega), if_neg (by omega), he]
          rw [eo]
          exact ⟨rfl, _, _, hR, hP⟩
        · refine i_229_215 (x := 128) l0 ?_
          refine i_229_216 (x := Int32.ofInt r) l1 ?_
          refine i_229_217 ?_
          refine i_229_218 (x := Int32.ofInt dn) l7 ?_
          have hobj := hR.c128
          obtain ⟨w, hrun, hR⟩ := s_special (d := d + 6) (r := r) (k := 1) (s := dn) hR (by omega) (by omega) (by omega)
          refine i_229_220 hobj (Nat.le_of_ble_eq_true rfl) hrun ?_
          refine i_229_223 ?_
          have eo : sFinT (S 153 r.toNat) (S 128 17) (S 128 18) (S 128 20) (S 128 19) mode (tkR S V f n.toNat) = oS 1 dn (S 128 19) := by
            rw [finR hox]
            rw [if_neg (by omega), if_neg (by omega), if_pos (by omega), ← hd]
          rw [eo]
          exact ⟨rfl, _, _, hR, oP_special (by omega) (by decide) nS.refl nV.refl rfl⟩
      · refine i_229_194 (x := Int32.ofInt dn) l7 ?_
        refine i_229_196 (z_eq (a := dn) ⟨by omega, by omega⟩ fun c4 => ?_) (z_ne (a := dn) ⟨by omega, by omega⟩ fun c4 => ?_)
        · refine i_229_205 (x := Int32.ofInt up) l6 ?_
          refine i_229_207 (z_ne (a := up) ⟨by omega, by omega⟩ fun c5 => ?_) (z_eq (a := up) ⟨by omega, by omega⟩ fun c5 => absurd c5 (by omega))
          refine i_229_215 (x := 128) l0 ?_
          refine i_229_216 (x := Int32.ofInt r) l1 ?_
          refine i_229_217 ?_
          refine i_229_218 (x := Int32.ofInt dn) l7 ?_
          have hobj := hR.c128
          obtain ⟨w, hrun, hR⟩ := s_special (d := d + 6) (r := r) (k := 1) (s := dn) hR (by omega) (by omega) (by omega)
          refine i_229_220 hobj (Nat.le_of_ble_eq_true rfl) hrun ?_
          refine i_229_223 ?_
          have eo : sFinT (S 153 r.toNat) (S 128 17) (S 128 18) (S 128 20) (S 128 19) mode (tkR S V f n.toNat) = oS 1 dn (S 128 19) := by
            rw [finR hox]
            rw [if_neg (by omega), if_neg (by omega), if_pos (by omega), ← hd]
          rw [eo]
          exact ⟨rfl, _, _, hR, oP_special (by omega) (by decide) nS.refl nV.refl rfl⟩
        · refine i_229_199 (x := 128) l0 ?_
          refine i_229_200 (x := Int32.ofInt r) l1 ?_
          have hobj := hR.c128
          obtain ⟨w, hrun, hR⟩ := s_invalid (d := d + 5) (r := r) hR (by omega) (by omega)
          refine i_229_201 hobj (Nat.le_of_ble_eq_true rfl) hrun ?_
          refine i_229_204 ?_
          have eo : sFinT (S 153 r.toNat) (S 128 17) (S 128 18) (S 128 20) (S 128 19) mode (tkR S V f n.toNat) = oS 0 0 (zor (S 128 19) 8) := by
            rw [finR hox]
            rw [if_neg (by omega), if_pos (Or.inr ⟨by omega, by omega⟩)]
          rw [eo]
          exact ⟨rfl, _, _, hR, oP_flag (by omega) (by decide) nS.refl nV.refl rfl⟩
    · refine i_229_181 (x := 128) l0 ?_
      refine i_229_182 (x := Int32.ofInt r) l1 ?_
      refine i_229_183 ?_
      refine i_229_184 ?_
      have hobj := hR.c128
      obtain ⟨w, hrun, hR⟩ := s_special (d := d + 6) (r := r) (k := 0) (s := 0) hR (by omega) (by omega) (by omega)
      refine i_229_185 hobj (Nat.le_of_ble_eq_true rfl) hrun ?_
      refine i_229_188 ?_
      have eo : sFinT (S 153 r.toNat) (S 128 17) (S 128 18) (S 128 20) (S 128 19) mode (tkR S V f n.toNat) = oS 0 0 (S 128 19) := by
        rw [finR hox]
        rw [if_pos (by omega)]
      rw [eo]
      exact ⟨rfl, _, _, hR, oP_special (by omega) (by decide) nS.refl nV.refl rfl⟩
  obtain ⟨o, w', h1, rfl, h2⟩ := key.run
  exact ⟨w', h1, h2⟩
theorem b_sum {d : Nat} {w : xW} {r f n mode : Int} (b_r : -2147483648 ≤ r ∧ r < 2147483648) (b_f : -2147483648 ≤ f ∧ f < 2147483648) (b_n : -2147483648 ≤ n ∧ n < 2147483648) (b_mode : -2147483648 ≤ mode ∧ mode < 2147483648) (h : ¬ ((0 ≤ r ∧ r ≤ 15) ∧ (0 ≤ f ∧ f ≤ 15) ∧ (1 ≤ n ∧ n ≤ 16) ∧ f + n ≤ 16 ∧ (0 ≤ mode ∧ mode ≤ 4))) : xRun (d + 8) 229 [Value.ref 128, Value.int (Int32.ofInt r), Value.int (Int32.ofInt f), Value.int (Int32.ofInt n), Value.int (Int32.ofInt mode)] w (.inr w.length) (w ++ [.inr (14, [])]) := by
  refine xRun.of ?_
  refine i_229_0 (x := Int32.ofInt r) rfl ?_
  rcases Classical.em (0 ≤ r ∧ r ≤ 15) with hc1 | hc1
  · have hrun := s_reg1 (d := d + 5) (w := w) (r := r) (by omega) hc1
    refine i_229_1 (Nat.le_of_ble_eq_true rfl) hrun ?_
    refine i_229_4 (x := Int32.ofInt f) rfl ?_
    rcases Classical.em (0 ≤ f ∧ f ≤ 15) with hc2 | hc2
    · have hrun := s_reg1 (d := d + 5) (w := w) (r := f) (by omega) hc2
      refine i_229_5 (Nat.le_of_ble_eq_true rfl) hrun ?_
      refine i_229_8 (x := Int32.ofInt n) rfl ?_
      refine i_229_9 ?_
      refine i_229_10 ?_
      have hrun := s_in (d := d + 6) (w := w) (v := n) (lo := 1) (hi := 16) ⟨by omega, by omega⟩ ⟨by decide, by decide⟩ ⟨by decide, by decide⟩
      refine i_229_12 (Nat.le_of_ble_eq_true rfl) hrun ?_
      refine i_229_15 (zb_f fun c2 => ?_) (zb_t fun c2 => ?_)
      · try simp only [decide_eq_true_eq] at *
        refine i_229_30 ?_
        have hrun := s_ck0 (d := d + 1) (w := w) (b := false) rfl
        refine j_229_31 (Nat.le_of_ble_eq_true rfl) hrun (xDone.t (ci := 14) xgl rfl rfl ?_)
        exact ⟨rfl, rfl⟩
      · try simp only [decide_eq_true_eq] at *
        refine i_229_18 (x := Int32.ofInt f) rfl ?_
        refine i_229_19 (x := Int32.ofInt n) rfl ?_
        refine i_229_20 (c := Int32.ofInt (f + n)) (o_add f n) ?_
        refine i_229_21 ?_
        refine i_229_23 (b_lt (a := 16) (b := f + n) ⟨by decide, by decide⟩ ⟨by omega, by omega⟩ fun c3 => ?_) (b_le (a := f + n) (b := 16) ⟨by omega, by omega⟩ ⟨by decide, by decide⟩ fun c3 => ?_)
        · refine i_229_30 ?_
          have hrun := s_ck0 (d := d + 1) (w := w) (b := false) rfl
          refine j_229_31 (Nat.le_of_ble_eq_true rfl) hrun (xDone.t (ci := 14) xgl rfl rfl ?_)
          exact ⟨rfl, rfl⟩
        · refine i_229_26 ?_
          refine i_229_27 ?_
          have hrun := s_ck1 (d := d + 6) (w := w) (b := true) rfl
          refine i_229_31 (Nat.le_of_ble_eq_true rfl) hrun ?_
          refine i_229_34 (x := Int32.ofInt mode) rfl ?_
          rcases Classical.em (0 ≤ mode ∧ mode ≤ 4) with hc5 | hc5
          · have hrun := s_mode1 (d := d + 5) (w := w) (r := mode) (by omega) hc5
            refine i_229_36 (Nat.le_of_ble_eq_true rfl) hrun ?_
            exfalso; omega
          · have hrun := s_mode0 (d := d) (w := w) (r := mode) (by omega) hc5
            refine j_229_36 (Nat.le_of_ble_eq_true rfl) hrun (xDone.t (ci := 14) xgl rfl rfl ?_)
            exact ⟨rfl, rfl⟩
    · have hrun := s_reg0 (d := d) (w := w) (r := f) (by omega) hc2
      refine j_229_5 (Nat.le_of_ble_eq_true rfl) hrun (xDone.t (ci := 14) xgl rfl rfl ?_)
      exact ⟨rfl, rfl⟩
  · have hrun := s_reg0 (d := d) (w := w) (r := r) (by omega) hc1
    refine j_229_1 (Nat.le_of_ble_eq_true rfl) hrun (xDone.t (ci := 14) xgl rfl rfl ?_)
    exact ⟨rfl, rfl⟩
end
