/-! the reference's world: values of its naturals, its fields, its rows -/
def ncap (h : Nat) : Nat := if h < 153 then 4700 else 140
def isN (h : Nat) : Prop := (129 ≤ h ∧ h ≤ 151 ∧ h % 2 = 1) ∨ (160 ≤ h ∧ h ≤ 192 ∧ h % 2 = 0)
/-- a natural of the reference at h with the value v -/
def nN (w : xW) (h v : Nat) : Prop := ∃ n g, w[h]? = some (.inr (13, [.ref (h + 1), .int (Int32.ofNat n)])) ∧ w[h + 1]? = some (.inl (0, ncap h, g)) ∧ n ≤ ncap h ∧ (∀ j, j < n → xiw g j) ∧ xvl g n = v ∧ (n = 0 ∨ xwd g (n - 1) ≠ 0)
def u1 (f : Nat → Int) (k : Nat) (v : Int) : Nat → Int := fun j => bif Nat.beq j k then v else f j
def u2 (S : Nat → Nat → Int) (a r : Nat) (v : Int) : Nat → Nat → Int := fun b => bif Nat.beq b a then u1 (S a) r v else S b
def uv (V : Nat → Nat) (k v : Nat) : Nat → Nat := fun j => bif Nat.beq j k then v else V j
/-- the fields of the reference -/
def mf (s : Nat → Int) : List Value := [Value.ref 129, Value.ref 131, Value.ref 133, Value.ref 135, Value.ref 137, Value.ref 139, Value.ref 141, Value.ref 143, Value.ref 145, Value.ref 147, Value.ref 149, Value.ref 151, Value.ref 153, Value.ref 154, Value.ref 155, Value.ref 156, Value.ref 157, Value.int (Int32.ofInt (s 17)), Value.int (Int32.ofInt (s 18)), Value.int (Int32.ofInt (s 19)), Value.int (Int32.ofInt (s 20)), Value.int (Int32.ofInt (s 21)), Value.ref 158, Value.ref 159, Value.int (Int32.ofInt (s 24)), Value.int (Int32.ofInt (s 25)), Value.int (Int32.ofInt (s 26)), Value.int (Int32.ofInt (s 27)), Value.int (Int32.ofInt (s 28)), Value.int (Int32.ofInt (s 29)), Value.int (Int32.ofInt (s 30)), Value.int (Int32.ofInt (s 31))]
def mrow (s : Nat → Int) : Nat → Value := fun j => .int (Int32.ofInt (s j))
/-- the rows: tag and length -/
def isA (a t n : Nat) : Prop := (a = 153 ∧ t = 0 ∧ n = 17) ∨ (a = 154 ∧ t = 0 ∧ n = 17) ∨ (a = 155 ∧ t = 0 ∧ n = 17) ∨ (a = 156 ∧ t = 2 ∧ n = 17) ∨ (a = 158 ∧ t = 1 ∧ n = 4096) ∨ (a = 159 ∧ t = 1 ∧ n = 5000)
def mR (w0 : xW) (S : Nat → Nat → Int) (V : Nat → Nat) (w : xW) : Prop :=
  (w.length = w0.length ∧ xsz w = xsz w0 ∧ ∀ k, k < 128 ∨ 194 ≤ k → w[k]? = w0[k]?) ∧ w[128]? = some (.inr (12, mf (S 128))) ∧ (∀ a t n, isA a t n → w[a]? = some (.inl (t, n, mrow (S a)))) ∧ (∃ gp, w[157]? = some (.inl (5, 17, gp)) ∧ ∀ j, j < 17 → gp j = .ref (160 + 2 * j)) ∧ ∀ h, isN h → nN w h (V h)
section
variable {f : Nat → Int} {S : Nat → Nat → Int} {V : Nat → Nat} {k j a b r : Nat} {v : Int} {u : Nat}
theorem beq_ne (h : j ≠ k) : Nat.beq j k = false := by
  cases e : Nat.beq j k with
  | false => rfl
  | true => exact absurd (Nat.eq_of_beq_eq_true e) h
theorem u1_s : u1 f k v k = v := by unfold u1; rw [Nat.beq_refl]; rfl
theorem u1_n (h : j ≠ k) : u1 f k v j = f j := by unfold u1; rw [beq_ne h]; rfl
theorem u1_e : u1 f k v j = if j = k then v else f j := by
  split
  · rename_i h; subst h; exact u1_s
  · rename_i h; exact u1_n h
theorem u2_s : u2 S a r v a = u1 (S a) r v := by unfold u2; rw [Nat.beq_refl]; rfl
theorem u2_n (h : b ≠ a) : u2 S a r v b = S b := by unfold u2; rw [beq_ne h]; rfl
theorem uv_s : uv V k u k = u := by unfold uv; rw [Nat.beq_refl]; rfl
theorem uv_n (h : j ≠ k) : uv V k u j = V j := by unfold uv; rw [beq_ne h]; rfl
theorem mrow_up {z : Int32} (h : Int32.ofInt v = z) : xup (mrow f) k (.int z) = mrow (u1 f k v) := by
  subst h
  funext j
  unfold xup mrow u1
  cases Nat.beq j k <;> rfl
end
/-- ints as integers -/
theorem oI {k : Int} (h0 : -2147483648 ≤ k) (h1 : k < 2147483648) : (Int32.ofInt k).toInt = k := Int32.toInt_ofInt_of_le (by omega) (by omega)
theorem oN {k : Int} (h : 0 ≤ k) : Int32.ofInt k = Int32.ofNat k.toNat := by
  obtain ⟨n, rfl⟩ := Int.eq_ofNat_of_zero_le h
  exact Int32.ofInt_eq_ofNat
theorem oNn {k : Nat} : Int32.ofInt (k : Int) = Int32.ofNat k := Int32.ofInt_eq_ofNat
theorem o_add (a b : Int) : Int32.ofInt a + Int32.ofInt b = Int32.ofInt (a + b) := (Int32.ofInt_add a b).symm
theorem o_sub (a b : Int) : Int32.ofInt a - Int32.ofInt b = Int32.ofInt (a - b) := (Int32.ofInt_sub a b).symm
theorem o_mul (a b : Int) : Int32.ofInt a * Int32.ofInt b = Int32.ofInt (a * b) := (Int32.ofInt_mul a b).symm
theorem o_neg (a : Int) : -Int32.ofInt a = Int32.ofInt (-a) := (Int32.ofInt_neg a).symm
theorem o_bool {b : Int} (h : b = 0 ∨ b = 1) : xok .boolean (.int (Int32.ofInt b)) = true := by
  rcases h with rfl | rfl <;> rfl
section
variable {w0 w : xW} {S : Nat → Nat → Int} {V : Nat → Nat}
theorem isN.ne {h : Nat} (hh : isN h) : h ≠ 128 ∧ h ≠ 157 ∧ h + 1 ≠ 128 ∧ h + 1 ≠ 157 ∧ 7 ≤ h ∧ h + 1 < 194 ∧ 128 ≤ h := by unfold isN at hh; omega
theorem isA.ne {a t n : Nat} (ha : isA a t n) : a ≠ 128 ∧ a ≠ 157 ∧ 7 ≤ a ∧ a < 194 ∧ 128 ≤ a := by unfold isA at ha; omega
theorem isA.apart {a t n h : Nat} (ha : isA a t n) (hh : isN h) : h ≠ a ∧ h + 1 ≠ a := by
  unfold isN at hh
  unfold isA at ha
  omega
theorem isN.two {h k : Nat} (hh : isN h) (hk : isN k) (e : h ≠ k) : h ≠ k + 1 ∧ h + 1 ≠ k := by
  unfold isN at hh hk
  omega
theorem isN.self {h : Nat} (hh : isN h) : h ≠ h + 1 ∧ ncap h < 67108864 ∧ 140 ≤ ncap h := by
  refine ⟨by omega, ?_⟩
  unfold ncap
  split <;> omega
/-- a natural set anew -/
theorem mR.nat {h n' : Nat} {g' : Nat → Value} (hR : mR w0 S V w) (hh : isN h) (h1 : n' ≤ ncap h) (h2 : ∀ j, j < n' → xiw g' j) (h4 : n' = 0 ∨ xwd g' (n' - 1) ≠ 0) : mR w0 S (uv V h (xvl g' n')) (xput w h (h + 1) (ncap h) n' g') := by
  obtain ⟨⟨l1, l2, l3⟩, c1, c2, c3, c4⟩ := hR
  obtain ⟨n, g, e1, e2, -⟩ := c4 h hh
  have hn := hh.ne
  have hs := hh.self
  have eo : ∀ k, h ≠ k → h + 1 ≠ k → (xput w h (h + 1) (ncap h) n' g')[k]? = w[k]? := fun k => xput_o
  refine ⟨⟨?_, ?_, fun k hk => (eo k (by omega) (by omega)).trans (l3 k hk)⟩, (eo _ hn.1 hn.2.2.1).trans c1, fun a t m ha => ?_, ?_, fun k hk => ?_⟩
  · unfold xput
    rw [List.length_set, List.length_set]
    exact l1
  · unfold xput
    exact ((xsz_set (c := .inr (13, [.ref (h + 1), .int (Int32.ofNat n)])) (c' := .inr (13, [.ref (h + 1), .int (Int32.ofNat n')])) rfl (xgn (fun e => hs.1 e.symm) e1)).trans (xsz_set (c := .inl (0, ncap h, g)) (c' := .inl (0, ncap h, g')) rfl e2)).trans l2
  · have := ha.apart hh
    exact (eo a this.1 this.2).trans (c2 a t m ha)
  · obtain ⟨gp, p1, p2⟩ := c3
    exact ⟨gp, (eo _ hn.2.1 hn.2.2.2.1).trans p1, p2⟩
  · by_cases e : h = k
    · subst e
      refine ⟨n', g', xput_h e1 hs.1, xput_a e2 hs.1, h1, h2, ?_, h4⟩
      rw [uv_s]
    · obtain ⟨m, f, f1, f2, f3⟩ := c4 k hk
      have t := hh.two hk e
      refine ⟨m, f, (eo k e t.2).trans f1, (eo (k + 1) t.1 (by omega)).trans f2, ?_⟩
      rw [uv_n (fun e2 => e e2.symm)]
      exact f3
theorem mR.natV {h n' v : Nat} {g' : Nat → Value} (hR : mR w0 S V w) (hh : isN h) (h1 : n' ≤ ncap h) (h2 : ∀ j, j < n' → xiw g' j) (h3 : xvl g' n' = v) (h4 : n' = 0 ∨ xwd g' (n' - 1) ≠ 0) : mR w0 S (uv V h v) (xput w h (h + 1) (ncap h) n' g') := h3 ▸ hR.nat hh h1 h2 h4
/-- a field set anew -/
theorem mR.fld {k : Nat} {v : Int} (hR : mR w0 S V w) : mR w0 (u2 S 128 k v) V (w.set 128 (.inr (12, mf (u2 S 128 k v 128)))) := by
  obtain ⟨⟨l1, l2, l3⟩, c1, c2, c3, c4⟩ := hR
  refine ⟨⟨by rw [List.length_set]; exact l1, ?_, fun k hk => (xgn (by omega) (l3 k hk))⟩, xgs c1, fun a t m ha => ?_, ?_, fun k hk => ?_⟩
  · exact (xsz_set (c := .inr (12, mf (S 128))) (c' := .inr (12, mf (u2 S 128 k v 128))) rfl c1).trans l2
  · rw [u2_n ha.ne.1]
    exact xgn (fun e => ha.ne.1 e.symm) (c2 a t m ha)
  · obtain ⟨gp, p1, p2⟩ := c3
    exact ⟨gp, xgn (by decide) p1, p2⟩
  · obtain ⟨m, f, f1, f2, f3⟩ := c4 k hk
    exact ⟨m, f, xgn (fun e => hk.ne.1 e.symm) f1, xgn (fun e => hk.ne.2.2.1 e.symm) f2, f3⟩
/-- an element set anew -/
theorem mR.arr {a t n r : Nat} {v : Int} {z : Int32} (hR : mR w0 S V w) (ha : isA a t n) (hz : Int32.ofInt v = z) : mR w0 (u2 S a r v) V (w.set a (.inl (t, n, xup (mrow (S a)) r (.int z)))) := by
  obtain ⟨⟨l1, l2, l3⟩, c1, c2, c3, c4⟩ := hR
  have hn := ha.ne
  rw [mrow_up hz]
  refine ⟨⟨by rw [List.length_set]; exact l1, ?_, fun k hk => (xgn (by omega) (l3 k hk))⟩, ?_, fun b t' m hb => ?_, ?_, fun k hk => ?_⟩
  · exact (xsz_set (c := .inl (t, n, mrow (S a))) (c' := .inl (t, n, mrow (u1 (S a) r v))) rfl (c2 a t n ha)).trans l2
  · rw [u2_n (fun e => hn.1 e.symm)]
    exact xgn hn.1 c1
  · by_cases e : a = b
    · subst e
      have e2 : t' = t ∧ m = n := by unfold isA at ha hb; omega
      rw [e2.1, e2.2, u2_s]
      exact xgs (c2 a t n ha)
    · rw [u2_n (fun e2 => e e2.symm)]
      exact xgn e (c2 b t' m hb)
  · obtain ⟨gp, p1, p2⟩ := c3
    exact ⟨gp, xgn hn.2.1 p1, p2⟩
  · obtain ⟨m, f, f1, f2, f3⟩ := c4 k hk
    have := ha.apart hk
    exact ⟨m, f, xgn (fun e => this.1 e.symm) f1, xgn (fun e => this.2 e.symm) f2, f3⟩
theorem mR.c128 (hR : mR w0 S V w) : w[128]? = some (.inr (12, mf (S 128))) := hR.2.1
theorem mR.row {a t n : Nat} (hR : mR w0 S V w) (ha : isA a t n) : w[a]? = some (.inl (t, n, mrow (S a))) := hR.2.2.1 a t n ha
theorem mR.part {j : Nat} (hR : mR w0 S V w) (hj : j < 17) : ∃ gp, w[157]? = some (.inl (5, 17, gp)) ∧ gp j = .ref (160 + 2 * j) := by
  obtain ⟨gp, p1, p2⟩ := hR.2.2.2.1
  exact ⟨gp, p1, p2 j hj⟩
theorem mR.obj {h : Nat} (hR : mR w0 S V w) (hh : isN h) : ∃ fs, w[h]? = some (.inr (13, fs)) := by
  obtain ⟨n, g, e1, -⟩ := hR.2.2.2.2 h hh
  exact ⟨_, e1⟩
/-- how many words a number has -/
theorem nsz {g : Nat → Value} {n m : Nat} (ht : n = 0 ∨ xwd g (n - 1) ≠ 0) (h : xbl (xvl g n) ≤ 30 * m) : n ≤ m := by
  rcases Nat.eq_zero_or_pos n with e | e
  · omega
  · rcases ht with h0 | h0
    · omega
    · have h1 := xbl_ge (xvl_low e h0)
      omega
theorem nszR {g : Nat → Value} {n : Nat} (ht : n = 0 ∨ xwd g (n - 1) ≠ 0) : 30 * n ≤ xbl (xvl g n) + 29 := by
  rcases Nat.eq_zero_or_pos n with e | e
  · omega
  · rcases ht with h0 | h0
    · omega
    · have h1 := xbl_ge (xvl_low e h0)
      omega
end
theorem a153 : isA 153 0 17 := Or.inl ⟨rfl, rfl, rfl⟩
theorem a154 : isA 154 0 17 := Or.inr (Or.inl ⟨rfl, rfl, rfl⟩)
theorem a155 : isA 155 0 17 := Or.inr (Or.inr (Or.inl ⟨rfl, rfl, rfl⟩))
theorem a156 : isA 156 2 17 := Or.inr (Or.inr (Or.inr (Or.inl ⟨rfl, rfl, rfl⟩)))
theorem a158 : isA 158 1 4096 := Or.inr (Or.inr (Or.inr (Or.inr (Or.inl ⟨rfl, rfl, rfl⟩))))
theorem a159 : isA 159 1 5000 := Or.inr (Or.inr (Or.inr (Or.inr (Or.inr ⟨rfl, rfl, rfl⟩))))
