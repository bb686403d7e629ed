/-! what a call of the class leaves: registers, range and tape as they were but for the target -/
def bif' (b : Bool) (x y : Int) : Int := bif b then x else y
/-- the class's state as the reference's fields -/
def vS (S : Nat → Nat → Int) (a j : Nat) : Int := bif Nat.beq a 153 then S (30 + 3 * j) 0 else bif Nat.beq a 154 then S (30 + 3 * j) 1 else bif Nat.beq a 155 then S (30 + 3 * j) 3 else bif Nat.beq a 156 then S (30 + 3 * j) 2 else bif Nat.beq a 128 then (bif Nat.beq j 17 then S 78 0 else bif Nat.beq j 18 then S 78 1 else bif Nat.beq j 19 then S 78 3 else bif Nat.beq j 20 then S 78 2 else 0) else 0
def vV (V : Nat → Nat) (k : Nat) : Nat := V (30 + 3 * ((k - 160) / 2) + 1)
theorem vV_r {V : Nat → Nat} {r : Nat} : vV V (160 + 2 * r) = V (30 + 3 * r + 1) := by
  unfold vV
  rw [show (160 + 2 * r - 160) / 2 = r by omega]
def cKeep (b : Nat) : Prop := (30 ≤ b ∧ b ≤ 78) ∨ b = 7 ∨ b = 29 ∨ b = 114 ∨ b = 9 ∨ b = 10
/-- the power's two naturals -/
def pwP (S : Nat → Nat → Int) : Prop := (S 79 0 = 80 ∧ S 79 1 = 82) ∨ (S 79 0 = 82 ∧ S 79 1 = 80)
def kp (S S1 : Nat → Nat → Int) : Prop := S1 113 3 = S 113 3 ∧ (pwP S → pwP S1)
theorem kp.refl {S : Nat → Nat → Int} : kp S S := ⟨rfl, id⟩
theorem kp.trans {S S1 S2 : Nat → Nat → Int} (h : kp S S1) (g : kp S1 S2) : kp S S2 := ⟨g.1.trans h.1, fun x => g.2 (h.2 x)⟩
theorem kp.of3 {S S1 : Nat → Nat → Int} (h1 : S1 113 3 = S 113 3) (h2 : S1 79 0 = S 79 0) (h3 : S1 79 1 = S 79 1) : kp S S1 := ⟨h1, fun h => by unfold pwP at h ⊢; rw [h2, h3]; exact h⟩
theorem kp.up {S S1 : Nat → Nat → Int} {b j : Nat} {v : Int} (h : kp S S1) (h2 : (b ≠ 113 ∨ j ≠ 3) ∧ b ≠ 79) : kp S (u2 S1 b j v) := h.trans (kp.of3 (by rw [u2_eq, if_neg (by omega)]) (by rw [u2_eq, if_neg (by omega)]) (by rw [u2_eq, if_neg (by omega)]))
/-- scratch alone has changed -/
def nC (S S1 : Nat → Nat → Int) : Prop := (∀ b j, cKeep b → S1 b j = S b j) ∧ kp S S1
def nW (V V1 : Nat → Nat) : Prop := ∀ k, 30 ≤ k → k ≤ 77 → V1 k = V k
theorem nC.refl {S : Nat → Nat → Int} : nC S S := ⟨fun _ _ _ => rfl, kp.refl⟩
theorem nW.refl {V : Nat → Nat} : nW V V := fun _ _ _ => rfl
theorem nC.up {S S1 : Nat → Nat → Int} {b j : Nat} {v : Int} (h : nC S S1) (hb : ¬ cKeep b) (h2 : (b ≠ 113 ∨ j ≠ 3) ∧ b ≠ 79) : nC S (u2 S1 b j v) := by
  refine ⟨fun a k ha => ?_, ?_⟩
  · rw [u2_eq, if_neg (fun e : a = b ∧ k = j => hb (e.1 ▸ ha))]; exact h.1 a k ha
  · exact h.2.up h2
theorem nW.up {V V1 : Nat → Nat} {k v : Nat} (h : nW V V1) (hk : k < 30 ∨ 77 < k) : nW V (uv V1 k v) := fun a h1 h2 => by rw [uv_n (by omega)]; exact h a h1 h2
/-- what an operation with the target t leaves -/
def cOut (S S' : Nat → Nat → Int) (V V' : Nat → Nat) (t : Nat) (o : OO) : Prop :=
  S' t 1 = o.1 ∧ (o.1 ≠ 0 → S' t 2 = o.2.1) ∧ (S' t 2 = 0 ∨ S' t 2 = 1) ∧ (o.1 = 3 → S' t 3 = o.2.2.1 ∧ V' (t + 1) = o.2.2.2.1) ∧ S' 78 3 = o.2.2.2.2.2 ∧
  (∀ b j, cKeep b → ¬ (b = t ∧ (j = 1 ∨ j = 2 ∨ j = 3)) → ¬ (b = 78 ∧ j = 3) → S' b j = S b j) ∧ kp S S' ∧ ∀ k, 30 ≤ k → k ≤ 77 → k ≠ t + 1 → V' k = V k
/-- between calls -/
def cI (S : Nat → Nat → Int) (V : Nat → Nat) : Prop := (∀ r, r < 16 → (2 ≤ S (30 + 3 * r) 0 ∧ S (30 + 3 * r) 0 ≤ 4096) ∧ (0 ≤ S (30 + 3 * r) 1 ∧ S (30 + 3 * r) 1 ≤ 3) ∧ (S (30 + 3 * r) 2 = 0 ∨ S (30 + 3 * r) 2 = 1) ∧ (S (30 + 3 * r) 1 ≠ 3 ∨ (-20479 ≤ S (30 + 3 * r) 3 ∧ S (30 + 3 * r) 3 ≤ 16384)) ∧ (S (30 + 3 * r) 1 ≠ 3 ∨ xbl (V (30 + 3 * r + 1)) ≤ 4096) ∧ hid (S (30 + 3 * r) 1 = 3 → (xbl (V (30 + 3 * r + 1)) : Int) = S (30 + 3 * r) 0)) ∧
  (-16384 ≤ S 78 0 ∧ S 78 0 ≤ S 78 1 ∧ S 78 1 ≤ 16384) ∧ (S 78 2 = 0 ∨ S 78 2 = 1) ∧ ((S 79 0 = 80 ∧ S 79 1 = 82) ∨ (S 79 0 = 82 ∧ S 79 1 = 80)) ∧ (0 ≤ S 7 11 ∧ S 7 11 ≤ 4096) ∧ (S 9 0 = -1021 ∧ S 9 1 = 1024 ∧ S 9 2 = 1 ∧ S 10 0 = 53)
section
variable {S S1 S' : Nat → Nat → Int} {V V1 V' : Nat → Nat} {t r : Nat} {sg : Int}
theorem keep_t (h : 30 ≤ t ∧ t ≤ 78) : cKeep t := Or.inl h
theorem nC.cI (h : nC S S1) (h2 : nW V V1) (hI : cI S V) : cI S1 V1 := by
  obtain ⟨i1, i2, i3, i4, i5, i6⟩ := hI
  refine ⟨fun r hr => ?_, ?_, ?_, ?_, ?_, ?_⟩
  · have e : ∀ j, S1 (30 + 3 * r) j = S (30 + 3 * r) j := fun j => h.1 _ j (Or.inl (by omega))
    rw [e, e, e, e, h2 _ (by omega) (by omega)]
    exact i1 r hr
  · rw [h.1 78 0 (Or.inl (by omega)), h.1 78 1 (Or.inl (by omega))]; exact i2
  · rw [h.1 78 2 (Or.inl (by omega))]; exact i3
  · exact h.2.2 i4
  · rw [h.1 7 11 (Or.inr (Or.inl rfl))]; exact i5
  · rw [h.1 9 0 (by unfold cKeep; omega), h.1 9 1 (by unfold cKeep; omega), h.1 9 2 (by unfold cKeep; omega), h.1 10 0 (by unfold cKeep; omega)]; exact i6
theorem cP_round {p least greatest gradual mode more : Int} {m : Nat} {e f : Int} (hP : sP S1 S' V1 V' 78 t sg (rnd p least greatest gradual 0 sg mode more m e f)) (hs : sg = 0 ∨ sg = 1) (h1 : nC S S1) (h2 : nW V V1) (ht : 30 ≤ t ∧ t ≤ 75) : cOut S S' V V' t (oR p least greatest gradual sg mode more m e f) := by
  obtain ⟨p1, p2, p3, p4, p5, p6⟩ := hP
  refine ⟨p1, fun _ => p2, by rw [p2]; exact hs, p3, p4, fun b j hb g1 g2 => ?_, ?_, fun k k1 k2 k3 => ?_⟩
  · rw [p5 b j g1 g2]; exact h1.1 b j hb
  · exact h1.2.trans (kp.of3 (p5 113 3 (fun e => by omega) (fun e => by omega)) (p5 79 0 (fun e => by omega) (fun e => by omega)) (p5 79 1 (fun e => by omega) (fun e => by omega)))
  · rw [p6 k k3]; exact h2 k k1 k2
theorem cP_special {k f : Int} (hs : sg = 0 ∨ sg = 1) (hk : k ≠ 3) (h1 : nC S S1) (h2 : nW V V1) (hf : S 78 3 = f) (ht : 30 ≤ t ∧ t ≤ 75) : cOut S (u2 (u2 S1 t 1 k) t 2 sg) V V1 t (oS k sg f) := by
  refine ⟨by rw [u2_eq, if_neg (by omega), u2_eq, if_pos ⟨rfl, rfl⟩]; rfl, fun _ => by rw [u2_eq, if_pos ⟨rfl, rfl⟩]; rfl, by rw [u2_eq, if_pos ⟨rfl, rfl⟩]; exact hs, fun e => absurd e hk, ?_, fun b j hb g1 g2 => ?_, ?_, fun k k1 k2 _ => h2 k k1 k2⟩
  · rw [u2_eq, if_neg (by omega), u2_eq, if_neg (by omega), h1.1 78 3 (Or.inl (by omega)), hf]; rfl
  · rw [u2_eq, if_neg (fun e => g1 ⟨e.1, by rw [e.2]; decide⟩), u2_eq, if_neg (fun e => g1 ⟨e.1, by rw [e.2]; decide⟩)]; exact h1.1 b j hb
  · exact (h1.2.up (by omega)).up (by omega)
theorem cP_flag {k f c : Int} (hs : sg = 0 ∨ sg = 1) (hk : k ≠ 3) (h1 : nC S S1) (h2 : nW V V1) (ht : 30 ≤ t ∧ t ≤ 75) : cOut S (u2 (u2 (u2 S1 78 3 (zor f c)) t 1 k) t 2 sg) V V1 t (oS k sg (zor f c)) := by
  refine ⟨by rw [u2_eq, if_neg (by omega), u2_eq, if_pos ⟨rfl, rfl⟩]; rfl, fun _ => by rw [u2_eq, if_pos ⟨rfl, rfl⟩]; rfl, by rw [u2_eq, if_pos ⟨rfl, rfl⟩]; exact hs, fun e => absurd e hk, ?_, fun b j hb g1 g2 => ?_, ?_, fun k k1 k2 _ => h2 k k1 k2⟩
  · rw [u2_eq, if_neg (by omega), u2_eq, if_neg (by omega), u2_eq, if_pos ⟨rfl, rfl⟩]; rfl
  · rw [u2_eq, if_neg (fun e => g1 ⟨e.1, by rw [e.2]; decide⟩), u2_eq, if_neg (fun e => g1 ⟨e.1, by rw [e.2]; decide⟩), u2_eq, if_neg g2]; exact h1.1 b j hb
  · exact ((h1.2.up (by omega)).up (by omega)).up (by omega)
end
