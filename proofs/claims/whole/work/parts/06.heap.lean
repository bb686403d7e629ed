/-! the pure machine is sound: the heap -/
/-- an array's cell of the type with the tag t -/
def xar (s0 : State) (t : Nat) (cell : Cell) : Prop := ∃ ty, xtys[t]? = some ty ∧ s0.isArrayOf cell ty ∧ cell.vm ≠ .unknown ∧ ∀ C, ty = .object C → va_RA s0 cell.cls ty
/-- a plain object; of a String constant less is known -/
def xpl (ci : Nat) (v : VmData) : Prop := v = .none ∨ (ci = 18 ∧ v.isStatics = false ∧ v ≠ .unknown)
theorem xpl.st {ci : Nat} {v : VmData} (h : xpl ci v) : v.isStatics = false := by
  rcases h with rfl | h
  · rfl
  · exact h.2.1
theorem xpl.ns {ci : Nat} {v : VmData} (h : xpl ci v) (k : ClassId) : v ≠ .statics k := by
  intro e
  have := h.st
  rw [e] at this
  cases this
theorem xpl.un {ci : Nat} {v : VmData} (h : xpl ci v) : v ≠ .unknown := by
  rcases h with rfl | h
  · exact fun h => by cases h
  · exact h.2.2
theorem xpl.no {ci : Nat} {v : VmData} (h : xpl ci v) (hc : ci ≠ 18) : v = .none := by
  rcases h with h | h
  · exact h
  · exact absurd h.1 hc
def xOB (ci o : Nat) (cC : ClassId) (N : Nat) (iS : Nat → Nat) (H : Heap) (V : Nat → Value) : Prop :=
  ∃ cell : Cell, H[o]? = some cell ∧ cell.cls = cC ∧ xpl ci cell.vm ∧ ∀ k, k < N → cell.slots[iS k]? = some (V k)
theorem xOB.of {ci o : Nat} {cC : ClassId} {N : Nat} {iS : Nat → Nat} {H : Heap} {V : Nat → Value} (h : t_OB o cC N iS H V) : xOB ci o cC N iS H V := by
  obtain ⟨ce, h1, h2, h3, h4⟩ := h
  exact ⟨ce, h1, h2, Or.inl h3, h4⟩
theorem xOB.kept {ci o : Nat} {cC : ClassId} {N : Nat} {iS : Nat → Nat} {H H1 : Heap} {V : Nat → Value} (h : xOB ci o cC N iS H V) (h1 : H1[o]? = H[o]?) : xOB ci o cC N iS H1 V := by
  obtain ⟨ce, q, r⟩ := h
  exact ⟨ce, by rw [h1]; exact q, r⟩
def xcell (s0 : State) (D : va_G) (ad : xA) (a : Nat) (c : xC) (H : Heap) : Prop := match c with
  | .inl (t, n, g) => ∃ cell : Cell, H[a]? = some cell ∧ xar s0 t cell ∧ (n ≤ cell.slots.size ∧ cell.slots.size.toInt32 = Int32.ofNat n) ∧ ∀ j, j < n → cell.slots[j]? = some (xv ad (g j))
  | .inr (ci, fs) => ∃ r, xcl[ci]? = some r ∧ xOB ci a (D.1 ci) r.2.2 (D.2 ci) H (fun k => xv ad (vp_V fs k))
def xrel (s0 : State) (D : va_G) (ad : xA) (w : xW) (H : Heap) : Prop := ∀ h c, w[h]? = some c → xcell s0 D ad (ad.1 h) c H
/-- where the cells lie: the first X are old ones, the others lie one behind another from the end of the law's first heap -/
def xadr (ad : xA) (X base : Nat) : Prop := (∀ h, X ≤ h → ad.1 h + X = base + h) ∧ ∀ h, h < X → ad.1 h < base
theorem xadr.inj {ad : xA} {X base h h' : Nat} (A : xadr ad X base) (hX : X ≤ h) (hn : h' ≠ h) : ad.1 h' ≠ ad.1 h := by
  have h1 := A.1 h hX
  by_cases hq : X ≤ h'
  · have h2 := A.1 h' hq
    omega
  · have h2 := A.2 h' (by omega)
    omega
theorem xadr.ge {ad : xA} {X base h : Nat} (A : xadr ad X base) (hX : X ≤ h) : base ≤ ad.1 h := by
  have h1 := A.1 h hX
  omega
theorem xcell.kept {s0 : State} {D : va_G} {ad : xA} {a : Nat} {c : xC} {H H1 : Heap} (h : xcell s0 D ad a c H) (hq : H1[a]? = H[a]?) : xcell s0 D ad a c H1 := by
  match c, h with
  | .inl (t, n, g), h => obtain ⟨ce, h1, h2⟩ := h; exact ⟨ce, by rw [hq]; exact h1, h2⟩
  | .inr (ci, fs), h => obtain ⟨r, h1, h2⟩ := h; exact ⟨r, h1, h2.kept hq⟩
theorem xcell.lt {s0 : State} {D : va_G} {ad : xA} {a : Nat} {c : xC} {H : Heap} (h : xcell s0 D ad a c H) : a < H.size := by
  match c, h with
  | .inl (t, n, g), h => obtain ⟨ce, h1, h2⟩ := h; exact (Array.getElem?_eq_some_iff.mp h1).1
  | .inr (ci, fs), h => obtain ⟨r, h1, ce, h2, -⟩ := h; exact (Array.getElem?_eq_some_iff.mp h2).1
def xcs (c : xC) : Nat := match c with
  | .inl (_, n, _) => n
  | .inr (ci, _) => match xcl[ci]? with | some q => bif Nat.blt ci 14 then q.2.2 else 6 | none => 0
def xsz (w : xW) : Nat := (w.map xcs).sum
theorem xsz_push (w : xW) (c : xC) : xsz (w ++ [c]) = xsz w + xcs c := by simp [xsz]
theorem xsz_set {c c' : xC} (hc : xcs c' = xcs c) : ∀ {w : xW} {h : Nat}, w[h]? = some c → xsz (w.set h c') = xsz w
  | [], h, hw => by simp at hw
  | a :: r, 0, hw => by
    cases hw
    simp [xsz, hc]
  | a :: r, h + 1, hw => by
    have ih := xsz_set hc (w := r) (h := h) (by simpa using hw)
    simp only [xsz, List.set_cons_succ, List.map_cons, List.sum_cons] at ih ⊢
    omega
/-- the pure world w in the heap H, which the law's run from s0 has come to -/
def xB (s0 : State) (D : va_G) (ad : xA) (X : Nat) (w : xW) (H : Heap) (locs : List Loc) : Prop :=
  xrel s0 D ad w H ∧ H.size + X = s0.heap.size + w.length ∧ X ≤ w.length ∧ (∀ q : Nat, q < s0.heap.size → H[q]? = s0.heap[q]?) ∧ ∀ q ∈ locs, s0.heap.size ≤ q.base
theorem xB.set {s0 : State} {D : va_G} {ad : xA} {X : Nat} {w : xW} {H H1 : Heap} {locs : List Loc} (A : xadr ad X s0.heap.size) (B : xB s0 D ad X w H locs) {h i : Nat} {c : xC} (hX : X ≤ h) (hc : xcell s0 D ad (ad.1 h) c H1) (hz : H1.size = H.size) (ho : ∀ q, q ≠ ad.1 h → H1[q]? = H[q]?) :
    xB s0 D ad X (w.set h c) H1 (locs ++ [⟨ad.1 h, i⟩]) := by
  obtain ⟨h1, h2, h3, h4, h5⟩ := B
  refine ⟨fun h' c' hw => ?_, by rw [hz, List.length_set]; exact h2, by rw [List.length_set]; exact h3, fun q hq => ?_, fun q hq => ?_⟩
  · by_cases e : h' = h
    · subst e
      rw [List.getElem?_set] at hw
      simp only [if_true] at hw
      split at hw
      · cases hw; exact hc
      · cases hw
    · rw [List.getElem?_set_ne (Ne.symm e)] at hw
      exact (h1 h' c' hw).kept (ho _ (A.inj hX e))
  · rw [ho q (by have := A.ge hX; omega)]
    exact h4 q hq
  · rcases List.mem_append.mp hq with hq | hq
    · exact h5 q hq
    · rw [List.mem_singleton.mp hq]
      exact A.ge hX
theorem xB.push {s0 : State} {D : va_G} {ad : xA} {X : Nat} {w : xW} {H H1 : Heap} {locs : List Loc} (A : xadr ad X s0.heap.size) (B : xB s0 D ad X w H locs) {c : xC} (hc : xcell s0 D ad H.size c H1) (hz : H1.size = H.size + 1) (ho : ∀ q, q < H.size → H1[q]? = H[q]?) :
    xB s0 D ad X (w ++ [c]) H1 locs ∧ ad.1 w.length = H.size := by
  obtain ⟨h1, h2, h3, h4, h5⟩ := B
  have ha : ad.1 w.length = H.size := by have := A.1 w.length h3; omega
  refine ⟨⟨fun h' c' hw => ?_, by rw [hz, List.length_append, List.length_singleton]; omega, by rw [List.length_append]; omega, fun q hq => ?_, h5⟩, ha⟩
  · by_cases e : h' < w.length
    · rw [List.getElem?_append_left e] at hw
      exact (h1 h' c' hw).kept (ho _ (h1 h' c' hw).lt)
    · rw [List.getElem?_append_right (by omega)] at hw
      have hz : h' - w.length < 1 := (List.getElem?_eq_some_iff.mp hw).1
      have e0 : h' = w.length := by omega
      subst e0
      rw [Nat.sub_self] at hw
      cases hw
      rw [ha]
      exact hc
  · rw [ho q (by omega)]
    exact h4 q hq
/-- words that hold at every warmer state -/
def xgood (w : Jvm.Cond) : Bool := (w.onTables && w.keeps) || match w with
  | .arrayClass _ | .methodLinkNest _ _ _ _ | .fieldLinkNest _ _ _ _ _ _ | .declares _ | .castable _ _ | .arrayOver (.object _) => true
  | _ => false
theorem xgood_at {w : Jvm.Cond} (hg : xgood w = true) {s U : State} {a a' : Array Value} (hW : s.WarmedH U.vm) (h : w.before a s = true) : w.before a' U = true := by
  unfold xgood at hg
  rw [Bool.or_eq_true] at hg
  rcases hg with hg | hg
  · exact word_at hW (Or.inl hg) h
  · split at hg
    · exact word_at hW (Or.inr ⟨_, rfl⟩) h
    · exact va_Nw.use rfl (va_Nw.warmM hW (va_Nw.of rfl h))
    · exact va_Nw.use rfl (va_Nw.warmF hW (va_Nw.of rfl h))
    · exact va_Nw.use rfl (va_Nw.warmD hW (va_Nw.of rfl h))
    · exact va_Nw.use rfl (va_Nw.warmC hW (va_Nw.of rfl h))
    · exact va_AO.use (va_AO.moved hW.alike (va_AO.of h))
    · cases hg
/-- statics and String constants that the run reads: cells 1 to 6 -/
def xS (s0 : State) (ad : xA) : Prop := va_Z "TrueFloats" "LOGARITHMS_OF_TWO" "[J" (.ref (ad.1 5)) (fun q => s0.heap.size ≤ q) s0 s0.heap ∧ va_Z "TrueFloatsModel" "LOG" "[I" (.ref (ad.1 6)) (fun q => s0.heap.size ≤ q) s0 s0.heap ∧ va_Z "java/lang/String" "COMPACT_STRINGS" "Z" (.int 1) (fun q => s0.heap.size ≤ q) s0 s0.heap ∧ vk_R "TrueFloats$Reader" 37 "nan" (ad.1 1) s0 ∧ vk_R "TrueFloats$Reader" 50 "inf" (ad.1 3) s0 ∧ va_Z "jdk/internal/util/Preconditions" "SIOOBE_FORMATTER" "Ljava/util/function/BiFunction;" (xv ad (.retAddr 0)) (fun q => s0.heap.size ≤ q) s0 s0.heap
/-- what is known of the law's entry s0: the words, the classes' numbers, the places of cells -/
def xG (s0 : State) (D : va_G) (ad : xA) (X : Nat) : Prop := ((∃ a0, ∀ w ∈ lw_tbl, w.before a0 s0 = true) ∧ xS s0 ad) ∧ va_K D xcl [] s0 ∧ xadr ad X s0.heap.size
theorem xG.word {s0 : State} {D : va_G} {ad : xA} {X : Nat} (G : xG s0 D ad X) {s : State} (hW : s0.WarmedH s.vm) {w : Jvm.Cond} (hw : w ∈ lw_tbl) (hg : xgood w = true) (a : Array Value) : w.before a s = true := by
  obtain ⟨⟨⟨a0, h⟩, -⟩, -⟩ := G
  exact xgood_at hg hW (h w hw)
/-- what is known of a method's activation -/
def xF (s0 : State) (p : Program) (s : State) (m : MethodId) (meth : Method) (c : Code) (M : xM) : Prop :=
  p.tables.exec = Jvm.exec ∧ c.code = xby M ∧ c.maxLocals = xmx M ∧ meth.sig.returnType = xrt M ∧ meth.locks = false ∧ s.vm.findClass (xn M).cls = some m.cls ∧ meth.name = (xn M).name ∧
  c.exceptionTable.toList.map (fun h => (h.startPc, h.endPc, h.handlerPc, h.catchType)) = xhh M ∧ s0.WarmedH s.vm ∧ s0.heap.size ≤ s.heap.size ∧ xcn[xcno M]? = some (xn M).cls
theorem xok_fits (ad : xA) {ty : FieldType} {v : Value} (h : xok ty v = true) : narrow ty (xv ad v) = xv ad v ∧ fits ty (xv ad v) = true := by
  unfold xok at h
  split at h
  · exact ⟨rfl, rfl⟩
  · exact ⟨rfl, rfl⟩
  · rename_i x
    simp only [Bool.or_eq_true, decide_eq_true_eq] at h
    rcases h with rfl | rfl <;> exact ⟨rfl, rfl⟩
  · rename_i x
    have e := of_decide_eq_true h
    refine ⟨by show Value.int _ = _; rw [e]; rfl, ?_⟩
    have := fits_narrow_byte x
    rw [show narrow .byte (.int x) = .int x by show Value.int _ = _; rw [e]] at this
    exact this
  · rename_i x
    simp only [Bool.and_eq_true, decide_eq_true_eq] at h
    refine ⟨by show Value.int _ = _; rw [h.2]; rfl, ?_⟩
    show (decide (0 ≤ x) && decide (x ≤ 65535)) = true
    simp [h.1.1, h.1.2]
  all_goals first | exact ⟨rfl, rfl⟩ | cases h
theorem xin_ok {i : Int32} {n : Nat} (h : xin i n = true) : ¬ i < 0 ∧ i.toNatClampNeg < n := by
  unfold xin at h
  rw [Bool.and_eq_true, Bool.not_eq_true'] at h
  exact ⟨of_decide_eq_false h.1, xblt h.2⟩
theorem xar_set {s0 : State} {t i : Nat} {cell : Cell} {v : Value} (h : xar s0 t cell) : xar s0 t (cell.setSlot i v) := h
theorem xslots_set {cell : Cell} {n i : Nat} {g : Nat → Value} {ad : xA} {v : Value} (hz : n ≤ cell.slots.size ∧ cell.slots.size.toInt32 = Int32.ofNat n) (h : ∀ j, j < n → cell.slots[j]? = some (xv ad (g j))) (hi : i < n) :
    (n ≤ (cell.setSlot i (xv ad v)).slots.size ∧ (cell.setSlot i (xv ad v)).slots.size.toInt32 = Int32.ofNat n) ∧ ∀ j, j < n → (cell.setSlot i (xv ad v)).slots[j]? = some (xv ad (xup g i v j)) := by
  have hsz : (cell.setSlot i (xv ad v)).slots.size = cell.slots.size := by simp [Cell.setSlot]
  refine ⟨by rw [hsz]; exact hz, fun j hj => ?_⟩
  by_cases e : j = i
  · subst e
    have : Nat.beq j j = true := Nat.beq_refl j
    have hj2 : j < cell.slots.size := by omega
    simp [Cell.setSlot, xup, this, hj2]
  · have : Nat.beq j i = false := by
      cases hb : Nat.beq j i with
      | true => exact absurd (Nat.eq_of_beq_eq_true hb) e
      | false => rfl
    rw [slot_ne _ _ (Ne.symm e), h j hj]
    simp [xup, this]
