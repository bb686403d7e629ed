/-! THE CLAIM OUT OF ONE WALK OF THE LAW'S BODY. Your part is whole_start (and what it stands on); all else here is the same for every law, but numbers. -/
def R_law : String := "TrueFloatsLaw"
def lw_P (b : Addr) (xs : List Int32) (args : Array Value) (s : State) : Prop := args = #[.ref b] ∧ s.IntsAt b xs ∧ xs.length ≤ 3072 ∧ (Jvm.Cond.and given_1 narrow_1).before args s = true
def lw_Q (_ : Array Value) (s : State) (o : Outcome) (t : State) : Prop := o = .returned (some (.int 1)) ∧ Framed s o t [] 601024 7293034
def lw_Z (below : List Frame) (a : Array Value) (s : State) : State → Prop := fun t => ∃ o, t.status = .running ∧ Ended t below o ∧ lw_Q a s o t
/-- the law's own end, with 1 on the stack, nothing written that was there before, its room as the claim has it -/
theorem lw_ret {p : Program} {l : Launch} {e : Env} {s : State} {m : MethodId} {below : List Frame} {meth : Method} {c : Code} {b : Nat} (hx : p.tables.exec = Jvm.exec) (hb : c.code = code) (hr : meth.sig.returnType = ret) (hlocks : meth.locks = false) {pc : Nat} {H : Heap} {ls : Array Slot} (hdg : decode code pc = .ok (.ireturn, 1)) : W p l e room_1 s m #[Value.ref b] below meth c H [] 601024 7293034 (lw_Z below #[Value.ref b] s) (F0 m pc ls [.int 1]) := by
  intro T hT X
  obtain ⟨fs, hret, hrun, hended, hW, hframe⟩ := X.leave (v := some (.int 1)) (hlocks := hlocks) (fun h => by rw [hr] at h; cases h)
  have hmeth' : T.vm.method? m = some meth := X.method'
  refine ⟨T.setFrames fs, ?_, .returned (some (.int 1)), hrun, hended, rfl, ⟨_, rfl⟩, hW, hframe⟩
  jvm_step X.here [X.here.top, hx, hb, hdg, hmeth', hr, ret, narrow_b1]
  (try refine ⟨rfl, ?_⟩); (try refine ⟨rfl, ?_⟩)
  first | (intro acts; rw [hret _ acts rfl rfl rfl]) | rw [hret _ _ rfl rfl rfl]
  exact Steps.refl _
/-- what holds at the law's entry: the machine, the code, the tables' words (any of lw_tbl by 'hts w (by decide +kernel)'), the script of L ints xs at the cell b, what the Statement gives of the start (any of its parts by flat_of_before) -/
def lw_At (p : Program) (s : State) (m : MethodId) (meth : Method) (c : Code) (b L : Nat) (xs : Nat → Int32) : Prop :=
  p.tables.exec = Jvm.exec ∧ c.code = code ∧ meth.sig.returnType = ret ∧ c.maxLocals = 8 ∧ s.vm.findClass R_law = some m.cls ∧ (∀ w ∈ lw_tbl, w.before #[Value.ref b] s = true) ∧ va_X b L xs s s.heap ∧ b < s.heap.size ∧ meth.locks = false ∧ (Jvm.Cond.and given_1 narrow_1).before #[Value.ref b] s = true ∧ meth.name = "law" ∧ c.exceptionTable.isEmpty = true
-- the claim out of a run of the pure machine
theorem xknown {s : State} {a0 : Array Value} (hts : ∀ w ∈ lw_tbl, w.before a0 s = true) : ∃ D : va_G, va_K D xcl [] s := by
  have key : ∀ ci : Nat, ∃ (cC : ClassId) (iS : Nat → Nat), ∀ q, xcl[ci]? = some q → u_Kn s q.1 q.2.1 q.2.2 cC iS := by
    intro ci
    cases hq : xcl[ci]? with
    | none => exact ⟨0, fun _ => 0, fun q h => by cases h⟩
    | some q =>
      have hlt : ci < 19 := (List.getElem?_eq_some_iff.mp hq).1
      by_cases h14 : ci < 14
      · obtain ⟨q', hq', hl, hins, -⟩ := xC_ok h14
        cases hq.symm.trans hq'
        obtain ⟨cC, iS, h⟩ := u_known (C := q.1) (T := q.2.1) (N := q.2.2) (n := q.2.2) hts (fun w hw => by
          obtain ⟨k, hk, rfl⟩ := List.mem_map.mp hw
          exact (hl k (List.mem_range.mp hk)).1) (hts _ hins)
        exact ⟨cC, iS, fun q' h' => by cases h'; exact h⟩
      · by_cases h18 : ci < 18
        · obtain ⟨q', hq', h0, hins, -⟩ := xX_ok (by omega) h18
          cases hq.symm.trans hq'
          obtain ⟨cC, iS, h⟩ := u_known (C := q.1) (T := q.2.1) (N := q.2.2) (n := 6) hts (fun w hw => by
            obtain ⟨k, hk, rfl⟩ := List.mem_map.mp hw
            have := List.mem_range.mp hk
            omega) (hts _ hins)
          exact ⟨cC, iS, fun q' h' => by cases h'; exact h⟩
        · have e18 : ci = 18 := by omega
          subst e18
          have hins : Cond.instantiable q.1 4 ∈ lw_tbl := by
            cases hq
            exact xt_4 154 rfl
          obtain ⟨cC, iS, h⟩ := u_known (C := q.1) (T := q.2.1) (N := q.2.2) (n := 4) hts (fun w hw => by
            obtain ⟨k, hk, rfl⟩ := List.mem_map.mp hw
            exact xlay_ok hq (List.mem_range.mp hk)) (hts _ hins)
          exact ⟨cC, iS, fun q' h' => by cases h'; exact h⟩
  exact ⟨(fun ci => Classical.choose (key ci), fun ci => Classical.choose (Classical.choose_spec (key ci))), fun ci q hq => Classical.choose_spec (Classical.choose_spec (key ci)) q hq, fun k q h => by simp at h⟩
theorem xnc_of {s : State} {D : va_G} (hK : va_K D xcl [] s) {i j : Nat} {q r : vw_C} (hi : xcl[i]? = some q) (hj : xcl[j]? = some r) (h : va_Nc q.1 r.1 s) : s.vm.assignable (D.1 i) (D.1 j) = false := by
  obtain ⟨c, t, h1, h2, h3⟩ := h
  have e1 : D.1 i = c := Option.some.inj ((hK.1 i q hi).2.1.symm.trans h1)
  have e2 : D.1 j = t := Option.some.inj ((hK.1 j r hj).2.1.symm.trans h2)
  rw [e1, e2]
  exact h3
theorem va_any0 {C n d : String} {a0 : Array Value} {s : State} (h : (Cond.isRef (.static C n d)).before a0 s = true) : (Cond.isRef (.static C n d)).before #[] s = true := h
theorem xexc {s : State} {D : va_G} {a0 : Array Value} (hK : va_K D xcl [] s) (hgv : (Jvm.Cond.and given_1 narrow_1).before a0 s = true) : xE s D := by
  have hs := flat_of_before _ hgv
  refine ⟨fun i j h1 h2 h3 h4 hne => ?_, va_any0 (hs _ (by decide +kernel)), va_any0 (hs _ (by decide +kernel))⟩
  have hij : (i = 14 ∨ i = 15 ∨ i = 16 ∨ i = 17) ∧ (j = 14 ∨ j = 15 ∨ j = 16 ∨ j = 17) := by omega
  obtain ⟨hi, hj⟩ := hij
  rcases hi with rfl | rfl | rfl | rfl <;> rcases hj with rfl | rfl | rfl | rfl
  · exact absurd rfl hne
  · exact xnc_of hK (q := ("java/lang/IllegalArgumentException", xF_e, 0)) (r := ("java/lang/UnsupportedOperationException", xF_e, 0)) rfl rfl (va_Nc.of (hs (.not (.castable "java/lang/IllegalArgumentException" "java/lang/UnsupportedOperationException")) (by decide +kernel)))
  · exact xnc_of hK (q := ("java/lang/IllegalArgumentException", xF_e, 0)) (r := ("java/util/NoSuchElementException", xF_e, 0)) rfl rfl (va_Nc.of (hs (.not (.castable "java/lang/IllegalArgumentException" "java/util/NoSuchElementException")) (by decide +kernel)))
  · exact xnc_of hK (q := ("java/lang/IllegalArgumentException", xF_e, 0)) (r := ("java/lang/IllegalStateException", xF_e, 0)) rfl rfl (va_Nc.of (hs (.not (.castable "java/lang/IllegalArgumentException" "java/lang/IllegalStateException")) (by decide +kernel)))
  · exact xnc_of hK (q := ("java/lang/UnsupportedOperationException", xF_e, 0)) (r := ("java/lang/IllegalArgumentException", xF_e, 0)) rfl rfl (va_Nc.of (hs (.not (.castable "java/lang/UnsupportedOperationException" "java/lang/IllegalArgumentException")) (by decide +kernel)))
  · exact absurd rfl hne
  · exact xnc_of hK (q := ("java/lang/UnsupportedOperationException", xF_e, 0)) (r := ("java/util/NoSuchElementException", xF_e, 0)) rfl rfl (va_Nc.of (hs (.not (.castable "java/lang/UnsupportedOperationException" "java/util/NoSuchElementException")) (by decide +kernel)))
  · exact xnc_of hK (q := ("java/lang/UnsupportedOperationException", xF_e, 0)) (r := ("java/lang/IllegalStateException", xF_e, 0)) rfl rfl (va_Nc.of (hs (.not (.castable "java/lang/UnsupportedOperationException" "java/lang/IllegalStateException")) (by decide +kernel)))
  · exact xnc_of hK (q := ("java/util/NoSuchElementException", xF_e, 0)) (r := ("java/lang/IllegalArgumentException", xF_e, 0)) rfl rfl (va_Nc.of (hs (.not (.castable "java/util/NoSuchElementException" "java/lang/IllegalArgumentException")) (by decide +kernel)))
  · exact xnc_of hK (q := ("java/util/NoSuchElementException", xF_e, 0)) (r := ("java/lang/UnsupportedOperationException", xF_e, 0)) rfl rfl (va_Nc.of (hs (.not (.castable "java/util/NoSuchElementException" "java/lang/UnsupportedOperationException")) (by decide +kernel)))
  · exact absurd rfl hne
  · exact xnc_of hK (q := ("java/util/NoSuchElementException", xF_e, 0)) (r := ("java/lang/IllegalStateException", xF_e, 0)) rfl rfl (va_Nc.of (hs (.not (.castable "java/util/NoSuchElementException" "java/lang/IllegalStateException")) (by decide +kernel)))
  · exact xnc_of hK (q := ("java/lang/IllegalStateException", xF_e, 0)) (r := ("java/lang/IllegalArgumentException", xF_e, 0)) rfl rfl (va_Nc.of (hs (.not (.castable "java/lang/IllegalStateException" "java/lang/IllegalArgumentException")) (by decide +kernel)))
  · exact xnc_of hK (q := ("java/lang/IllegalStateException", xF_e, 0)) (r := ("java/lang/UnsupportedOperationException", xF_e, 0)) rfl rfl (va_Nc.of (hs (.not (.castable "java/lang/IllegalStateException" "java/lang/UnsupportedOperationException")) (by decide +kernel)))
  · exact xnc_of hK (q := ("java/lang/IllegalStateException", xF_e, 0)) (r := ("java/util/NoSuchElementException", xF_e, 0)) rfl rfl (va_Nc.of (hs (.not (.castable "java/lang/IllegalStateException" "java/util/NoSuchElementException")) (by decide +kernel)))
  · exact absurd rfl hne
theorem xstr_of {s : State} {D : va_G} {a0 : Array Value} (hK : va_K D xcl [] s) {tm : Term} {bs : List Int32} {N : Nat} (hN : N < 2 ^ 31) (hex : (Cond.exactly tm "java/lang/String").before a0 s = true) (hco : (Cond.eq (.field tm "java/lang/String" "coder" "B") (.int 0)).before a0 s = true) (har : (Cond.arrayOf (.field tm "java/lang/String" "value" "[B") .byte).before a0 s = true)
    (hle : (Cond.eq (.length (.field tm "java/lang/String" "value" "[B")) (.int (Int32.ofNat N))).before a0 s = true) (hel : ∀ j, j < N → (Cond.eq (.elem (.field tm "java/lang/String" "value" "[B") (.int (Int32.ofNat j))) (.int (bs.getD j 0))).before a0 s = true) :
    ∃ a t, tm.eval a0 s none [] s = some (.ref a) ∧ a < s.heap.size ∧ t < s.heap.size ∧ (∃ cell : Cell, s.heap[a]? = some cell ∧ cell.cls = D.1 18 ∧ xpl 18 cell.vm ∧ cell.slots[D.2 18 0]? = some (.ref t) ∧ cell.slots[D.2 18 1]? = some (.int 0)) ∧ va_T .byte t N (fun j => .int (bs.getD j 0)) (fun q => s.heap.size ≤ q) s s.heap := by
  have hA : ∀ a : Nat, a < s.heap.size → ¬ (fun q => s.heap.size ≤ q) a := fun a h z => Nat.not_le.mpr h z
  obtain ⟨a, c, cA, kA, q1, q2, q3, q4, q5, q6, -⟩ := Cond.exactly_spec (args := a0) (first := s) (o := none) (s := s) (idx := []) (t := tm) (cls := "java/lang/String") hex
  obtain ⟨t, ht, hT⟩ := va_Tof (f := fun j => .int (bs.getD j 0)) hN har (va_eqt hle) (fun j hj => va_eqt (hel j hj)) hA
  obtain ⟨cf1, k1, i1, f1, ce1, r1, -, r3, r4, r5, -⟩ := vk_OFof q1 (va_eqt hco) hA
  obtain ⟨cf2, k2, i2, f2, ce2, t1, -, t3, t4, t5, -⟩ := vk_OFof q1 ht hA
  cases q3.symm.trans r3
  cases q3.symm.trans t3
  obtain ⟨hS, hfc, -⟩ := hK.1 18 _ rfl
  obtain ⟨_, _, _, g1, u1, v1⟩ := hS 1 (by decide)
  obtain ⟨_, _, _, g0, u0, v0⟩ := hS 0 (by decide)
  cases r1.symm.trans u1
  cases t1.symm.trans u0
  refine ⟨a, t, q1, (Array.getElem?_eq_some_iff.mp q3).1, ?_, ⟨cA, q3, ?_, Or.inr ⟨rfl, q5, r4⟩, ?_, ?_⟩, hT⟩
  · obtain ⟨ce, z1, -⟩ := hT
    exact (Array.getElem?_eq_some_iff.mp z1).1
  · rw [q6]; exact Option.some.inj (q2.symm.trans hfc)
  · rw [← v0]; exact t5
  · rw [← v1]; exact r5
theorem xT_cell {s : State} {D : va_G} {ad : xA} {t N : Nat} {ty : FieldType} {f : Nat → Value} {A : Nat → Prop} (k : Nat) (hk : xtys[k]? = some ty) (hob : ∀ C, ty ≠ .object C) (hf : ∀ j, xv ad (f j) = f j) (h : va_T ty t N f A s s.heap) : xcell s D ad t (.inl (k, N, f)) s.heap := by
  obtain ⟨ce, h1, h2, h3, h4, h5, h6, -⟩ := h
  exact ⟨ce, h1, ⟨ty, hk, h2, h3, fun C h => absurd h (hob C)⟩, ⟨h4, h5⟩, fun j hj => by rw [hf]; exact h6 j hj⟩
theorem xmem_log : ∀ j, j < 37 → Cond.eq (.elem (.static "TrueFloats" "LOGARITHMS_OF_TWO" "[J") (.int (Int32.ofNat j))) (.long (xlogc.getD j 0)) ∈ flatC (Jvm.Cond.and given_1 narrow_1) := by decide +kernel
theorem xmem_lom : ∀ j, j < 37 → Cond.eq (.elem (.static "TrueFloatsModel" "LOG" "[I") (.int (Int32.ofNat j))) (.int (xlogm.getD j 0)) ∈ flatC (Jvm.Cond.and given_1 narrow_1) := by decide +kernel
theorem xmem_nan : ∀ j, j < 3 → Cond.eq (.elem (.field (.string "TrueFloats$Reader" 37) "java/lang/String" "value" "[B") (.int (Int32.ofNat j))) (.int (xnan.getD j 0)) ∈ flatC (Jvm.Cond.and given_1 narrow_1) := by decide +kernel
theorem xmem_inf : ∀ j, j < 3 → Cond.eq (.elem (.field (.string "TrueFloats$Reader" 50) "java/lang/String" "value" "[B") (.int (Int32.ofNat j))) (.int (xinf.getD j 0)) ∈ flatC (Jvm.Cond.and given_1 narrow_1) := by decide +kernel
/-- the externals lie in the first heap -/
theorem xext {s : State} {D : va_G} {a0 : Array Value} {b : Nat} (hbl : b < s.heap.size) (hK : va_K D xcl [] s) (hts : ∀ w ∈ lw_tbl, w.before a0 s = true) (hgv : (Jvm.Cond.and given_1 narrow_1).before a0 s = true) :
    ∃ ad : xA, ad.1 0 = b ∧ xadr ad 7 s.heap.size ∧ xS s ad ∧ ∀ h c, 0 < h → (xscr 0 (fun _ => 0))[h]? = some c → xcell s D ad (ad.1 h) c s.heap := by
  have hs := flat_of_before _ hgv
  have hA : ∀ a : Nat, a < s.heap.size → ¬ (fun q => s.heap.size ≤ q) a := fun a h z => Nat.not_le.mpr h z
  obtain ⟨a1, t1, e1, l1, m1, ⟨c1, p1, p2, p3, p4, p5⟩, T1⟩ := xstr_of (tm := .string "TrueFloats$Reader" 37) (bs := xnan) (N := 3) hK (by decide) (hs _ (by decide +kernel)) (hs _ (by decide +kernel)) (hs _ (by decide +kernel)) (hs _ (by decide +kernel)) (fun j hj => hs _ (xmem_nan j hj))
  obtain ⟨a3, t3, e3, l3, m3, ⟨c3, r1, r2, r3, r4, r5⟩, T3⟩ := xstr_of (tm := .string "TrueFloats$Reader" 50) (bs := xinf) (N := 3) hK (by decide) (hs _ (by decide +kernel)) (hs _ (by decide +kernel)) (hs _ (by decide +kernel)) (hs _ (by decide +kernel)) (fun j hj => hs _ (xmem_inf j hj))
  obtain ⟨l5, v5, T5⟩ := va_Tof (tm := .static "TrueFloats" "LOGARITHMS_OF_TWO" "[J") (ty := .long) (N := 37) (f := fun j => .long (xlogc.getD j 0)) (A := fun q => s.heap.size ≤ q) (by decide) (hs _ (by decide +kernel)) (va_eqt (hs _ (by decide +kernel))) (fun j hj => va_eqtl (hs _ (xmem_log j hj))) hA
  obtain ⟨l6, v6, T6⟩ := va_Tof (tm := .static "TrueFloatsModel" "LOG" "[I") (ty := .int) (N := 37) (f := fun j => .int (xlogm.getD j 0)) (A := fun q => s.heap.size ≤ q) (by decide) (hs _ (by decide +kernel)) (va_eqt (hs _ (by decide +kernel))) (fun j hj => va_eqt (hs _ (xmem_lom j hj))) hA
  have hl5 : l5 < s.heap.size := by obtain ⟨ce, z1, -⟩ := id T5; exact (Array.getElem?_eq_some_iff.mp z1).1
  have hl6 : l6 < s.heap.size := by obtain ⟨ce, z1, -⟩ := id T6; exact (Array.getElem?_eq_some_iff.mp z1).1
  have Z1 := va_Zof (A := fun q => s.heap.size ≤ q) (hts _ (xt_7 87 rfl : Cond.laysStatic "TrueFloats" "LOGARITHMS_OF_TWO" "[J" ∈ lw_tbl)) (hts _ (xt_1 1 rfl : Cond.initialized "TrueFloats" ∈ lw_tbl)) v5 hA
  have Z2 := va_Zof (A := fun q => s.heap.size ≤ q) (hts _ (xt_10 10 rfl : Cond.laysStatic "TrueFloatsModel" "LOG" "[I" ∈ lw_tbl)) (hts _ (xt_1 13 rfl : Cond.initialized "TrueFloatsModel" ∈ lw_tbl)) v6 hA
  have Z3 := va_Zof (A := fun q => s.heap.size ≤ q) (hts _ (xt_3 230 rfl : Cond.laysStatic "java/lang/String" "COMPACT_STRINGS" "Z" ∈ lw_tbl)) (hts _ (xt_1 25 rfl : Cond.initialized "java/lang/String" ∈ lw_tbl)) (va_eqi (hs (.eq (.static "java/lang/String" "COMPACT_STRINGS" "Z") (.int 1)) (by decide +kernel))) hA
  have R1 := vk_R.of (hts _ (xt_7 34 rfl : Cond.stringRef "TrueFloats$Reader" 37 "nan" ∈ lw_tbl)) e1
  have R3 := vk_R.of (hts _ (xt_7 66 rfl : Cond.stringRef "TrueFloats$Reader" 50 "inf" ∈ lw_tbl)) e3
  obtain ⟨v7, q7, r7⟩ := Cond.isRef_spec (args := a0) (first := s) (o := none) (s := s) (idx := []) (t := .static "jdk/internal/util/Preconditions" "SIOOBE_FORMATTER" "Ljava/util/function/BiFunction;") (hs _ (by decide +kernel))
  have Z7 := va_Zof (A := fun q => s.heap.size ≤ q) (hts _ (xt_4 66 rfl : Cond.laysStatic "jdk/internal/util/Preconditions" "SIOOBE_FORMATTER" "Ljava/util/function/BiFunction;" ∈ lw_tbl)) (hts _ (xt_1 28 rfl : Cond.initialized "jdk/internal/util/Preconditions" ∈ lw_tbl)) q7 hA
  obtain ⟨o7, e7⟩ : ∃ o : Option Nat, ∀ g : Nat → Nat, xv (g, o) (.retAddr 0) = v7 := by
    cases v7 with
    | ref a => exact ⟨some a, fun g => rfl⟩
    | null => exact ⟨none, fun g => rfl⟩
    | _ => exact absurd r7 Bool.false_ne_true
  obtain ⟨ad, ha2, hd0, hd1, hd2, hd3, hd4, hd5, hd6, hd⟩ : ∃ ad : xA, ad.2 = o7 ∧ ad.1 0 = b ∧ ad.1 1 = a1 ∧ ad.1 2 = t1 ∧ ad.1 3 = a3 ∧ ad.1 4 = t3 ∧ ad.1 5 = l5 ∧ ad.1 6 = l6 ∧ ∀ h, 7 ≤ h → ad.1 h = s.heap.size + (h - 7) :=
    ⟨(fun h => match h with | 0 => b | 1 => a1 | 2 => t1 | 3 => a3 | 4 => t3 | 5 => l5 | 6 => l6 | k + 7 => s.heap.size + k, o7), rfl, rfl, rfl, rfl, rfl, rfl, rfl, rfl, fun h hh => by
      obtain ⟨k, rfl⟩ : ∃ k, h = k + 7 := ⟨h - 7, by omega⟩
      rfl⟩
  have hv7 : xv ad (.retAddr 0) = v7 := by
    have e : ad = (ad.1, o7) := by rw [← ha2]
    rw [e]
    exact e7 _
  refine ⟨ad, hd0, ⟨fun h hh => by rw [hd h hh]; omega, fun h hh => ?_⟩, ⟨by rw [hd5]; exact Z1, by rw [hd6]; exact Z2, Z3, by rw [hd1]; exact R1, by rw [hd3]; exact R3, by rw [hv7]; exact Z7⟩, fun h cc h0 hw => ?_⟩
  · have : h = 0 ∨ h = 1 ∨ h = 2 ∨ h = 3 ∨ h = 4 ∨ h = 5 ∨ h = 6 := by omega
    rcases this with rfl | rfl | rfl | rfl | rfl | rfl | rfl
    · rw [hd0]; exact hbl
    · rw [hd1]; exact l1
    · rw [hd2]; exact m1
    · rw [hd3]; exact l3
    · rw [hd4]; exact m3
    · rw [hd5]; exact hl5
    · rw [hd6]; exact hl6
  · match h, hw with
    | 0, _ => omega
    | 1, hw =>
      cases hw
      rw [hd1]
      refine ⟨_, rfl, c1, p1, p2, p3, fun k hk => ?_⟩
      have : k = 0 ∨ k = 1 := by have : k < 2 := hk; omega
      rcases this with rfl | rfl
      · show _ = some (Value.ref (ad.1 2)); rw [hd2]; exact p4
      · exact p5
    | 2, hw => cases hw; rw [hd2]; exact xT_cell 1 rfl (fun C h => by cases h) (fun j => rfl) T1
    | 3, hw =>
      cases hw
      rw [hd3]
      refine ⟨_, rfl, c3, r1, r2, r3, fun k hk => ?_⟩
      have : k = 0 ∨ k = 1 := by have : k < 2 := hk; omega
      rcases this with rfl | rfl
      · show _ = some (Value.ref (ad.1 4)); rw [hd4]; exact r4
      · exact r5
    | 4, hw => cases hw; rw [hd4]; exact xT_cell 1 rfl (fun C h => by cases h) (fun j => rfl) T3
    | 5, hw => cases hw; rw [hd5]; exact xT_cell 3 rfl (fun C h => by cases h) (fun j => rfl) T5
    | 6, hw => cases hw; rw [hd6]; exact xT_cell 0 rfl (fun C h => by cases h) (fun j => rfl) T6
    | k + 7, hw => cases hw
/-- what is owed of the pure machine -/
def xPure (N C S : Nat) : Prop := ∀ (L : Nat) (xs : Nat → Int32), L ≤ N → ∃ n w, xev 7 n 1000 xlawno 0 [(0, .ref 0)] [] (xscr L xs) = some (.inl (some (.int 1)), w) ∧ w.length ≤ C ∧ xsz w ≤ S
set_option maxHeartbeats 4000000 in
theorem whole_of {p : Program} {e : Env} {s : State} {m : MethodId} {below : List Frame} {meth : Method} {c : Code} (hpure : xPure 3072 601024 7293034) (l : Launch) (htr : l.stackTraces = false) {b L : Nat} {xs : Nat → Int32} (hL : L ≤ 3072) (C0 : lw_At p s m meth c b L xs) : W p l e room_1 s m #[Value.ref b] below meth c s.heap [] 0 0 (lw_Z below #[Value.ref b] s) (entryFrame m ([Value.ref b] : List Value).toArray 8) := by
  obtain ⟨hx, hb, hr, hml, hown, hts, hX, hbl, hlocks, hgv, hname, hexc⟩ := C0
  obtain ⟨D, hK⟩ := xknown hts
  obtain ⟨n, w', hev, hwl, hws⟩ := hpure L xs hL
  obtain ⟨ad, had, A, hXS, hext⟩ := xext (b := b) hbl hK hts hgv
  have G : xG s D ad 7 := ⟨⟨⟨_, hts⟩, hXS⟩, hK, A⟩
  have E : xE s D := xexc hK hgv
  obtain ⟨scr, hscr, hof, hun, hsize, hval⟩ := hX
  have B : xB s D ad 7 (xscr L xs) s.heap [] := by
    refine ⟨fun h cc hw => ?_, rfl, Nat.le_refl _, fun q _ => rfl, fun q hq => by cases hq⟩
    match h, hw with
    | 0, hw =>
      cases hw
      rw [had]
      exact ⟨scr, hscr, ⟨.int, rfl, hof, hun, fun C h => by cases h⟩, ⟨Nat.le_of_eq hsize.symm, by rw [hsize]⟩, hval⟩
    | k + 1, hw => exact hext (k + 1) cc (by omega) hw
  have F : xF s p s m meth c xlaw := ⟨hx, hb, hml, hr, hlocks, hown, hname, by
    have : c.exceptionTable = #[] := by simpa using hexc
    rw [this]; rfl, State.WarmedH.refl s, Nat.le_refl _, rfl⟩
  have hP : xP s s := fun q ce hq hce => by
    have := (Array.getElem?_eq_some_iff.mp hce).1
    omega
  have hle := xev_le hev
  unfold xle at hle
  have hl := lv_entry ([.ref b]) (n := 8) (Nat.le_of_ble_eq_true rfl)
  rw [lg_entry_eq]
  have e1 : lv_args 0 [Value.ref b] = xlm ad [(0, .ref 0)] := by
    show _ = [(0, Value.ref (ad.1 0))]
    rw [had]; rfl
  rw [e1] at hl
  have hlen1 : (xscr L xs).length = 7 := rfl
  have K := xev_sound (l := l) G E htr n 1000 xlawno 0 [(0, .ref 0)] [] (xscr L xs) _ w' xlaw rfl hev p e room_1 s m #[Value.ref b] below meth c s.heap [] 0 0 _ (w'.length - 7) (xsz w' - xsz (xscr L xs)) F hP hl B (by decide) (by decide) (by omega) (by omega)
    (by show _ ≤ 601024; omega) (by show _ ≤ 7293034; omega)
  refine xW_mono (fun t ht => ?_) K
  obtain ⟨oc, LL, h1, h2, h3, h4, h5, h6⟩ := ht
  have h3 : oc = .returned (some (.int 1)) := h3
  subst h3
  exact ⟨_, h1, h2, rfl, ⟨_, rfl⟩, h4, h5.weaken (fun y hy hlt => absurd hlt (Nat.not_lt.mpr (h6.2.2.2.2 y hy))) (by omega) (by omega)⟩
-- ===== YOUR PART ENDS =====
set_option maxHeartbeats 4000000 in
theorem lw_walk (hpure : xPure 3072 601024 7293034) (l : Launch) (htr : l.stackTraces = false) (b : Addr) (xs : List Int32) : MetFree l x (headSpec (Jvm.Cond.code x code maxLocals ret :: tables_1) room_1) (lw_P b xs) (fun _ _ _ _ _ => True) lw_Q := by
  refine MetFree.of_bodyS (code := code) (maxLocals := maxLocals) (ret := ret) (by decide) ?_ ?_
  · intro args s m h hn
    obtain ⟨meth, c, h1, h2, h3, h4, h5, h6, -, -⟩ := Cond.code_spec hn (atoms_spec (ws := Jvm.Cond.code x code maxLocals ret :: tables_1) h _ List.mem_cons_self)
    exact ⟨meth, c, h1, h2, h3, h4, h5, h6⟩
  · intro p e s m args below meth c s₁ B hml0 hP _
    obtain ⟨rfl, hx, hbd, hgv⟩ := hP
    obtain ⟨scr, harrAt, hlist, hof, hsmall⟩ := hx
    obtain ⟨hcb, hkn, -, -⟩ := State.arrayAt?_spec harrAt
    have hown : s.vm.findClass R_law = some m.cls := findClass_of_methodNamed B.named
    have hts0 : ∀ c ∈ (Jvm.Cond.code x code maxLocals ret :: tables_1), c.before #[Value.ref b] s = true := atoms_spec (ws := Jvm.Cond.code x code maxLocals ret :: tables_1) B.pre
    have hts : ∀ w ∈ lw_tbl, w.before #[Value.ref b] s = true := k2_hts_sels lw_privs (fun w hw => hts0 w (List.mem_cons_of_mem _ hw)) lw_privs_ok
    have hml : c.maxLocals = 8 := B.maxLocals_eq (hts0 _ List.mem_cons_self)
    have X₀ : Stand p l e room_1 s m #[Value.ref b] below meth c s₁ [] 0 0 := Stand.of_body B
    have hh0 : s₁.heap = s.heap := by rw [B.state]; rfl
    have hsz : scr.slots.size = xs.length := by rw [← Array.length_toList, hlist, List.length_map]
    have hval : ∀ j : Nat, j < xs.length → scr.slots[j]? = some (.int (xs.getD j 0)) := fun j hj => by
      rw [← Array.getElem?_toList, hlist]
      simp [hj]
    have hbl : b < s.heap.size := (Array.getElem?_eq_some_iff.mp hcb).1
    have hX : va_X b xs.length (fun j => xs.getD j 0) s s.heap := ⟨scr, hcb, hof, hkn, hsz, hval⟩
    have K : W p l e room_1 s m #[Value.ref b] below meth c s₁.heap [] 0 0 (lw_Z below #[Value.ref b] s) (entryFrame m ([Value.ref b] : List Value).toArray 8) := by
      rw [hh0]
      have hexc : c.exceptionTable.isEmpty = true := by
        obtain ⟨meth', c', h1, h2, -, -, -, -, h7, -⟩ := Cond.code_spec B.named (hts0 _ List.mem_cons_self)
        cases B.method.symm.trans h1
        cases X₀.code.symm.trans h2
        exact h7
      exact whole_of hpure l htr hbd ⟨B.exec, B.bytes, B.returns, hml, hown, hts, hX, hbl, B.notSynchronized, hgv, (name_of_methodNamed B.named B.method).1, hexc⟩
    obtain ⟨t, a1, o, b1, b2, b3⟩ := K s₁ rfl X₀
    exact ⟨t, o, a1, b1, b2, b3⟩
theorem lw_pre_spec {args : Array Value} {s : State} (h : (Jvm.Cond.and given_1 narrow_1).before args s = true) (hr : rest_1_c.before args s = true) : ∃ (b : Addr) (xs : List Int32), lw_P b xs args s := by
  have hs := flat_of_before _ h
  have hq := flat_of_before _ hr
  have hc : (Cond.count 1).before args s = true := hs _ (by decide +kernel)
  have harr : (Cond.arrayOf (.arg 0) .int).before args s = true := hs _ (by decide +kernel)
  have hle : (Cond.le (.length (.arg 0)) (.int 3072)).before args s = true := hs _ (by decide +kernel)
  have hlen : (Cond.isInt (.length (.arg 0))).before args s = true := hq _ (by decide +kernel)
  have hall : (Cond.all (.arg 0) (.isInt (.elem (.arg 0) (.index 0)))).before args s = true := hq _ (by decide +kernel)
  obtain ⟨b, xs, hb, hx⟩ := State.ints_of_pre rfl harr hlen hall
  have hsm : xs.length < 2 ^ 31 := hx.choose_spec.2.2.2
  have hev : (Term.length (.arg 0)).eval args s none [] s = some (.int xs.length.toInt32) := hx.length_eval hb
  have hv := Cond.le_ints hev (show (Term.int 3072).eval args s none [] s = some (.int 3072) from rfl)
  have hd : xs.length.toInt32 ≤ 3072 := by
    simpa [Cond.before, Cond.holds, hv] using hle
  have hN : xs.length ≤ 3072 := (Int32.ofNat_le_ofNat hsm (by decide)).mp (show Int32.ofNat xs.length ≤ Int32.ofNat 3072 from hd)
  exact ⟨b, xs, Cond.one_arg hc (show args[0]? = some (.ref b) from hb), hx, hN, h⟩
theorem lw_comes (hpure : xPure 3072 601024 7293034) (l : Launch) (htr : l.stackTraces = false) : Comes l x (Jvm.Cond.code x code maxLocals ret :: tables_1) room_1 (fun tb e args s => Calls_1 tb e args s ∧ rest_1 tb e args s ∧ Pre_1 tb e args s)
    (fun _ _ args s o t => lw_Q args s o t) := by
  intro p e ha hc hk s m args below hf hfit hheap happ hpre
  obtain ⟨b, xs, hP⟩ := lw_pre_spec hpre.2.2 hpre.2.1
  obtain ⟨k, o, h1, h2, h3, hQ⟩ := lw_walk hpure l htr b xs p e ha hc hk s m args below hf ((Spec.applies_iff_loose hf).mp happ).1 hP trivial
  exact ⟨k, o, h1, h2, h3, hQ⟩
theorem lw_frame {s t : State} {o : Outcome} {args : Array Value} (h : Framed s o t [] 601024 7293034) :
    Framed s o t (fieldLocs frame_1_writes args s ++ arrayLocs frame_1_arrays args s ++ staticLocs frame_1_statics s) 601024 7293034 := h
theorem lw_limb (hpure : xPure 3072 601024 7293034) (L : Cond) (hL : ∀ (args : Array Value) (s t : State), L.after args s (.returned (some (.int 1))) t = true) :
    ArmFor flags0 classFile x code maxLocals ret World_1 tables_1 room_1 Calls_1 rest_1 Pre_1
      (fun tb e a s o t => postC L tb e a s o t ∧ Framed s o t (fieldLocs frame_1_writes a s ++ arrayLocs frame_1_arrays a s ++ staticLocs frame_1_statics s) 601024 7293034) := by
  intro l hfl _ _ p e ha hc hk s m args below hf hfit hheap happ hpre
  obtain ⟨k, o, h1, h2, h3, rfl, hF⟩ := lw_comes hpure l (by unfold Launch.stackTraces; rw [hfl]; decide +kernel) p e ha hc hk s m args below hf hfit hheap happ hpre
  exact ⟨k, _, h1, h2, h3, hL args s _, lw_frame hF⟩
theorem claim_of (hpure : xPure 3072 601024 7293034) : Claimed_1_1 ∧ Claimed_1_2 := ⟨lw_limb hpure limb_1_1 (fun args s t => by simp [limb_1_1, Cond.after, Cond.holds, Cond.value]), lw_limb hpure limb_1_2 (fun args s t => Cond.after_iff.mpr (by
  first | (rw [show limb_1_2 = Cond.eq .result (.int 1) from rfl, Cond.eq_ints (x := 1) (y := 1) rfl rfl]; simp; done) | (simp [limb_1_2, Cond.value, Term.eval]; done)))⟩
