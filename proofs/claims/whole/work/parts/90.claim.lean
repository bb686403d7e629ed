/-! THE CLAIM OUT OF ONE WALK OF THE LAW'S BODY. Your part is whole_start (and what it stands on); all else here is the same for every law, but numbers. -/
def R_law : String := "TrueFloatsLaw"
def lw_P (b : Addr) (xs : List Int32) (args : Array Value) (s : State) : Prop := args = #[.ref b] ∧ s.IntsAt b xs ∧ xs.length ≤ 3072 ∧ (Jvm.Cond.and given_1 narrow_1).before args s = true
def lw_Q (_ : Array Value) (s : State) (o : Outcome) (t : State) : Prop := o = .returned (some (.int 1)) ∧ Framed s o t [] 601024 7293034
def lw_Z (below : List Frame) (a : Array Value) (s : State) : State → Prop := fun t => ∃ o, t.status = .running ∧ Ended t below o ∧ lw_Q a s o t
/-- the law's own end, with 1 on the stack, nothing written that was there before, its room as the claim has it -/
theorem lw_ret {p : Program} {l : Launch} {e : Env} {s : State} {m : MethodId} {below : List Frame} {meth : Method} {c : Code} {b : Nat} (hx : p.tables.exec = Jvm.exec) (hb : c.code = code) (hr : meth.sig.returnType = ret) (hlocks : meth.locks = false) {pc : Nat} {H : Heap} {ls : Array Slot} (hdg : decode code pc = .ok (.ireturn, 1)) : W p l e room_1 s m #[Value.ref b] below meth c H [] 601024 7293034 (lw_Z below #[Value.ref b] s) (F0 m pc ls [.int 1]) := by
  intro T hT X
  obtain ⟨fs, hret, hrun, hended, hW, hframe⟩ := X.leave (v := some (.int 1)) (hlocks := hlocks) (fun h => by rw [hr] at h; cases h)
  have hmeth' : T.vm.method? m = some meth := X.method'
  refine ⟨T.setFrames fs, ?_, .returned (some (.int 1)), hrun, hended, rfl, ⟨_, rfl⟩, hW, hframe⟩
  jvm_step X.here [X.here.top, hx, hb, hdg, hmeth', hr, ret, narrow_b1]
  (try refine ⟨rfl, ?_⟩); (try refine ⟨rfl, ?_⟩)
  first | (intro acts; rw [hret _ acts rfl rfl rfl]) | rw [hret _ _ rfl rfl rfl]
  exact Steps.refl _
/-- what holds at the law's entry: the machine, the code, the tables' words (any of lw_tbl by 'hts w (by decide +kernel)'), the script of L ints xs at the cell b, what the Statement gives of the start (any of its parts by flat_of_before) -/
def lw_At (p : Program) (s : State) (m : MethodId) (meth : Method) (c : Code) (b L : Nat) (xs : Nat → Int32) : Prop :=
  p.tables.exec = Jvm.exec ∧ c.code = code ∧ meth.sig.returnType = ret ∧ c.maxLocals = 8 ∧ s.vm.findClass R_law = some m.cls ∧ (∀ w ∈ lw_tbl, w.before #[Value.ref b] s = true) ∧ va_X b L xs s s.heap ∧ b < s.heap.size ∧ meth.locks = false ∧ (Jvm.Cond.and given_1 narrow_1).before #[Value.ref b] s = true ∧ meth.name = "law" ∧ c.exceptionTable.isEmpty = true
-- the claim out of a run of the pure machine
theorem xknown {s : State} {a0 : Array Value} (hts : ∀ w ∈ lw_tbl, w.before a0 s = true) : ∃ D : va_G, va_K D xcl [] s := by
  have key : ∀ ci : Nat, ∃ (cC : ClassId) (iS : Nat → Nat), ∀ q, xcl[ci]? = some q → u_Kn s q.1 q.2.1 q.2.2 cC iS := by
    intro ci
    cases hq : xcl[ci]? with
    | none => exact ⟨0, fun _ => 0, fun q h => by cases h⟩
    | some q =>
      have hlt := xcl_lt hq
      by_cases h14 : ci < 14
      · obtain ⟨q', hq', hl, hins, -⟩ := xC_ok h14
        cases hq.symm.trans hq'
        obtain ⟨cC, iS, h⟩ := u_known (C := q.1) (T := q.2.1) (N := q.2.2) (n := q.2.2) hts (fun w hw => by
          obtain ⟨k, hk, rfl⟩ := List.mem_map.mp hw
          exact (hl k (List.mem_range.mp hk)).1) (hts _ hins)
        exact ⟨cC, iS, fun q' h' => by cases h'; exact h⟩
      · obtain ⟨q', hq', h0, hins, -⟩ := xX_ok (by omega) hlt
        cases hq.symm.trans hq'
        obtain ⟨cC, iS, h⟩ := u_known (C := q.1) (T := q.2.1) (N := q.2.2) (n := 6) hts (fun w hw => by
          obtain ⟨k, hk, rfl⟩ := List.mem_map.mp hw
          have := List.mem_range.mp hk
          omega) (hts _ hins)
        exact ⟨cC, iS, fun q' h' => by cases h'; exact h⟩
  exact ⟨(fun ci => Classical.choose (key ci), fun ci => Classical.choose (Classical.choose_spec (key ci))), fun ci q hq => Classical.choose_spec (Classical.choose_spec (key ci)) q hq, fun k q h => by simp at h⟩
theorem xnc_of {s : State} {D : va_G} (hK : va_K D xcl [] s) {i j : Nat} {q r : vw_C} (hi : xcl[i]? = some q) (hj : xcl[j]? = some r) (h : va_Nc q.1 r.1 s) : s.vm.assignable (D.1 i) (D.1 j) = false := by
  obtain ⟨c, t, h1, h2, h3⟩ := h
  have e1 : D.1 i = c := Option.some.inj ((hK.1 i q hi).2.1.symm.trans h1)
  have e2 : D.1 j = t := Option.some.inj ((hK.1 j r hj).2.1.symm.trans h2)
  rw [e1, e2]
  exact h3
theorem va_any0 {C n d : String} {a0 : Array Value} {s : State} (h : (Cond.isRef (.static C n d)).before a0 s = true) : (Cond.isRef (.static C n d)).before #[] s = true := h
theorem xexc {s : State} {D : va_G} {a0 : Array Value} (hK : va_K D xcl [] s) (hgv : (Jvm.Cond.and given_1 narrow_1).before a0 s = true) : xE s D := by
  have hs := flat_of_before _ hgv
  refine ⟨fun i j h1 h2 h3 h4 hne => ?_, va_any0 (hs _ (by decide +kernel)), va_any0 (hs _ (by decide +kernel))⟩
  have hij : (i = 14 ∨ i = 15 ∨ i = 16 ∨ i = 17) ∧ (j = 14 ∨ j = 15 ∨ j = 16 ∨ j = 17) := by omega
  obtain ⟨hi, hj⟩ := hij
  rcases hi with rfl | rfl | rfl | rfl <;> rcases hj with rfl | rfl | rfl | rfl
  · exact absurd rfl hne
  · exact xnc_of hK (q := ("java/lang/IllegalArgumentException", xF_e, 0)) (r := ("java/lang/UnsupportedOperationException", xF_e, 0)) rfl rfl (va_Nc.of (hs (.not (.castable "java/lang/IllegalArgumentException" "java/lang/UnsupportedOperationException")) (by decide +kernel)))
  · exact xnc_of hK (q := ("java/lang/IllegalArgumentException", xF_e, 0)) (r := ("java/util/NoSuchElementException", xF_e, 0)) rfl rfl (va_Nc.of (hs (.not (.castable "java/lang/IllegalArgumentException" "java/util/NoSuchElementException")) (by decide +kernel)))
  · exact xnc_of hK (q := ("java/lang/IllegalArgumentException", xF_e, 0)) (r := ("java/lang/IllegalStateException", xF_e, 0)) rfl rfl (va_Nc.of (hs (.not (.castable "java/lang/IllegalArgumentException" "java/lang/IllegalStateException")) (by decide +kernel)))
  · exact xnc_of hK (q := ("java/lang/UnsupportedOperationException", xF_e, 0)) (r := ("java/lang/IllegalArgumentException", xF_e, 0)) rfl rfl (va_Nc.of (hs (.not (.castable "java/lang/UnsupportedOperationException" "java/lang/IllegalArgumentException")) (by decide +kernel)))
  · exact absurd rfl hne
  · exact xnc_of hK (q := ("java/lang/UnsupportedOperationException", xF_e, 0)) (r := ("java/util/NoSuchElementException", xF_e, 0)) rfl rfl (va_Nc.of (hs (.not (.castable "java/lang/UnsupportedOperationException" "java/util/NoSuchElementException")) (by decide +kernel)))
  · exact xnc_of hK (q := ("java/lang/UnsupportedOperationException", xF_e, 0)) (r := ("java/lang/IllegalStateException", xF_e, 0)) rfl rfl (va_Nc.of (hs (.not (.castable "java/lang/UnsupportedOperationException" "java/lang/IllegalStateException")) (by decide +kernel)))
  · exact xnc_of hK (q := ("java/util/NoSuchElementException", xF_e, 0)) (r := ("java/lang/IllegalArgumentException", xF_e, 0)) rfl rfl (va_Nc.of (hs (.not (.castable "java/util/NoSuchElementException" "java/lang/IllegalArgumentException")) (by decide +kernel)))
  · exact xnc_of hK (q := ("java/util/NoSuchElementException", xF_e, 0)) (r := ("java/lang/UnsupportedOperationException", xF_e, 0)) rfl rfl (va_Nc.of (hs (.not (.castable "java/util/NoSuchElementException" "java/lang/UnsupportedOperationException")) (by decide +kernel)))
  · exact absurd rfl hne
  · exact xnc_of hK (q := ("java/util/NoSuchElementException", xF_e, 0)) (r := ("java/lang/IllegalStateException", xF_e, 0)) rfl rfl (va_Nc.of (hs (.not (.castable "java/util/NoSuchElementException" "java/lang/IllegalStateException")) (by decide +kernel)))
  · exact xnc_of hK (q := ("java/lang/IllegalStateException", xF_e, 0)) (r := ("java/lang/IllegalArgumentException", xF_e, 0)) rfl rfl (va_Nc.of (hs (.not (.castable "java/lang/IllegalStateException" "java/lang/IllegalArgumentException")) (by decide +kernel)))
  · exact xnc_of hK (q := ("java/lang/IllegalStateException", xF_e, 0)) (r := ("java/lang/UnsupportedOperationException", xF_e, 0)) rfl rfl (va_Nc.of (hs (.not (.castable "java/lang/IllegalStateException" "java/lang/UnsupportedOperationException")) (by decide +kernel)))
  · exact xnc_of hK (q := ("java/lang/IllegalStateException", xF_e, 0)) (r := ("java/util/NoSuchElementException", xF_e, 0)) rfl rfl (va_Nc.of (hs (.not (.castable "java/lang/IllegalStateException" "java/util/NoSuchElementException")) (by decide +kernel)))
  · exact absurd rfl hne
def xscr (L : Nat) (xs : Nat → Int32) : xW := [.inl (0, L, fun j => .int (xs j))]
/-- what is owed of the pure machine -/
def xPure (N C S : Nat) : Prop := ∀ (L : Nat) (xs : Nat → Int32), L ≤ N → ∃ n w, xev 1 n 1000 281 0 [(0, .ref 0)] [] (xscr L xs) = some (.inl (some (.int 1)), w) ∧ w.length ≤ C ∧ xsz w ≤ S
set_option maxHeartbeats 4000000 in
theorem whole_of {p : Program} {e : Env} {s : State} {m : MethodId} {below : List Frame} {meth : Method} {c : Code} (hpure : xPure 3072 601024 7293034) (l : Launch) (htr : l.stackTraces = false) {b L : Nat} {xs : Nat → Int32} (hL : L ≤ 3072) (C0 : lw_At p s m meth c b L xs) : W p l e room_1 s m #[Value.ref b] below meth c s.heap [] 0 0 (lw_Z below #[Value.ref b] s) (entryFrame m ([Value.ref b] : List Value).toArray 8) := by
  obtain ⟨hx, hb, hr, hml, hown, hts, hX, hbl, hlocks, hgv, hname, hexc⟩ := C0
  obtain ⟨D, hK⟩ := xknown hts
  obtain ⟨n, w', hev, hwl, hws⟩ := hpure L xs hL
  have A : xadr (fun h => if h = 0 then b else s.heap.size + (h - 1)) 1 s.heap.size := by
    refine ⟨fun h hh => ?_, fun h hh => ?_⟩
    · simp only [if_neg (show ¬ h = 0 by omega)]
      omega
    · have : h = 0 := by omega
      subst this
      exact hbl
  have had : (fun h : Nat => if h = 0 then b else s.heap.size + (h - 1)) 0 = b := rfl
  generalize (fun h : Nat => if h = 0 then b else s.heap.size + (h - 1)) = ad at A had
  have G : xG s D ad 1 := ⟨⟨_, hts⟩, hK, A⟩
  have E : xE s D := xexc hK hgv
  obtain ⟨scr, hscr, hof, hun, hsize, hval⟩ := hX
  have B : xB s D ad 1 (xscr L xs) s.heap [] := by
    refine ⟨fun h cc hw => ?_, rfl, Nat.le_refl _, fun q _ => rfl, fun q hq => by cases hq⟩
    match h, hw with
    | 0, hw =>
      cases hw
      rw [had]
      exact ⟨scr, hscr, ⟨.int, rfl, hof, hun, fun C h => by cases h⟩, hsize, hval⟩
  have F : xF s p s m meth c xlaw := ⟨hx, hb, hml, hr, hlocks, hown, hname, by
    have : c.exceptionTable = #[] := by simpa using hexc
    rw [this]; rfl, State.WarmedH.refl s, Nat.le_refl _, rfl⟩
  have hP : xP s s := fun q ce hq hce => by
    have := (Array.getElem?_eq_some_iff.mp hce).1
    omega
  have hle := xev_le hev
  unfold xle at hle
  have hl := lv_entry ([.ref b]) (n := 8) (Nat.le_of_ble_eq_true rfl)
  rw [lg_entry_eq]
  have e1 : lv_args 0 [Value.ref b] = xlm ad [(0, .ref 0)] := by
    show _ = [(0, Value.ref (ad 0))]
    rw [had]; rfl
  rw [e1] at hl
  have hlen1 : (xscr L xs).length = 1 := rfl
  have K := xev_sound (l := l) G E htr n 1000 281 0 [(0, .ref 0)] [] (xscr L xs) _ w' xlaw rfl hev p e room_1 s m #[Value.ref b] below meth c s.heap [] 0 0 _ (w'.length - 1) (xsz w' - xsz (xscr L xs)) F hP hl B (by decide) (by decide) (by omega) (by omega)
    (by show _ ≤ 601024; omega) (by show _ ≤ 7293034; omega)
  refine xW_mono (fun t ht => ?_) K
  obtain ⟨oc, LL, h1, h2, h3, h4, h5, h6⟩ := ht
  have h3 : oc = .returned (some (.int 1)) := h3
  subst h3
  exact ⟨_, h1, h2, rfl, ⟨_, rfl⟩, h4, h5.weaken (fun y hy hlt => absurd hlt (Nat.not_lt.mpr (h6.2.2.2.2 y hy))) (by omega) (by omega)⟩
-- ===== YOUR PART ENDS =====
set_option maxHeartbeats 4000000 in
theorem lw_walk (hpure : xPure 3072 601024 7293034) (l : Launch) (htr : l.stackTraces = false) (b : Addr) (xs : List Int32) : MetFree l x (headSpec (Jvm.Cond.code x code maxLocals ret :: tables_1) room_1) (lw_P b xs) (fun _ _ _ _ _ => True) lw_Q := by
  refine MetFree.of_bodyS (code := code) (maxLocals := maxLocals) (ret := ret) (by decide) ?_ ?_
  · intro args s m h hn
    obtain ⟨meth, c, h1, h2, h3, h4, h5, h6, -, -⟩ := Cond.code_spec hn (atoms_spec (ws := Jvm.Cond.code x code maxLocals ret :: tables_1) h _ List.mem_cons_self)
    exact ⟨meth, c, h1, h2, h3, h4, h5, h6⟩
  · intro p e s m args below meth c s₁ B hml0 hP _
    obtain ⟨rfl, hx, hbd, hgv⟩ := hP
    obtain ⟨scr, harrAt, hlist, hof, hsmall⟩ := hx
    obtain ⟨hcb, hkn, -, -⟩ := State.arrayAt?_spec harrAt
    have hown : s.vm.findClass R_law = some m.cls := findClass_of_methodNamed B.named
    have hts0 : ∀ c ∈ (Jvm.Cond.code x code maxLocals ret :: tables_1), c.before #[Value.ref b] s = true := atoms_spec (ws := Jvm.Cond.code x code maxLocals ret :: tables_1) B.pre
    have hts : ∀ w ∈ lw_tbl, w.before #[Value.ref b] s = true := k2_hts_sels lw_privs (fun w hw => hts0 w (List.mem_cons_of_mem _ hw)) lw_privs_ok
    have hml : c.maxLocals = 8 := B.maxLocals_eq (hts0 _ List.mem_cons_self)
    have X₀ : Stand p l e room_1 s m #[Value.ref b] below meth c s₁ [] 0 0 := Stand.of_body B
    have hh0 : s₁.heap = s.heap := by rw [B.state]; rfl
    have hsz : scr.slots.size = xs.length := by rw [← Array.length_toList, hlist, List.length_map]
    have hval : ∀ j : Nat, j < xs.length → scr.slots[j]? = some (.int (xs.getD j 0)) := fun j hj => by
      rw [← Array.getElem?_toList, hlist]
      simp [hj]
    have hbl : b < s.heap.size := (Array.getElem?_eq_some_iff.mp hcb).1
    have hX : va_X b xs.length (fun j => xs.getD j 0) s s.heap := ⟨scr, hcb, hof, hkn, hsz, hval⟩
    have K : W p l e room_1 s m #[Value.ref b] below meth c s₁.heap [] 0 0 (lw_Z below #[Value.ref b] s) (entryFrame m ([Value.ref b] : List Value).toArray 8) := by
      rw [hh0]
      have hexc : c.exceptionTable.isEmpty = true := by
        obtain ⟨meth', c', h1, h2, -, -, -, -, h7, -⟩ := Cond.code_spec B.named (hts0 _ List.mem_cons_self)
        cases B.method.symm.trans h1
        cases X₀.code.symm.trans h2
        exact h7
      exact whole_of hpure l htr hbd ⟨B.exec, B.bytes, B.returns, hml, hown, hts, hX, hbl, B.notSynchronized, hgv, (name_of_methodNamed B.named B.method).1, hexc⟩
    obtain ⟨t, a1, o, b1, b2, b3⟩ := K s₁ rfl X₀
    exact ⟨t, o, a1, b1, b2, b3⟩
theorem lw_pre_spec {args : Array Value} {s : State} (h : (Jvm.Cond.and given_1 narrow_1).before args s = true) (hr : rest_1_c.before args s = true) : ∃ (b : Addr) (xs : List Int32), lw_P b xs args s := by
  have hs := flat_of_before _ h
  have hq := flat_of_before _ hr
  have hc : (Cond.count 1).before args s = true := hs _ (by decide +kernel)
  have harr : (Cond.arrayOf (.arg 0) .int).before args s = true := hs _ (by decide +kernel)
  have hle : (Cond.le (.length (.arg 0)) (.int 3072)).before args s = true := hs _ (by decide +kernel)
  have hlen : (Cond.isInt (.length (.arg 0))).before args s = true := hq _ (by decide +kernel)
  have hall : (Cond.all (.arg 0) (.isInt (.elem (.arg 0) (.index 0)))).before args s = true := hq _ (by decide +kernel)
  obtain ⟨b, xs, hb, hx⟩ := State.ints_of_pre rfl harr hlen hall
  have hsm : xs.length < 2 ^ 31 := hx.choose_spec.2.2.2
  have hev : (Term.length (.arg 0)).eval args s none [] s = some (.int xs.length.toInt32) := hx.length_eval hb
  have hv := Cond.le_ints hev (show (Term.int 3072).eval args s none [] s = some (.int 3072) from rfl)
  have hd : xs.length.toInt32 ≤ 3072 := by
    simpa [Cond.before, Cond.holds, hv] using hle
  have hN : xs.length ≤ 3072 := (Int32.ofNat_le_ofNat hsm (by decide)).mp (show Int32.ofNat xs.length ≤ Int32.ofNat 3072 from hd)
  exact ⟨b, xs, Cond.one_arg hc (show args[0]? = some (.ref b) from hb), hx, hN, h⟩
theorem lw_comes (hpure : xPure 3072 601024 7293034) (l : Launch) (htr : l.stackTraces = false) : Comes l x (Jvm.Cond.code x code maxLocals ret :: tables_1) room_1 (fun tb e args s => Calls_1 tb e args s ∧ rest_1 tb e args s ∧ Pre_1 tb e args s)
    (fun _ _ args s o t => lw_Q args s o t) := by
  intro p e ha hc hk s m args below hf hfit hheap happ hpre
  obtain ⟨b, xs, hP⟩ := lw_pre_spec hpre.2.2 hpre.2.1
  obtain ⟨k, o, h1, h2, h3, hQ⟩ := lw_walk hpure l htr b xs p e ha hc hk s m args below hf ((Spec.applies_iff_loose hf).mp happ).1 hP trivial
  exact ⟨k, o, h1, h2, h3, hQ⟩
theorem lw_frame {s t : State} {o : Outcome} {args : Array Value} (h : Framed s o t [] 601024 7293034) :
    Framed s o t (fieldLocs frame_1_writes args s ++ arrayLocs frame_1_arrays args s ++ staticLocs frame_1_statics s) 601024 7293034 := h
theorem lw_limb (hpure : xPure 3072 601024 7293034) (L : Cond) (hL : ∀ (args : Array Value) (s t : State), L.after args s (.returned (some (.int 1))) t = true) :
    ArmFor flags0 classFile x code maxLocals ret World_1 tables_1 room_1 Calls_1 rest_1 Pre_1
      (fun tb e a s o t => postC L tb e a s o t ∧ Framed s o t (fieldLocs frame_1_writes a s ++ arrayLocs frame_1_arrays a s ++ staticLocs frame_1_statics s) 601024 7293034) := by
  intro l hfl _ _ p e ha hc hk s m args below hf hfit hheap happ hpre
  obtain ⟨k, o, h1, h2, h3, rfl, hF⟩ := lw_comes hpure l (by unfold Launch.stackTraces; rw [hfl]; decide +kernel) p e ha hc hk s m args below hf hfit hheap happ hpre
  exact ⟨k, _, h1, h2, h3, hL args s _, lw_frame hF⟩
theorem claim_of (hpure : xPure 3072 601024 7293034) : Claimed_1_1 ∧ Claimed_1_2 := ⟨lw_limb hpure limb_1_1 (fun args s t => by simp [limb_1_1, Cond.after, Cond.holds, Cond.value]), lw_limb hpure limb_1_2 (fun args s t => Cond.after_iff.mpr (by
  first | (rw [show limb_1_2 = Cond.eq .result (.int 1) from rfl, Cond.eq_ints (x := 1) (y := 1) rfl rfl]; simp; done) | (simp [limb_1_2, Cond.value, Term.eval]; done)))⟩
