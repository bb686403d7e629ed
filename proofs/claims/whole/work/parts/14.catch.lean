/-! the pure machine is sound: handlers -/
theorem xfh_cold {E : CtlPost} {e : Env} {d : Bool} {acts : List Action} {S : State} {f : JFrame} {a : Addr} {Q : Handler → Pre} {x : ExceptionTableEntry} {t : List ExceptionTableEntry} {c : ClassId} {ce : Cell} {vm' : Vm}
    (hx : covers x f.pc = true) (h0 : x.catchType ≠ 0) (hg : (Jvm.resolveClass f.method.cls x.catchType).Gives e.toSetting S.vm (.ok c) vm') (hsz : vm'.classes.size ≤ S.vm.classes.size)
    (hcell : S.heap[a]? = some ce) (hobj : ∀ k, ce.vm ≠ .statics k) (hk : ∃ k, vm'.classes[ce.cls]? = some k) (hc : ∃ k, vm'.classes[c]? = some k) :
    wp (findHandler.go f a (x :: t)) Q E e d acts S ↔ if vm'.assignable ce.cls c = true then Q (.found x.handlerPc) d acts (S.setVm vm') else wp (findHandler.go f a t) Q E e d acts (S.setVm vm') := by
  simp only [covers] at hx
  obtain ⟨ha, ht⟩ := hg.op (op := VmOp.resolveClass f.method.cls x.catchType) rfl
  cases hfit : vm'.assignable ce.cls c <;>
    simp [findHandler.go, hx, h0, ha, ht, hsz, hcell, hobj, hk, hc, hfit, VmOp.dirties, VmOp.acts]
section XS8
variable {p : Program} {l : Launch} {e : Env} {R : Room} {s : State} {m : MethodId} {args : Array Value} {below : List Frame} {meth : Method} {c : Code} {H : Heap} {locs : List Loc} {cells slots : Nat} {Q : State → Prop} {T : State}
variable {pc : Nat} {ls : Array Slot} {s0 : State} {D : va_G} {ad : xA} {X : Nat} {M : xM}
theorem xcatch_none {cn ci : Nat} : ∀ {tbl : List ExceptionTableEntry} {seen : Bool}, xcatch cn pc ci seen (tbl.map (fun h => (h.startPc, h.endPc, h.handlerPc, h.catchType))) = some none → seen = false ∧ ∀ x ∈ tbl, covers x pc = false
  | [], seen, h => by
    cases seen with
    | true => cases h
    | false => exact ⟨rfl, fun x hx => by cases hx⟩
  | x :: t, seen, h => by
    simp only [List.map_cons, xcatch] at h
    cases hc : (Nat.ble x.startPc pc && Nat.blt pc x.endPc) with
    | false =>
      rw [hc] at h
      obtain ⟨h1, h2⟩ := xcatch_none h
      refine ⟨h1, fun y hy => ?_⟩
      rcases List.mem_cons.mp hy with rfl | hy
      · rw [Bool.and_eq_false_iff] at hc
        simp only [covers, Bool.and_eq_false_iff, decide_eq_false_iff_not]
        rcases hc with h | h
        · left
          intro hz
          rw [Nat.ble_eq_true_of_le hz] at h
          cases h
        · right
          intro hz
          have : Nat.blt pc y.endPc = true := Nat.ble_eq_true_of_le hz
          rw [this] at h
          cases h
      · exact h2 y hy
    | true =>
      rw [hc] at h
      simp only [cond_true] at h
      split at h
      · rename_i cj pos _
        cases h0 : Nat.beq x.catchType 0 with
        | true => rw [h0] at h; cases h
        | false =>
          rw [h0] at h
          simp only [cond_false] at h
          cases hcj : Nat.beq ci cj with
          | true => rw [hcj] at h; cases h
          | false =>
            rw [hcj] at h
            exact absurd (xcatch_none h).1 (by simp)
      · cases h
set_option maxHeartbeats 4000000 in
theorem xcatch_wp (G : xG s0 D ad X) (E2 : xE s0 D) (hown : s.vm.findClass (xn M).cls = some m.cls) (hcn : xcn[xcno M]? = some (xn M).cls) (hW : s0.WarmedH s.vm) (hpl : e.platform.magicAccessors = ({} : Platform).magicAccessors) {S : State} {a : Addr} {ce : Cell} {ci hp : Nat} {q : vw_C} {st : List Value}
    (hcell : S.heap[a]? = some ce) (hq : xcl[ci]? = some q) (hge : 14 ≤ ci) (hli : ci < 18) (hcls : ce.cls = D.1 ci) (hvm : ce.vm = .none) :
    ∀ (tbl : List ExceptionTableEntry) (seen : Bool) (vm0 : Vm), s.WarmedH vm0 → xcatch (xcno M) pc ci seen (tbl.map (fun h => (h.startPc, h.endPc, h.handlerPc, h.catchType))) = some (some hp) →
      ∃ vm2, s.WarmedH vm2 ∧ ∀ (Q : Handler → Pre) (E : CtlPost) (d : Bool) (acts : List Action), wp (findHandler.go (F0 m pc ls st) a tbl) Q E e d acts (S.setVm vm0) ↔ Q (.found hp) d acts (S.setVm vm2)
  | [], seen, vm0, hw0, h => by
    cases seen <;> cases h
  | x :: t, seen, vm0, hw0, h => by
    simp only [List.map_cons, xcatch] at h
    cases hc : (Nat.ble x.startPc pc && Nat.blt pc x.endPc) with
    | false =>
      rw [hc] at h
      obtain ⟨vm2, h1, h2⟩ := xcatch_wp (st := st) G E2 hown hcn hW hpl hcell hq hge hli hcls hvm t seen vm0 hw0 h
      refine ⟨vm2, h1, fun Q E d acts => ?_⟩
      rw [W.findHandler_go_skip, h2]
      rw [Bool.and_eq_false_iff] at hc
      simp only [covers, Bool.and_eq_false_iff, decide_eq_false_iff_not]
      rcases hc with h | h
      · left
        intro hz
        rw [Nat.ble_eq_true_of_le hz] at h
        cases h
      · right
        intro hz
        have : Nat.blt pc x.endPc = true := Nat.ble_eq_true_of_le hz
        rw [this] at h
        cases h
    | true =>
      rw [hc] at h
      simp only [cond_true] at h
      split at h
      · rename_i cj pos hlook
        cases h0 : Nat.beq x.catchType 0 with
        | true => rw [h0] at h; cases h
        | false =>
          rw [h0] at h
          simp only [cond_false] at h
          have h0' : x.catchType ≠ 0 := fun z => by rw [z] at h0; cases h0
          rw [Bool.and_eq_true] at hc
          have hcov : covers x (F0 m pc ls st).pc = true := by
            simp only [covers, Bool.and_eq_true, decide_eq_true_eq]
            exact ⟨Nat.le_of_ble_eq_true hc.1, xblt hc.2⟩
          obtain ⟨wd, hwd, hmem⟩ := xlook_ok hlook
          simp only [xword] at hwd
          cases h14 : (Nat.blt cj 14 || Nat.ble 18 cj) with
          | true => rw [h14] at hwd; cases hwd
          | false =>
            rw [h14] at hwd
            simp only [cond_false, Option.map_eq_some_iff] at hwd
            obtain ⟨qj, hqj, rfl⟩ := hwd
            obtain ⟨hgj, hlj⟩ := xrng h14
            rw [xown_eq hcn, show (x.catchType * 4 + 2) / 4 = x.catchType by omega] at hmem
            obtain ⟨cc, hfcc, hcl⟩ := Cond.classLink_spec hown (G.word hW hmem rfl #[]) e.platform hpl
            obtain ⟨hg1, hwarm1, -⟩ := State.classEntry (e := e) hw0 hcl
            have hKj := ((va_K.moved hW.alike G.2.1).1 cj qj hqj).2
            have hcj : cc = D.1 cj := Option.some.inj (hfcc.symm.trans hKj.1)
            subst hcj
            have hal : s0.vm.Alike (vm0.noted m.cls x.catchType (.cls (D.1 cj))) := hW.alike.trans hwarm1.alike
            have hat : ∀ i' q', xcl[i']? = some q' → ∃ k, (vm0.noted m.cls x.catchType (.cls (D.1 cj))).classes[D.1 i']? = some k := by
              intro i' q' hi'
              obtain ⟨-, kk, hkk, -⟩ := (G.2.1.1 i' q' hi').2
              obtain ⟨k2, hk2, -⟩ := hal.2.2 _ _ hkk
              exact ⟨k2, hk2⟩
            have hsz : (vm0.noted m.cls x.catchType (.cls (D.1 cj))).classes.size ≤ vm0.classes.size := by no_record
            have key := fun (Q : Handler → Pre) (E : CtlPost) (d : Bool) (acts : List Action) => xfh_cold (E := E) (e := e) (d := d) (acts := acts) (S := S.setVm vm0) (f := F0 m pc ls st) (a := a) (Q := Q) (x := x) (t := t) (ce := ce) hcov h0' hg1 hsz hcell (fun k hk => by rw [hvm] at hk; cases hk) (by rw [hcls]; exact hat ci q hq) (hat cj qj hqj)
            cases hcij : Nat.beq ci cj with
            | true =>
              rw [hcij] at h
              cases h
              have hcij := Nat.eq_of_beq_eq_true hcij
              refine ⟨_, hwarm1, fun Q E d acts => (key Q E d acts).trans ?_⟩
              have hass : (vm0.noted m.cls x.catchType (.cls (D.1 cj))).assignable ce.cls (D.1 cj) = true := by
                rw [hcls, hcij, hal.assignable]
                exact va_assign (s := s0) (C := qj.1) (G.2.1.1 cj qj hqj).2
              rw [if_pos hass]
              rfl
            | false =>
              rw [hcij] at h
              have hne : ci ≠ cj := fun z => by rw [z, Nat.beq_refl] at hcij; cases hcij
              obtain ⟨vm2, h1, h2⟩ := xcatch_wp (st := st) G E2 hown hcn hW hpl hcell hq hge hli hcls hvm t true _ hwarm1 h
              refine ⟨vm2, h1, fun Q E d acts => (key Q E d acts).trans ?_⟩
              have hass : (vm0.noted m.cls x.catchType (.cls (D.1 cj))).assignable ce.cls (D.1 cj) = false := by
                rw [hcls, hal.assignable]
                exact E2.1 ci cj hge hli hgj hlj hne
              rw [if_neg (by rw [hass]; decide)]
              exact h2 Q E d acts
      · cases h
theorem xcaught (Y : Stand p l e R s m args below meth c T locs cells slots) {a : Addr} {g : JFrame} (hg : g.method = m) {hp : Nat} {vm2 : Vm}
    (hfind : ∀ (Q : Handler → Pre) (E : CtlPost) (d : Bool) (acts : List Action), wp (findHandler g a) Q E e d acts ((T.setTop g).pushFrame (.throwing a)) ↔ Q (.found hp) d acts (((T.setTop g).pushFrame (.throwing a)).setVm vm2)) {target : State}
    (hrest : Steps p.tables e below ((T.setVm vm2).setTop { g with pc := hp, stack := [.ref a] }) target) : Steps p.tables e below ((T.setTop g).pushFrame (.throwing a)) target := by
  have h : At T g.method c below := by rw [hg]; exact Y.here
  obtain ⟨hgo, hw⟩ := h.throwing a
  refine Steps.head hgo hw ?_
  have hst : (stepThrowing e ((T.setTop g).pushFrame (.throwing a)) a (.java g :: T.frames.tail)).1 = (((T.setTop g).pushFrame (.throwing a)).setVm vm2).setFrames (.java { g with pc := hp, stack := [.ref a] } :: T.frames.tail) := by
    simp only [stepThrowing, searchFrame, vmDo]
    generalize hr : Sem.go _ e false [] ((T.setTop g).pushFrame (.throwing a)) = res
    obtain ⟨as, rfl, ha⟩ := Sem.eq_ok_of hr (a := Handler.found hp) (s' := ((T.setTop g).pushFrame (.throwing a)).setVm vm2) (acts' := []) (by simp [hfind _ _ _ _])
    rfl
  rw [stepThread_throwing (frames_entered h.top _), hst]
  obtain ⟨g₀, hg0⟩ := Option.isSome_iff_exists.mp h.top
  obtain ⟨r, hr⟩ := State.topJava?_eq_some.mp hg0
  have hr2 : (T.setVm vm2).frames = .java g₀ :: r := hr
  rw [State.setTop_of_frames _ hr2] at hrest
  have e1 : (((T.setTop g).pushFrame (.throwing a)).setVm vm2).setFrames (.java { g with pc := hp, stack := [.ref a] } :: T.frames.tail) = (T.setVm vm2).setFrames (.java { g with pc := hp, stack := [.ref a] } :: r) := by
    have e2 : (T.setTop g).pushFrame (.throwing a) = T.setFrames (.throwing a :: .java g :: r) := by
      rw [State.pushFrame, State.frames_setTop _ hr, State.setTop_of_frames _ hr, State.setFrames_setFrames]
    rw [e2, hr]
    show ((T.setVm vm2).setFrames _).setFrames _ = _
    rw [State.setFrames_setFrames]
    rfl
  rw [e1]
  exact hrest
end XS8
