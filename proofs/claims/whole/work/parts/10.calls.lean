/-! the pure machine is sound: calls -/
theorem xlv_args (ad : xA) : ∀ (i : Nat) (vs : List Value), lv_args i (vs.map (xv ad)) = xlm ad (lv_args i vs)
  | _, [] => rfl
  | i, v :: vs => by
    simp only [List.map_cons, lv_args, xlm, xv_cat]
    rw [xlv_args ad _ vs]
    rfl
theorem xlg_len (ad : xA) (vs : List Value) : (lg_sl (vs.map (xv ad))).length = (lg_sl vs).length := by
  induction vs with
  | nil => rfl
  | cons v vs ih =>
    simp only [lg_sl, List.map_cons, List.flatMap_cons, List.length_append] at ih ⊢
    rw [ih]
    congr 1
    rw [xv_cat]
    split <;> rfl
theorem xcat_map (ad : xA) (vs : List Value) : ((vs.map (xv ad)).map (fun v => v.category)).sum = xcat vs := by
  rw [List.map_map]
  unfold xcat
  congr 2
  funext v
  exact xv_cat ad v
theorem xg_cw (M : xM) : xgood (xcw M) = true := by
  unfold xcw
  split <;> rfl
/-- a method of the tables, at a state whose tables are warmer than the law's entry's -/
theorem xG.code {s0 : State} {D : va_G} {ad : xA} {X : Nat} (G : xG s0 D ad X) {U : State} (hW : s0.WarmedH U.vm) {N : xM} (hN : xMok N) :
    ∃ (mk : MethodId) (methM : Method) (cM : Code), U.methodNamed? (xn N) = some mk ∧ U.vm.method? mk = some methM ∧ methM.code = some cM ∧ cM.code = xby N ∧ cM.maxLocals = xmx N ∧ methM.sig.returnType = xrt N ∧ methM.locks = false ∧
      cM.exceptionTable.toList.map (fun h => (h.startPc, h.endPc, h.handlerPc, h.catchType)) = xhh N ∧ parseMethodDescriptor (xn N).desc = some methM.sig := by
  have h := G.word hW hN.1 (xg_cw N) #[]
  unfold xcw at h
  split at h
  · rename_i hh
    obtain ⟨mk, hn⟩ := Cond.code_named h
    obtain ⟨methM, cM, h1, h2, h3, h4, h5, h6, h7, h8⟩ := Cond.code_spec hn h
    refine ⟨mk, methM, cM, hn, h1, h2, h3, h4, h5, h6, ?_, h8⟩
    rw [hh]
    have : cM.exceptionTable = #[] := by simpa using h7
    rw [this]
    rfl
  · rename_i a r hh
    obtain ⟨mk, methM, cM, hn, h1, h2, h3, h4, h7, h5, h6, h8⟩ := Cond.codeWith_spec h
    exact ⟨mk, methM, cM, hn, h1, h2, h3, h4, h5, h6, by rw [hh]; exact h7, h8⟩
section XS4
variable {p : Program} {l : Launch} {e : Env} {R : Room} {s : State} {m : MethodId} {args : Array Value} {below : List Frame} {meth : Method} {c : Code} {H : Heap} {locs : List Loc} {cells slots : Nat} {Q : State → Prop}
variable {pc : Nat} {ls : Array Slot} {s0 : State} {D : va_G} {ad : xA} {X : Nat} {M : xM}
/-- the invoking instruction, up to the callee's entry -/
def xGoes (p : Program) (l : Launch) (e : Env) (R : Room) (s : State) (m : MethodId) (args : Array Value) (below : List Frame) (meth : Method) (c : Code) (T : State) (locs : List Loc) (cells slots : Nat) (g g' : JFrame) (mk : MethodId) (a : Array Value) : Prop :=
  ∃ vm₁ : Vm, Stand p l e R s m args below meth c (T.setVm vm₁) locs cells slots ∧ ∀ target, Steps p.tables e below (doInvoke e ((T.setVm vm₁).setTop g') [] mk a).1 target → Steps p.tables e below (T.setTop g) target
theorem xtd (st : List Value) (n : Nat) (ad : xA) : st.map (xv ad) = (((st.take n).reverse).map (xv ad)).reverse ++ (st.drop n).map (xv ad) := by
  rw [← List.map_reverse, List.reverse_reverse, ← List.map_append, List.take_append_drop]
set_option maxHeartbeats 4000000 in
theorem xinv_sound (G : xG s0 D ad X) (F : xF s0 p s m meth c M) {T : State} (Y : Stand p l e R s m args below meth c T locs cells slots) {w : xW} (B : xB s0 D ad X w T.heap locs) {i : Instr} {st as rest : List Value} {t len : Nat} {N : xM}
    (h : xcall M i st w = some (t, as, rest)) (hN : xms[t]? = some N) (hd : decode (xby M) pc = .ok (i, len)) (hlen : len = xlen i) :
    len = 3 ∧ xMok N ∧ ∃ mk, s.methodNamed? (xn N) = some mk ∧ xGoes p l e R s m args below meth c T locs cells slots (F0 m pc ls (st.map (xv ad))) (F0 m pc ls (rest.map (xv ad))) mk (as.map (xv ad)).toArray := by
  subst hlen
  obtain ⟨hx, hb, hml, hr, hlk, hown, hnm, hexc, hW, hsz, hcn⟩ := F
  have hMok : xkd N ≠ 7 → xMok N := by
    intro hk
    rcases xms_ok hN with rfl | h
    · exact absurd rfl hk
    · exact h
  cases i
  case invokestatic idx =>
    simp only [xcall] at h
    split at h
    · rename_i t' pos hlook
      split at h
      · rename_i N' hN'
        cases hc : (Nat.beq (xkd N') 0 && Nat.ble (xna N') st.length) with
        | false => rw [hc] at h; cases h
        | true =>
          rw [hc] at h
          cases h
          cases hN.symm.trans hN'
          rw [Bool.and_eq_true] at hc
          have hk0 := Nat.eq_of_beq_eq_true hc.1
          have hna := Nat.le_of_ble_eq_true hc.2
          have hok := hMok (by omega)
          obtain ⟨mk, methM, cM, hnamed, hmethM, -, -, -, -, -, -, hsig⟩ := G.code hW hok
          obtain ⟨wd, hwd, hmem⟩ := xlook_ok hlook
          simp only [xword, hN, Option.map_some] at hwd
          cases hwd
          rw [xown_eq hcn, show idx * 4 / 4 = idx by omega] at hmem
          have hstatic : methM.isStatic = true := Cond.static_spec hnamed hmethM (G.word hW (hok.2.2.1 hk0) rfl args)
          obtain ⟨kP, hkP, -⟩ := className_of_methodNamed hnamed
          have hinitP : kP.init = .initialized := Cond.initialized_spec (findClass_of_methodNamed hnamed) hkP (G.word hW hok.2.1 rfl args)
          have hparm := hok.2.2.2.2.2.1
          rw [hsig] at hparm
          have hparm : methM.sig.parameters.length = xna N := Option.some.inj hparm
          obtain ⟨vm₁, X₁, hstep₁⟩ := Y.invokestatic hx hown (G.word hW hmem rfl args) hnamed hmethM hstatic hkP hinitP hok.2.2.2.2.2.2.1 (g := F0 m pc ls (st.map (xv ad))) rfl (argsL := ((st.take (xna N)).reverse).map (xv ad)) (rest := (st.drop (xna N)).map (xv ad))
            (by rw [List.length_map, List.length_reverse, List.length_take, hparm]; omega) (xtd st (xna N) ad) (by rw [hb]; exact hd)
          exact ⟨rfl, hok, mk, hnamed, vm₁, X₁, fun target h => hstep₁ _ fun acts => by rw [doInvoke_state]; exact h⟩
      · cases h
    · cases h
  case invokevirtual idx =>
    simp only [xcall] at h
    split at h
    · rename_i kk t' pos hlook
      split at h
      · rename_i N' hN'
        cases hc : ((Nat.beq kk 1 || Nat.beq kk 2 || Nat.beq kk 12) && Nat.beq (xkd N') 1 && Nat.ble (xna N') st.length) with
        | false => rw [hc] at h; cases h
        | true =>
          rw [hc] at h
          simp only [cond_true] at h
          split at h
          · rename_i h0 rest' hdrop
            split at h
            · rename_i ci fs hw
              cases hci : Nat.beq ci (xcno N') with
              | false => rw [hci] at h; cases h
              | true =>
                rw [hci] at h
                cases h
                cases hN.symm.trans hN'
                simp only [Bool.and_eq_true, Bool.or_eq_true] at hc
                obtain ⟨⟨hkk, hk1⟩, hna⟩ := hc
                have hk1 := Nat.eq_of_beq_eq_true hk1
                have hna := Nat.le_of_ble_eq_true hna
                have hci := Nat.eq_of_beq_eq_true hci
                have hok := hMok (by omega)
                obtain ⟨mk, methM, cM, hnamed, hmethM, -, -, -, -, -, -, hsig⟩ := G.code hW hok
                obtain ⟨wi, wsel, wcls⟩ := hok.2.2.2.1 hk1
                obtain ⟨mk', methM', hnamed', hmethM', hstM, habM⟩ := Cond.instanceMethod_spec (G.word hW wi rfl args)
                cases hnamed.symm.trans hnamed'
                cases hmethM.symm.trans hmethM'
                have hparm := hok.2.2.2.2.2.1
                rw [hsig] at hparm
                have hparm : methM.sig.parameters.length = xna N := Option.some.inj hparm
                obtain ⟨r', hr', ce, g1, g2, g3, -⟩ := B.1 h0 _ hw
                have hcls : s.vm.findClass (xn N).cls = some ce.cls := by
                  have h1 := ((va_K.moved hW.alike G.2.1).1 ci r' hr').2.1
                  rw [hci] at hr'
                  rw [hr'] at wcls
                  rw [g2, ← h1]
                  congr 1
                  exact (Option.some.inj wcls).symm
                obtain ⟨c2, r2, m2, q1, q2, q3, q4, kP, hkP, hkPi⟩ := Cond.selects_spec (G.word hW wsel rfl args)
                cases hcls.symm.trans q1
                cases (State.methodFound?_of_named hnamed hok.2.2.2.2.2.2.1).symm.trans q2
                cases hnamed.symm.trans q3
                have hselP : selectMethod e.platform s.vm ce.cls mk = .method mk := by rw [Launch.admits_selectMethod Y.admits]; exact q4
                have hst : st.map (xv ad) = (((st.take (xna N)).reverse).map (xv ad)).reverse ++ .ref (ad.1 h0) :: rest.map (xv ad) := by
                  rw [xtd st (xna N) ad, hdrop]
                  rfl
                have hl1 : (((st.take (xna N)).reverse).map (xv ad)).length = methM.sig.parameters.length := by
                  rw [List.length_map, List.length_reverse, List.length_take, hparm]; omega
                obtain ⟨wd, hwd, hmem⟩ := xlook_ok hlook
                rcases hkk with (hkk | hkk) | hkk
                · have hkk := Nat.eq_of_beq_eq_true hkk
                  subst hkk
                  simp only [xword, hN, Option.map_some] at hwd
                  cases hwd
                  rw [xown_eq hcn, show idx * 4 / 4 = idx by omega] at hmem
                  obtain ⟨vm₁, X₁, hstep₁⟩ := Y.invokevirtual hx hown (G.word hW hmem rfl args) hnamed hmethM hstM hkP hkPi hok.2.2.2.2.2.2.1 (a := ad.1 h0) (cell := ce) g1 (fun z h => g3.ns z h) hselP hmethM habM hkP hkPi (g := F0 m pc ls (st.map (xv ad))) rfl hl1 hst (by rw [hb]; exact hd)
                  exact ⟨rfl, hok, mk, hnamed, vm₁, X₁, fun target h => hstep₁ _ fun acts => by rw [doInvoke_state]; exact h⟩
                · have hkk := Nat.eq_of_beq_eq_true hkk
                  subst hkk
                  simp only [xword, hN, Option.map_some] at hwd
                  cases hwd
                  rw [xown_eq hcn, show idx * 4 / 4 = idx by omega] at hmem
                  obtain ⟨vm₁, X₁, hstep₁⟩ := Y.invokevirtualNest hx hown (G.word hW hmem rfl args) hnamed hmethM hstM hkP hkPi hok.2.2.2.2.2.2.1 (a := ad.1 h0) (cell := ce) g1 (fun z h => g3.ns z h) hselP hmethM habM hkP hkPi (g := F0 m pc ls (st.map (xv ad))) rfl hl1 hst (by rw [hb]; exact hd)
                  exact ⟨rfl, hok, mk, hnamed, vm₁, X₁, fun target h => hstep₁ _ fun acts => by rw [doInvoke_state]; exact h⟩
                · have hkk := Nat.eq_of_beq_eq_true hkk
                  subst hkk
                  simp only [xword, hN, Option.map_some] at hwd
                  cases hwd
                  rw [xown_eq hcn, show idx * 4 / 4 = idx by omega] at hmem
                  obtain ⟨vm₁, X₁, hstep₁⟩ := Y.invokevirtualNest hx hown (G.word hW hmem rfl args) hnamed hmethM hstM hkP hkPi hok.2.2.2.2.2.2.1 (a := ad.1 h0) (cell := ce) g1 (fun z h => g3.ns z h) hselP hmethM habM hkP hkPi (g := F0 m pc ls (st.map (xv ad))) rfl hl1 hst (by rw [hb]; exact hd)
                  exact ⟨rfl, hok, mk, hnamed, vm₁, X₁, fun target h => hstep₁ _ fun acts => by rw [doInvoke_state]; exact h⟩
            · cases h
          · cases h
      · cases h
    · cases h
  case invokespecial idx =>
    simp only [xcall] at h
    split at h
    · rename_i kk t' pos hlook
      split at h
      · rename_i N' hN'
        cases hc : ((Nat.beq kk 1 || Nat.beq kk 2 || Nat.beq kk 12) && Nat.beq (xkd N') 2 && Nat.ble (xna N') st.length) with
        | false => rw [hc] at h; cases h
        | true =>
          rw [hc] at h
          simp only [cond_true] at h
          split at h
          · rename_i h0 rest' hdrop
            cases h
            cases hN.symm.trans hN'
            simp only [Bool.and_eq_true, Bool.or_eq_true] at hc
            obtain ⟨⟨hkk, hk1⟩, hna⟩ := hc
            have hk1 := Nat.eq_of_beq_eq_true hk1
            have hna := Nat.le_of_ble_eq_true hna
            have hok := hMok (by omega)
            obtain ⟨wi, hini, hrn, hhn⟩ := hok.2.2.2.2.1 hk1
            have hparm := hok.2.2.2.2.2.1
            have hl1 : ∀ sig, parseMethodDescriptor (xn N).desc = some sig → (((st.take (xna N)).reverse).map (xv ad)).length = sig.parameters.length := by
              intro sig hsig
              rw [hsig] at hparm
              have hparm : sig.parameters.length = xna N := Option.some.inj hparm
              rw [List.length_map, List.length_reverse, List.length_take, hparm]; omega
            have hst : st.map (xv ad) = (((st.take (xna N)).reverse).map (xv ad)).reverse ++ .ref (ad.1 h0) :: rest.map (xv ad) := by
              rw [xtd st (xna N) ad, hdrop]
              rfl
            have hcode : (Cond.code (xn N) (xby N) (xmx N) none).before args s = true := by
              have := G.word hW hok.1 (xg_cw N) args
              unfold xcw at this
              rw [hhn, hrn] at this
              exact this
            have hpl : e.platform.magicAccessors = ({} : Platform).magicAccessors := by rw [Y.admits.platform]
            obtain ⟨wd, hwd, hmem⟩ := xlook_ok hlook
            rcases hkk with (hkk | hkk) | hkk
            · have hkk := Nat.eq_of_beq_eq_true hkk
              subst hkk
              simp only [xword, hN, Option.map_some] at hwd
              cases hwd
              rw [xown_eq hcn, show idx * 4 / 4 = idx by omega] at hmem
              obtain ⟨mk, methM, cM, kP, vm₁, hnamed, hmethM, hcodeM, -, hlocalsM, -, hkP, -, hW₁, hstep₁⟩ := Steps.initColdArgs (tb := p.tables) (e := e) Y.here hx Y.warmed hpl hown hini hok.2.2.2.2.2.2.1 (G.word hW hmem rfl args) (G.word hW wi rfl args) hcode (f := F0 m pc ls (st.map (xv ad))) rfl hl1 hst (by rw [hb]; exact hd)
              exact ⟨rfl, hok, mk, hnamed, vm₁, Y.noted hW₁, fun target h => hstep₁ _ fun acts => by rw [doInvoke_state]; exact h⟩
            · have hkk := Nat.eq_of_beq_eq_true hkk
              subst hkk
              simp only [xword, hN, Option.map_some] at hwd
              cases hwd
              rw [xown_eq hcn, show idx * 4 / 4 = idx by omega] at hmem
              obtain ⟨mk, methM, cM, kP, vm₁, hnamed, hmethM, hcodeM, -, hlocalsM, -, hkP, -, hW₁, hstep₁⟩ := Steps.initColdArgsNest (tb := p.tables) (e := e) Y.here hx Y.warmed hpl hown hini hok.2.2.2.2.2.2.1 (G.word hW hmem rfl args) (G.word hW wi rfl args) hcode (f := F0 m pc ls (st.map (xv ad))) rfl hl1 hst (by rw [hb]; exact hd)
              exact ⟨rfl, hok, mk, hnamed, vm₁, Y.noted hW₁, fun target h => hstep₁ _ fun acts => by rw [doInvoke_state]; exact h⟩
            · have hkk := Nat.eq_of_beq_eq_true hkk
              subst hkk
              simp only [xword, hN, Option.map_some] at hwd
              cases hwd
              rw [xown_eq hcn, show idx * 4 / 4 = idx by omega] at hmem
              obtain ⟨mk, methM, cM, kP, vm₁, hnamed, hmethM, hcodeM, -, hlocalsM, -, hkP, -, hW₁, hstep₁⟩ := Steps.initColdArgsNest (tb := p.tables) (e := e) Y.here hx Y.warmed hpl hown hini hok.2.2.2.2.2.2.1 (G.word hW hmem rfl args) (G.word hW wi rfl args) hcode (f := F0 m pc ls (st.map (xv ad))) rfl hl1 hst (by rw [hb]; exact hd)
              exact ⟨rfl, hok, mk, hnamed, vm₁, Y.noted hW₁, fun target h => hstep₁ _ fun acts => by rw [doInvoke_state]; exact h⟩
          · cases h
      · cases h
    · cases h
  all_goals exact absurd h (by simp [xcall])
end XS4
