/-! the pure machine is sound: throws and handlers -/
/-- of the four exceptions no one is of another's class; two statics of Throwable hold references or null -/
def xE (s0 : State) (D : va_G) : Prop := (∀ i j, 14 ≤ i → i < 18 → 14 ≤ j → j < 18 → i ≠ j → s0.vm.assignable (D.1 i) (D.1 j) = false) ∧
  (Cond.isRef (.static Bundle.tN "UNASSIGNED_STACK" Bundle.steD)).before #[] s0 = true ∧ (Cond.isRef (.static Bundle.tN "SUPPRESSED_SENTINEL" Bundle.listD)).before #[] s0 = true
theorem xG.throwable {s0 : State} {D : va_G} {ad : xA} {X : Nat} (G : xG s0 D ad X) (E : xE s0 D) {U : State} (hW : s0.WarmedH U.vm) (hold : ∀ q : Nat, q < s0.heap.size → U.heap[q]? = s0.heap[q]?) (args : Array Value) :
    (Cond.laysStatic Bundle.tN "UNASSIGNED_STACK" Bundle.steD).before args U = true ∧ (Cond.isRef (.static Bundle.tN "UNASSIGNED_STACK" Bundle.steD)).before args U = true ∧ (Cond.laysStatic Bundle.tN "SUPPRESSED_SENTINEL" Bundle.listD).before args U = true ∧ (Cond.isRef (.static Bundle.tN "SUPPRESSED_SENTINEL" Bundle.listD)).before args U = true := by
  obtain ⟨⟨⟨a0, h⟩, -⟩, -⟩ := G
  obtain ⟨h1, h2⟩ := xstat (a := args) (a0 := a0) hW hold (h _ xth_s1) E.2.1
  obtain ⟨h3, h4⟩ := xstat (a := args) (a0 := a0) hW hold (h _ xth_s2) E.2.2
  exact ⟨h1, h2, h3, h4⟩
/-- what is known of an exception's class -/
def xXok (ci : Nat) : Prop := ∃ q, xcl[ci]? = some q ∧ q.2.2 = 0 ∧ Cond.instantiable q.1 6 ∈ lw_tbl ∧ Cond.initialized q.1 ∈ lw_tbl ∧ Bundle.fit q.1 = true ∧
  (∀ a ∈ Bundle.chain0Atoms q.1 xsup, a ∈ lw_tbl ∧ xgood a = true) ∧
  ∀ a ∈ ([.instantiable q.1 6, .castable q.1 q.1, .selects q.1 Bundle.tFill0 Bundle.tFill0, .selects q.1 Bundle.tFill Bundle.tFill, .lays q.1 Bundle.tN "cause" "Ljava/lang/Throwable;", .lays q.1 Bundle.tN "stackTrace" Bundle.steD, .lays q.1 Bundle.tN "suppressedExceptions" Bundle.listD, .lays q.1 Bundle.tN "detailMessage" "Ljava/lang/String;", .fieldLink Bundle.tN 198 Bundle.tN "backtrace" "Ljava/lang/Object;", .lays Bundle.tN Bundle.tN "backtrace" "Ljava/lang/Object;", .lays q.1 Bundle.tN "backtrace" "Ljava/lang/Object;"] : List Jvm.Cond), a ∈ lw_tbl ∧ xgood a = true
theorem xX_ok {ci : Nat} (h : 14 ≤ ci) (h2 : ci < 18) : xXok ci := by
  match ci, h, h2 with
  | 14, _, _ => exact ⟨_, rfl, rfl, (xth_rest_14 _ List.mem_cons_self).1, xth_ini_14, xth_fit_14, xth_chain_14, xth_rest_14⟩
  | 15, _, _ => exact ⟨_, rfl, rfl, (xth_rest_15 _ List.mem_cons_self).1, xth_ini_15, xth_fit_15, xth_chain_15, xth_rest_15⟩
  | 16, _, _ => exact ⟨_, rfl, rfl, (xth_rest_16 _ List.mem_cons_self).1, xth_ini_16, xth_fit_16, xth_chain_16, xth_rest_16⟩
  | 17, _, _ => exact ⟨_, rfl, rfl, (xth_rest_17 _ List.mem_cons_self).1, xth_ini_17, xth_fit_17, xth_chain_17, xth_rest_17⟩
  | n + 18, _, h2 => exact absurd h2 (by omega)
theorem xrng {ci : Nat} (h : (Nat.blt ci 14 || Nat.ble 18 ci) = false) : 14 ≤ ci ∧ ci < 18 := by
  rw [Bool.or_eq_false_iff] at h
  refine ⟨?_, ?_⟩
  · by_cases hz : 14 ≤ ci
    · exact hz
    · have : Nat.blt ci 14 = true := Nat.ble_eq_true_of_le (by omega)
      rw [this] at h
      cases h.1
  · by_cases hz : 18 ≤ ci
    · rw [Nat.ble_eq_true_of_le hz] at h
      cases h.2
    · omega
section XS7
variable {p : Program} {l : Launch} {e : Env} {R : Room} {s : State} {m : MethodId} {args : Array Value} {below : List Frame} {meth : Method} {c : Code} {H : Heap} {locs : List Loc} {cells slots : Nat} {Q : State → Prop} {T : State}
variable {pc : Nat} {ls : Array Slot} {s0 : State} {D : va_G} {ad : xA} {X : Nat} {M : xM}
set_option maxHeartbeats 4000000 in
theorem xthr_sound (G : xG s0 D ad X) (E : xE s0 D) (htr : l.stackTraces = false) (F : xF s0 p s m meth c M) (hls : ls.size = xmx M) {w : xW} {st : List Value} {i : Instr} {ci len d : Nat} (B : xB s0 D ad X w H locs) (h : xthr M i pc = some ci) (hd : decode (xby M) pc = .ok (i, len)) (hlen : len = xlen i)
    (h6 : 6 ≤ d) (hdR : d ≤ R.frames) (hlo : 64 * d ≤ R.locals) (h16 : xcat st ≤ 16) (hc : cells + 1 ≤ R.cells) (hs : slots + 6 ≤ R.slots) :
    14 ≤ ci ∧ ci < 18 ∧ W p l e R s m args below meth c H locs cells slots (xEnd s0 D ad X s below (.inr w.length) (w ++ [.inr (ci, [])]) (cells + 1) (slots + 6)) (F0 m pc ls (st.map (xv ad))) := by
  subst hlen
  obtain ⟨hx, hb, hml, hr, hlk, hown, hnm, hexc, hW, hsz, hcn⟩ := F
  unfold xthr at h
  split at h
  · rename_i idx
    split at h
    · rename_i ci' pos hlook
      split at h
      · rename_i ic hd3 hd4 hd7
        split at h
        · rename_i cj pos2 hlook2
          cases hcc : (Nat.beq ci' cj && (xhh M).all (fun h => !(Nat.ble h.1 (pc + 7) && Nat.blt (pc + 7) h.2.1))) with
          | false => rw [hcc] at h; cases h
          | true =>
            rw [hcc] at h
            cases h
            rw [Bool.and_eq_true] at hcc
            have hcj := Nat.eq_of_beq_eq_true hcc.1
            subst hcj
            have hall := List.all_eq_true.mp hcc.2
            obtain ⟨wd, hwd, hmem⟩ := xlook_ok hlook
            simp only [xword] at hwd
            cases h14 : (Nat.blt ci 14 || Nat.ble 18 ci) with
            | true => rw [h14] at hwd; cases hwd
            | false =>
              rw [h14] at hwd
              simp only [cond_false, Option.map_eq_some_iff] at hwd
              obtain ⟨q, hq, rfl⟩ := hwd
              obtain ⟨hge, hlt⟩ := xrng h14
              refine ⟨hge, hlt, ?_⟩
              obtain ⟨q', hq', hq0, wins, wini, wfit, wch, wre⟩ := xX_ok hge hlt
              cases hq.symm.trans hq'
              obtain ⟨wd2, hwd2, hmem2⟩ := xlook_ok hlook2
              simp only [xword, hq, Option.map_some] at hwd2
              cases hwd2
              rw [xown_eq hcn, show idx * 4 / 4 = idx by omega] at hmem
              rw [xown_eq hcn, show ic * 4 / 4 = ic by omega] at hmem2
              intro T hT Y
              have Y0 := xrebase Y (by omega) (by omega)
              have hW1 : s0.WarmedH (T.setFrames (.invoking m args :: below)).vm := State.WarmedH.trans hW Y.warmed
              have hal : s.vm.Alike T.vm := Y.warmed.alike
              have hown1 : (T.setFrames (.invoking m args :: below)).vm.findClass (xn M).cls = some m.cls := by
                show T.vm.findClass _ = _
                rw [hal.findClass]; exact hown
              have hKn := (va_K.moved hW1.alike G.2.1).1 ci q hq
              have hold : ∀ z : Nat, z < s0.heap.size → (T.setFrames (.invoking m args :: below)).heap[z]? = s0.heap[z]? := fun z hz => by show T.heap[z]? = _; rw [hT]; exact B.2.2.2.1 z hz
              obtain ⟨t1, t2, t3, t4⟩ := G.throwable E hW1 hold args
              have hplat : e.platform.stackTraces = false := by rw [Y.admits.platform]; exact htr
              have atoms : ∀ a ∈ Bundle.ownAtoms0 (xn M).cls ic q.1 xsup, a.before args (T.setFrames (.invoking m args :: below)) = true := by
                intro a ha
                have fr : ∀ x : Jvm.Cond, x ∈ lw_tbl ∧ xgood x = true → x.before args (T.setFrames (.invoking m args :: below)) = true := fun x hx => G.word hW1 hx.1 hx.2 args
                unfold Bundle.ownAtoms0 at ha
                rcases List.mem_append.mp ha with ha | ha
                · rcases List.mem_append.mp ha with ha | ha
                  · rcases xth_base a ha with hb1 | rfl | rfl
                    · exact fr a hb1
                    · exact t1
                    · exact t3
                  · exact fr a (wch a ha)
                · simp only [List.mem_cons, List.mem_nil_iff, or_false] at ha
                  have wr := fun x hx => fr x (wre x hx)
                  rcases ha with rfl | rfl | rfl | rfl | rfl | rfl | rfl | rfl | rfl | rfl | rfl | rfl | rfl | rfl
                  · exact fr _ ⟨hmem2, rfl⟩
                  · exact wr _ (by simp)
                  · exact wr _ (by simp)
                  · exact wr _ (by simp)
                  · exact wr _ (by simp)
                  · exact wr _ (by simp)
                  · exact wr _ (by simp)
                  · exact wr _ (by simp)
                  · exact wr _ (by simp)
                  · exact t2
                  · exact t4
                  · exact wr _ (by simp)
                  · exact wr _ (by simp)
                  · exact wr _ (by simp)
              have hout : ∀ x ∈ c.exceptionTable.toList, covers x (pc + 4 + 3) = false := by
                intro x hx'
                have := hall (x.startPc, x.endPc, x.handlerPc, x.catchType) (by rw [← hexc]; exact List.mem_map.mpr ⟨x, hx', rfl⟩)
                simp only [Bool.not_eq_true', Bool.and_eq_false_iff] at this
                simp only [covers, Bool.and_eq_false_iff, decide_eq_false_iff_not]
                rcases this with h | h
                · left
                  intro hz
                  rw [Nat.ble_eq_true_of_le (by omega)] at h
                  cases h
                · right
                  intro hz
                  have : Nat.blt (pc + 7) x.endPc = true := Nat.ble_eq_true_of_le (by omega)
                  rw [this] at h
                  cases h
              have K : W p l e { frames := R.frames, cells := R.cells - cells, slots := R.slots - slots, locals := R.locals } (T.setFrames (.invoking m args :: below)) m args below meth c T.heap [] 0 0
                  (fun t => t.status = .running ∧ Ended t below (.threw T.heap.size) ∧ (T.setFrames (.invoking m args :: below)).WarmedH t.vm ∧ (T.setFrames (.invoking m args :: below)).sameButNew ({ t with vm := (T.setFrames (.invoking m args :: below)).vm } : State) [] 1 6 ∧ ∃ ce, t.heap[T.heap.size]? = some ce ∧ (T.setFrames (.invoking m args :: below)).vm.findClass q.1 = some ce.cls ∧ ce.vm = .none)
                  (F0 m pc ls (st.map (xv ad))) := by
                refine W.newcK hx hb hown1 (G.word hW1 hmem rfl args) (G.word hW1 wins rfl args) (G.word hW1 wini rfl args) rfl hd (by show 0 + 1 ≤ R.cells - cells; omega) (by show 0 + 6 ≤ R.slots - slots; omega) hKn.2.1 rfl fun H' kC hkC e1 e2 e3 => ?_
                refine lv_dup hx hb hd3 rfl ?_
                intro T2 hT2 X2
                obtain ⟨U, hU1, hrun, hend, hWU, hsame, ce, hce, hoc⟩ := X2.ctorThrow0 hx hplat hown1 wfit xth_fits atoms (fun x hx' => by cases hx') (a := T.heap.size) hKn.2.1 hkC (by rw [hT2]; exact e1) (Nat.le_refl _) (g := F0 m (pc + 4) ls (.ref T.heap.size :: .ref T.heap.size :: st.map (xv ad))) rfl (hls.trans hml.symm) rfl rfl rfl (by rw [hb]; exact hd4) (by rw [hb]; exact hd7) hout
                  (by show 2 + 3 < R.frames; omega) (by show 2 * 0 + (1 + ((st.map (xv ad)).map (fun v => v.category)).sum) + (13 * (2 + 1) + 41) ≤ R.locals; rw [xcat_map]; omega) hlk
                exact ⟨U, hU1, hrun, hend, hWU, hsame, ce, hce, hoc.cls, hoc.vm⟩
              obtain ⟨t, ht, hrun, hend, hWt, hsame, ce, hce, hcls, hvm⟩ := K T rfl Y0
              refine ⟨t, ht, .threw T.heap.size, locs, hrun, hend, ?_, State.WarmedH.trans Y.warmed hWt, ?_, ?_⟩
              · show Outcome.threw _ = .threw (ad.1 w.length)
                have := G.2.2.1 w.length B.2.2.1
                have h2 := B.2.1
                have e9 : T.heap.size = ad.1 w.length := by rw [hT]; omega
                rw [e9]
              · have h1 : T.sameButNew (t.setVm T.vm) [] 1 6 := by
                  obtain ⟨z1, z2⟩ := hsame
                  refine ⟨?_, z2⟩
                  rw [State.setFrames_setFrames] at z1
                  exact z1
                have h2 := Y.same.trans (h1.setVm s.vm)
                rw [List.append_nil] at h2
                exact h2
              · have hB : xB s0 D ad X w T.heap locs := by rw [hT]; exact B
                have hsz1 : t.heap.size = T.heap.size + 1 := by
                  have z3 : t.heap.size ≤ T.heap.size + 1 := hsame.2.2.1
                  have z4 := (Array.getElem?_eq_some_iff.mp hce).1
                  omega
                refine (hB.push (H1 := t.heap) (c := .inr (ci, [])) G.2.2 ⟨q, hq, ce, hce, ?_, Or.inl hvm, fun k hk => by omega⟩ hsz1 (fun z hz => ?_)).1
                · exact Option.some.inj (hcls.symm.trans hKn.2.1)
                · have := xsame_nil hsame (a := z) (c := T.heap[z]) (Array.getElem?_eq_getElem hz)
                  exact this.trans (Array.getElem?_eq_getElem hz).symm
        · cases h
      · cases h
    · cases h
  · cases h
end XS7
