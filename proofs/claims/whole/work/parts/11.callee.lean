/-! the pure machine is sound: the callee's run, back to the caller -/
/-- no cell of the run's own is a class's statics -/
def xP (s0 s : State) : Prop := ∀ (q : Nat) (cell : Cell), s0.heap.size ≤ q → s.heap[q]? = some cell → cell.vm.isStatics = false
theorem xB.plain {s0 : State} {D : va_G} {ad : xA} {X : Nat} {w : xW} {H : Heap} {locs : List Loc} (A : xadr ad X s0.heap.size) (B : xB s0 D ad X w H locs) {q : Nat} {ce : Cell} (hq : s0.heap.size ≤ q) (h : H[q]? = some ce) : ce.vm.isStatics = false := by
  have hlt : q < H.size := (Array.getElem?_eq_some_iff.mp h).1
  obtain ⟨h1, h2, h3, -, -⟩ := B
  have hw : q - s0.heap.size + X < w.length := by omega
  have hr := h1 (q - s0.heap.size + X) _ (List.getElem?_eq_getElem hw)
  have ha : ad.1 (q - s0.heap.size + X) = q := by have := A.1 (q - s0.heap.size + X) (by omega); omega
  rw [ha] at hr
  generalize w[q - s0.heap.size + X] = c0 at hr
  match c0, hr with
  | .inl (t, n, g), hr =>
    obtain ⟨ce', e1, ⟨ty, -, a2, -⟩, -⟩ := hr
    cases h.symm.trans e1
    cases hv : ce.vm with
    | statics k => exact absurd hv (a2.1 k)
    | _ => rfl
  | .inr (ci, fs), hr =>
    obtain ⟨r, -, ce', e1, -, e3, -⟩ := hr
    cases h.symm.trans e1
    exact e3.st
def xSim (l : Launch) (s0 : State) (D : va_G) (ad : xA) (X n : Nat) : Prop :=
  ∀ (d y pc : Nat) (lv : xLv) (st : List Value) (w : xW) (o : Option Value ⊕ Nat) (w' : xW) (M : xM), xms[y]? = some M → xev X n d y pc lv st w = some (o, w') →
  ∀ (p : Program) (e : Env) (R : Room) (s : State) (m : MethodId) (args : Array Value) (below : List Frame) (meth : Method) (c : Code) (H : Heap) (locs : List Loc) (cells slots : Nat) (ls : Array Slot) (mc ms : Nat),
    xF s0 p s m meth c M → xP s0 s → lv_has ls (xmx M) (xlm ad lv) → xB s0 D ad X w H locs → d ≤ R.frames → 64 * d ≤ R.locals → mc + w.length = cells + w'.length → ms + xsz w = slots + xsz w' → mc ≤ R.cells → ms ≤ R.slots →
    W p l e R s m args below meth c H locs cells slots (xEnd s0 D ad X s below o w' mc ms) (F0 m pc ls (st.map (xv ad)))
section XS5
variable {p : Program} {l : Launch} {e : Env} {R : Room} {s : State} {m : MethodId} {args : Array Value} {below : List Frame} {meth : Method} {c : Code} {H : Heap} {locs : List Loc} {cells slots : Nat} {Q : State → Prop}
variable {pc : Nat} {ls : Array Slot} {s0 : State} {D : va_G} {ad : xA} {X : Nat} {M : xM}
set_option maxHeartbeats 4000000 in
theorem xcallee {n : Nat} (IH : xSim l s0 D ad X n) (G : xG s0 D ad X) (F : xF s0 p s m meth c M) (hls : ls.size = xmx M) {T : State} (Y : Stand p l e R s m args below meth c T locs cells slots) {w w1 : xW} (B : xB s0 D ad X w T.heap locs) {i : Instr} {st as rest : List Value} {t len d' : Nat} {N : xM} {o1 : Option Value ⊕ Nat}
    (h : xcall M i st w = some (t, as, rest)) (hN : xms[t]? = some N) (hd : decode (xby M) pc = .ok (i, len)) (hlen : len = xlen i) (h16 : xcat rest ≤ 16) (hent : (lg_sl as).length ≤ xmx N) (hev : xev X n d' t 0 (lv_args 0 as) [] w = some (o1, w1))
    (hfr : d' + 1 ≤ R.frames) (hlo : 64 * (d' + 1) ≤ R.locals) {k1 n1 : Nat} (hk1 : k1 + w.length = w1.length) (hn1 : n1 + xsz w = xsz w1) (hkR : cells + k1 ≤ R.cells) (hnR : slots + n1 ≤ R.slots) :
    ∃ (T' : State) (L : List Loc), Stand p l e R s m args below meth c T' (locs ++ L) (cells + k1) (slots + n1) ∧ xB s0 D ad X w1 T'.heap (locs ++ L) ∧
      (∀ v, o1 = .inl v → ∀ target, Steps p.tables e below (T'.setTop (F0 m (pc + 3) ls ((v.toList ++ rest).map (xv ad)))) target → Steps p.tables e below (T.setTop (F0 m pc ls (st.map (xv ad)))) target) ∧
      (∀ hx, o1 = .inr hx → ∀ target, Steps p.tables e below ((T'.setTop (F0 m pc ls (rest.map (xv ad)))).pushFrame (.throwing (ad.1 hx))) target → Steps p.tables e below (T.setTop (F0 m pc ls (st.map (xv ad)))) target) := by
  obtain ⟨hl3, hok, mk, hnamed, vm₁, Y₁, hgo⟩ := xinv_sound (ls := ls) G F Y B h hN hd hlen
  subst hl3
  obtain ⟨hx, hb, hml, hr, hlk, hown, hnm, hexc, hW, hsz, hcn⟩ := F
  have hWU : s0.WarmedH (T.setVm vm₁).vm := State.WarmedH.trans hW Y₁.warmed
  obtain ⟨mk', methk, ck, hnamedU, hmk, hck, hcb, hcl, hret, hlkk, hexk, -⟩ := G.code hWU hok
  cases (Y₁.named hnamed).symm.trans hnamedU
  have hplain : (T.setVm vm₁).plainMethod mk := State.plainMethod.of_named hok.2.2.2.2.2.2.2.2.1 hnamedU hmk
  have h30 := hok.2.2.2.2.2.2.2.2.2
  have hbase : s0.heap.size ≤ T.heap.size := by have h1 := B.2.1; have h2 := B.2.2.1; omega
  obtain ⟨Z, hin⟩ := Y₁.into (g := F0 m pc ls (rest.map (xv ad))) rfl (hls.trans hml.symm) (ig := i) (len := 3) (by rw [hb]; exact hd) (as.map (xv ad)).toArray (R' := { frames := d', cells := k1, slots := n1, locals := 64 * d' }) hmk hck hlkk hplain hfr
    (by show 2 * 0 + _ + (ck.maxLocals + 11) + 64 * d' ≤ R.locals; rw [xcat_map, hcl]; omega) hkR hnR
  have hFk : xF s0 p ((T.setVm vm₁).calling (F0 m pc ls (rest.map (xv ad))) mk (as.map (xv ad)).toArray) mk methk ck N :=
    ⟨hx, hcb, hcl, hret, hlkk, findClass_of_methodNamed hnamedU, (name_of_methodNamed hnamedU hmk).1, hexk, hWU, hbase, hok.2.2.2.2.2.2.2.1⟩
  have hlv := lv_entry (as.map (xv ad)) (n := xmx N) (by rw [xlg_len]; exact hent)
  rw [xlv_args] at hlv
  have hB0 : xB s0 D ad X w T.heap [] := ⟨B.1, B.2.1, B.2.2.1, B.2.2.2.1, fun q hq => by cases hq⟩
  have hW2 := IH d' t 0 (lv_args 0 as) [] w o1 w1 N hN hev p e { frames := d', cells := k1, slots := n1, locals := 64 * d' } ((T.setVm vm₁).calling (F0 m pc ls (rest.map (xv ad))) mk (as.map (xv ad)).toArray) mk (as.map (xv ad)).toArray (.java (F0 m pc ls (rest.map (xv ad))) :: below) methk ck T.heap [] 0 0 _ k1 n1
    hFk (fun q ce hq hce => xB.plain G.2.2 hB0 hq hce) hlv hB0 (Nat.le_refl _) (Nat.le_refl _) (by omega) (by omega) (Nat.le_refl _) (Nat.le_refl _)
  obtain ⟨t2, hsteps, oc, L, hrun, hend, hout, hWt, hsame, hB1⟩ := hW2 (((T.setVm vm₁).setTop (F0 m pc ls (List.map (xv ad) rest))).pushFrame (Frame.java (entryFrame mk (List.map (xv ad) as).toArray ck.maxLocals))) rfl Z
  have hent2 : entryFrame mk (as.map (xv ad)).toArray ck.maxLocals = F0 mk 0 ((lg_sl (as.map (xv ad)) ++ List.replicate (xmx N - (lg_sl (as.map (xv ad))).length) Slot.unset).toArray) [] := by rw [hcl]; exact lg_entry_eq mk _ _
  have hgo2 : Steps p.tables e below (doInvoke e ((T.setVm vm₁).setTop (F0 m pc ls (rest.map (xv ad)))) [] mk (as.map (xv ad)).toArray).1 t2 := by
    rw [hin []]
    have hs2 := Steps.weaken (mid := [.java (F0 m pc ls (rest.map (xv ad)))]) hsteps
    simp only [List.map_nil] at hs2
    rw [hent2] at hs2 ⊢
    exact hs2
  cases o1 with
  | inl v =>
    have hout : oc = .returned (v.map (xv ad)) := hout
    subst hout
    obtain ⟨T', X', -, -, ht⟩ := Y₁.outOf (g := F0 m pc ls (rest.map (xv ad))) rfl (ig := i) (len := 3) (by rw [hb]; exact hd) hend hWt hsame
    have hheap : T'.heap = t2.heap := by rw [ht]; rfl
    refine ⟨T', L, X', ⟨by rw [hheap]; exact hB1.1, by rw [hheap]; exact hB1.2.1, hB1.2.2.1, by rw [hheap]; exact hB1.2.2.2.1, fun q hq => ?_⟩, fun v' hv' target hst => hgo target (hgo2.trans ?_), fun hx' he => by cases he⟩
    · rcases List.mem_append.mp hq with hq | hq
      · exact B.2.2.2.2 q hq
      · exact hB1.2.2.2.2 q hq
    · cases hv'
      rw [ht]
      have : (F0 m (pc + 3) ls ((v.toList ++ rest).map (xv ad))) = { F0 m pc ls (rest.map (xv ad)) with pc := (F0 m pc ls (rest.map (xv ad))).pc + 3, stack := (v.map (xv ad)).toList ++ (F0 m pc ls (rest.map (xv ad))).stack } := by cases v <;> rfl
      rw [← this]
      exact hst
  | inr hh =>
    have hout : oc = .threw (ad.1 hh) := hout
    subst hout
    obtain ⟨T', X', -, -, ht⟩ := Y₁.outOfThrown (g := F0 m pc ls (rest.map (xv ad))) rfl hend hWt hsame
    have hheap : T'.heap = t2.heap := by rw [ht]; rfl
    refine ⟨T', L, X', ⟨by rw [hheap]; exact hB1.1, by rw [hheap]; exact hB1.2.1, hB1.2.2.1, by rw [hheap]; exact hB1.2.2.2.1, fun q hq => ?_⟩, (fun v' hv' => by cases hv'), fun hx' he target hst => hgo target (hgo2.trans ?_)⟩
    · rcases List.mem_append.mp hq with hq | hq
      · exact B.2.2.2.2 q hq
      · exact hB1.2.2.2.2 q hq
    · cases he
      rw [ht]
      exact hst
end XS5
