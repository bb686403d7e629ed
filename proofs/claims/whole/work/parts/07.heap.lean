/-! the pure machine is sound: instructions on the heap -/
theorem xcl_own {i : Nat} {q : vw_C} (h : xcl[i]? = some q) (h0 : 0 < q.2.2) : i < 14 ∨ i = 18 := by
  by_cases hi : i < 14
  · exact Or.inl hi
  · match i, hi, h with
    | 14, _, h => cases h; cases h0
    | 15, _, h => cases h; cases h0
    | 16, _, h => cases h; cases h0
    | 17, _, h => cases h; cases h0
    | 18, _, h => exact Or.inr rfl
    | n + 19, _, h => simp [xcl] at h
    | 0, hi, _ | 1, hi, _ | 2, hi, _ | 3, hi, _ | 4, hi, _ | 5, hi, _ | 6, hi, _ | 7, hi, _ | 8, hi, _ | 9, hi, _ | 10, hi, _ | 11, hi, _ | 12, hi, _ | 13, hi, _ => exact absurd (by decide) hi
theorem xlay_ok {ci k : Nat} {q : vw_C} (hq : xcl[ci]? = some q) (hk : k < q.2.2) : u_lay q.1 q.2.1 k ∈ lw_tbl := by
  rcases xcl_own hq (by omega) with h | rfl
  · obtain ⟨q', hq', hl, -⟩ := xC_ok h
    cases hq.symm.trans hq'
    exact (hl k hk).1
  · cases hq
    match k, hk with
    | 0, _ => exact xly18_0
    | 1, _ => exact xly18_1
    | k + 2, hk => exact absurd hk (Nat.not_lt.mpr (Nat.le_add_left _ _))
theorem xown_eq {M : xM} (h : xcn[xcno M]? = some (xn M).cls) : xown (xcno M) = (xn M).cls := by
  simp [xown, List.getD_eq_getElem?_getD, h]
theorem xg_lay (C : String) (T : u_T) (k : Nat) : xgood (u_lay C T k) = true := by
  unfold u_lay
  split <;> rfl
theorem xG.lays {s0 : State} {D : va_G} {ad : xA} {X : Nat} (G : xG s0 D ad X) {s : State} (hW : s0.WarmedH s.vm) {ci : Nat} {q : vw_C} (hq : xcl[ci]? = some q) (args : Array Value) : ∀ w ∈ u_ws q.1 q.2.1 q.2.2, w.before args s = true := by
  intro w hw
  obtain ⟨k, hk, rfl⟩ := List.mem_map.mp hw
  have hk := List.mem_range.mp hk
  exact G.word hW (xlay_ok hq hk) (xg_lay _ _ _) args
/-- a field of an own class, as the tables know it -/
theorem xG.field {s0 : State} {D : va_G} {ad : xA} {X : Nat} (G : xG s0 D ad X) {s : State} (hW : s0.WarmedH s.vm) {ci k : Nat} {q : vw_C} (hq : xcl[ci]? = some q) (hk : k < q.2.2) (args : Array Value) :
    ∃ (cf fi : Nat) (kf kC : Class) (fd : Field), s.fieldFound? (q.2.1 k).1 (q.2.1 k).2.1 (q.2.1 k).2.2.1 = some (cf, kf, fi, fd) ∧ fd.slot = D.2 ci k ∧ fd.isStatic = false ∧ s.vm.findClass q.1 = some (D.1 ci) ∧ s.vm.classes[D.1 ci]? = some kC ∧ kC.kind = .ordinary ∧ (u_lay q.1 q.2.1 k).before args s = true := by
  have hK := va_K.moved hW.alike G.2.1
  obtain ⟨hS, hfc, kC, hkC, hkind⟩ := hK.1 ci q hq
  obtain ⟨cf, kf, fi, fd, hi, hsl⟩ := hS k hk
  have hts := G.lays hW hq args
  exact ⟨cf, fi, kf, kC, fd, hi, hsl, (u_facts hfc hkC (u_lays hts (fun _ h => h) hk) hi).1, hfc, hkC, hkind, hts _ (u_in_lay hk)⟩
theorem xG.apart {s0 : State} {D : va_G} {ad : xA} {X : Nat} (G : xG s0 D ad X) {s : State} (hW : s0.WarmedH s.vm) {ci : Nat} {q : vw_C} (hq : xcl[ci]? = some q) (hi : ci < 14) : ∀ x y, x < q.2.2 → y < q.2.2 → x ≠ y → D.2 ci x ≠ D.2 ci y := by
  intro x y hx hy hne
  obtain ⟨q', hq', -, -, -, -, hok⟩ := xC_ok hi
  cases hq.symm.trans hq'
  have hts := G.lays hW hq #[]
  have hK := va_K.moved hW.alike G.2.1
  obtain ⟨hS, -⟩ := hK.1 ci q hq
  obtain ⟨_, _, _, fa, hia, ea⟩ := hS x hx
  obtain ⟨_, _, _, fb, hib, eb⟩ := hS y hy
  rw [← ea, ← eb]
  unfold xclok at hok
  rw [hq] at hok
  split at hok
  · rename_i q0 ts ds e1 e2 e3
    cases e1
    simp only [Bool.and_eq_true, List.all_eq_true, List.mem_range, decide_eq_true_eq, Bool.or_eq_true] at hok
    have hp : ∀ k, k < q.2.2 → ∃ ty, parseFieldDescriptor (q.2.1 k).2.2.1 = some ty := by
      intro k hk
      have h1 := (hok.1.2 k hk).1
      have hl : ts.length = q.2.2 := Nat.eq_of_beq_eq_true hok.1.1.1
      exact ⟨ts[k]'(by omega), h1.trans (List.getElem?_eq_getElem _)⟩
    obtain ⟨tx, htx⟩ := hp x hx
    obtain ⟨ty, hty⟩ := hp y hy
    refine u_apart (u_lays hts (fun _ h => h) hx) (u_lays hts (fun _ h => h) hy) hia hib ?_
    rw [(State.fieldFound?_type hia htx).1, (State.fieldFound?_type hib hty).1]
    rcases hok.2 x hx y hy with h | h
    · exact absurd (Nat.eq_of_beq_eq_true h) hne
    · exact h
  · cases hok
section XS2
variable {p : Program} {l : Launch} {e : Env} {R : Room} {s : State} {m : MethodId} {args : Array Value} {below : List Frame} {meth : Method} {c : Code} {H : Heap} {locs : List Loc} {cells slots : Nat} {Q : State → Prop}
variable {pc : Nat} {ls : Array Slot} {s0 : State} {D : va_G} {ad : xA} {X : Nat} {M : xM}
theorem xgf_sound (G : xG s0 D ad X) (F : xF s0 p s m meth c M) {w w' : xW} {st st' : List Value} {idx : Nat} (B : xB s0 D ad X w H locs) (h : xgf (xcno M) idx st w = some (st', w')) (hd : decode (xby M) pc = .ok (.getfield idx, 3))
    (k : w' = w → W p l e R s m args below meth c H locs cells slots Q (F0 m (pc + 3) ls (st'.map (xv ad)))) : W p l e R s m args below meth c H locs cells slots Q (F0 m pc ls (st.map (xv ad))) := by
  obtain ⟨hx, hb, hml, hr, hlk, hown, hnm, hexc, hW, hsz, hcn⟩ := F
  unfold xgf at h
  split at h
  · rename_i a pos h0 r hlook
    split at h
    · rename_i ci fs hw
      cases hc : Nat.beq ci (a / 64) with
      | false => rw [hc] at h; cases h
      | true =>
        rw [hc] at h
        have hc := Nat.eq_of_beq_eq_true hc
        subst hc
        simp only [cond_true] at h
        split at h
        · rename_i v hv
          cases h
          obtain ⟨wd, hwd, hmem⟩ := xlook_ok hlook
          simp only [xword] at hwd
          split at hwd
          · rename_i q hq
            cases hk : Nat.blt (a % 64) q.2.2 with
            | false => rw [hk] at hwd; cases hwd
            | true =>
              rw [hk] at hwd
              cases hwd
              have hk := xblt hk
              have hlink := G.word hW hmem rfl args
              rw [xown_eq hcn, show idx * 4 / 4 = idx by omega] at hlink
              obtain ⟨cf, fi, kf, kC, fd, hi, hsl, hst, -⟩ := G.field hW hq hk args
              obtain ⟨r', hr', ce, q1, q2, q3, q4⟩ := B.1 h0 _ hw
              cases hq.symm.trans hr'
              refine W.getf hx hb hown hlink hi hst q1 q3.un (v := xv ad v) ?_ rfl rfl hd (k rfl)
              rw [hsl, q4 _ hk]
              simp [vp_V, hv]
          · cases hwd
        · cases h
    · cases h
  · cases h
theorem xpf_sound (G : xG s0 D ad X) (F : xF s0 p s m meth c M) {w w' : xW} {st st' : List Value} {idx : Nat} (hM : xkd M = 2 → (xn M).name = "<init>") (B : xB s0 D ad X w H locs) (h : xpf M X idx st w = some (st', w')) (hd : decode (xby M) pc = .ok (.putfield idx, 3))
    (k : ∀ H' locs', xB s0 D ad X w' H' locs' → w'.length = w.length → xsz w' = xsz w → W p l e R s m args below meth c H' locs' cells slots Q (F0 m (pc + 3) ls (st'.map (xv ad)))) : W p l e R s m args below meth c H locs cells slots Q (F0 m pc ls (st.map (xv ad))) := by
  obtain ⟨hx, hb, hml, hr, hlk, hown, hnm, hexc, hW, hsz, hcn⟩ := F
  unfold xpf at h
  split at h
  · rename_i a pos v h0 r hlook
    split at h
    · rename_i ci fs hw
      split at h
      · rename_i q ty hq hty
        cases hc : (Nat.beq ci (a / 64) && xok ty v && Nat.blt (a % 64) fs.length && (!(q.2.1 (a % 64)).2.2.2 || (Nat.beq (xkd M) 2 && Nat.beq (xcno M) ci))) with
        | false => rw [hc] at h; cases h
        | true =>
          rw [hc] at h
          simp only [Bool.and_eq_true] at hc
          obtain ⟨⟨⟨c1, c2⟩, c3⟩, c4⟩ := hc
          have c1 := Nat.eq_of_beq_eq_true c1
          subst c1
          have c3 := xblt c3
          simp only [cond_true, xset] at h
          cases hX : Nat.ble X h0 with
          | false => rw [hX] at h; cases h
          | true =>
            rw [hX] at h
            cases h
            have hX := Nat.le_of_ble_eq_true hX
            obtain ⟨wd, hwd, hmem⟩ := xlook_ok hlook
            simp only [xword, hq] at hwd
            cases hk : Nat.blt (a % 64) q.2.2 with
            | false => rw [hk] at hwd; cases hwd
            | true =>
              rw [hk] at hwd
              cases hwd
              have hk := xblt hk
              have hlink := G.word hW hmem rfl args
              rw [xown_eq hcn, show idx * 4 / 4 = idx by omega] at hlink
              obtain ⟨cf, fi, kf, kC, fd, hi, hsl, hst, hfc, hkC, hkind, hlay⟩ := G.field hW hq hk args
              obtain ⟨r', hr', ce, q1, q2, q3, q4⟩ := B.1 h0 _ hw
              cases hq.symm.trans hr'
              have h14 : a / 64 < 14 := by
                by_cases hz : a / 64 < 14
                · exact hz
                · exfalso
                  have hn : xft[a / 64]? = none := List.getElem?_eq_none (by have : xft.length = 14 := rfl; omega)
                  rw [List.getD_eq_getElem?_getD, hn] at hty
                  simp at hty
              have hap := G.apart hW hq h14
              have q3 := q3.no (by omega)
              obtain ⟨q', hq', hl', -, -, -, hok⟩ := xC_ok h14
              cases hq.symm.trans hq'
              have hpd : parseFieldDescriptor (q.2.1 (a % 64)).2.2.1 = some ty := by
                unfold xclok at hok
                rw [hq] at hok
                split at hok
                · rename_i q0 ts ds e1 e2 e3
                  cases e1
                  simp only [Bool.and_eq_true, List.all_eq_true, List.mem_range, decide_eq_true_eq] at hok
                  rw [(hok.1.2 _ hk).1]
                  rw [List.getD_eq_getElem?_getD, e2] at hty
                  exact hty
                · cases hok
              obtain ⟨hn, hf⟩ := xok_fits ad c2
              have fin : ∀ H' : Heap, H'[ad.1 h0]? = some (ce.setSlot fd.slot (xv ad v)) → H'.size = H.size → (∀ q, q ≠ ad.1 h0 → H'[q]? = H[q]?) → W p l e R s m args below meth c H' (locs ++ [⟨ad.1 h0, fd.slot⟩]) cells slots Q (F0 m (pc + 3) ls (List.map (xv ad) st')) := by
                intro H' e1 e2 e3
                rw [hsl] at e1 ⊢
                refine k H' _ (B.set G.2.2 hX ⟨_, hq, xOB.of (t_OB.to (V := updV (fun k => xv ad (vp_V fs k)) (a % 64) (xv ad v)) ⟨_, e1, q2, q3, t_set q4 hap hk _⟩ (fun j hj => ?_))⟩ e2 e3) (by rw [List.length_set]) (xsz_set (c := .inr (a / 64, fs)) (c' := .inr (a / 64, fs.set (a % 64) v)) rfl hw)
                have := vp_updV_set c3 v j
                unfold updV at this ⊢
                by_cases ej : j = a % 64
                · rw [if_pos ej] at this ⊢
                  exact congrArg (xv ad) this
                · rw [if_neg ej] at this ⊢
                  exact congrArg (xv ad) this
              cases hfin : (q.2.1 (a % 64)).2.2.2 with
              | false =>
                unfold u_lay at hlay
                rw [hfin, if_neg (by decide)] at hlay
                have h6 := u_store hfc hkC hkind hlay hi hpd hn hf
                exact W.putK hx hb (f := fd) ⟨hown, hlink, ⟨_, _, _, hi⟩, hst⟩ (by rw [q2]; exact h6) q1 q3 (by rw [hsl]; exact k2_hasslot (q4 _ hk)) rfl rfl hd fin
              | true =>
                unfold u_lay at hlay
                rw [hfin, if_pos rfl] at hlay
                rw [hfin] at c4
                simp only [Bool.not_true, Bool.false_or, Bool.and_eq_true] at c4
                have hkd := Nat.eq_of_beq_eq_true c4.1
                have hcc := Nat.eq_of_beq_eq_true c4.2
                have hq1 : (xn M).cls = q.1 := by
                  have := xC_ok h14
                  obtain ⟨q9, hq9, -, -, -, h9, -⟩ := this
                  cases hq.symm.trans hq9
                  rw [hcc] at hcn
                  exact Option.some.inj (hcn.symm.trans h9)
                have hcf : m.cls = cf := by
                  obtain ⟨_, _, c', _, _, _, -, -, hf', -, -, -, hown2, -⟩ := Cond.laysFinal_spec hlay
                  have e1 : c' = cf := by have := hi.symm.trans hf'; simp at this; exact this.1.symm
                  rw [(hl' _ hk).2, ← hq1] at hown2
                  rw [← e1]; exact Option.some.inj (hown.symm.trans hown2)
                have h6 := u_fits hfc hkC hkind (Or.inr hlay) hi hpd hn hf
                exact W.putFinK hx hb hown hlink hi hst hcf (hnm.trans (hM hkd)) (by rw [q2]; exact h6) q1 q3 (by rw [hsl]; exact k2_hasslot (q4 _ hk)) rfl rfl hd fin
      · cases h
    · cases h
  · cases h
theorem xal_i (F : xF s0 p s m meth c M) {w w' : xW} {st st' : List Value} (B : xB s0 D ad X w H locs) (h : xal 0 st w = some (st', w')) (hd : decode (xby M) pc = .ok (.iaload, 1))
    (k : w' = w → W p l e R s m args below meth c H locs cells slots Q (F0 m (pc + 1) ls (st'.map (xv ad)))) : W p l e R s m args below meth c H locs cells slots Q (F0 m pc ls (st.map (xv ad))) := by
  obtain ⟨hx, hb, hml, hr, hlk, hown, hnm, hexc, hW, hsz, hcn⟩ := F
  unfold xal at h
  split at h
  · rename_i i h0 r
    split at h
    · rename_i t n g hw
      cases hc : (Nat.beq 0 t && xin i n) with
      | false => rw [hc] at h; cases h
      | true =>
        rw [hc] at h
        cases h
        rw [Bool.and_eq_true] at hc
        have ht := Nat.eq_of_beq_eq_true hc.1
        subst ht
        obtain ⟨hi0, hin⟩ := xin_ok hc.2
        obtain ⟨ce, q1, ⟨ty, a1, a2, a3, a4⟩, q3, q4⟩ := B.1 h0 _ hw
        cases a1
        exact W.iald hx hb q1 (State.isArrayOf_alike hW.alike a2) a3 (by intro q; rcases q with q | q; exact hi0 q; have := q3.1; omega) (q4 _ hin) rfl rfl hd (k rfl)
    · cases h
  · cases h
theorem xal_l (F : xF s0 p s m meth c M) {w w' : xW} {st st' : List Value} (B : xB s0 D ad X w H locs) (h : xal 3 st w = some (st', w')) (hd : decode (xby M) pc = .ok (.laload, 1))
    (k : w' = w → W p l e R s m args below meth c H locs cells slots Q (F0 m (pc + 1) ls (st'.map (xv ad)))) : W p l e R s m args below meth c H locs cells slots Q (F0 m pc ls (st.map (xv ad))) := by
  obtain ⟨hx, hb, hml, hr, hlk, hown, hnm, hexc, hW, hsz, hcn⟩ := F
  unfold xal at h
  split at h
  · rename_i i h0 r
    split at h
    · rename_i t n g hw
      cases hc : (Nat.beq 3 t && xin i n) with
      | false => rw [hc] at h; cases h
      | true =>
        rw [hc] at h
        cases h
        rw [Bool.and_eq_true] at hc
        have ht := Nat.eq_of_beq_eq_true hc.1
        subst ht
        obtain ⟨hi0, hin⟩ := xin_ok hc.2
        obtain ⟨ce, q1, ⟨ty, a1, a2, a3, a4⟩, q3, q4⟩ := B.1 h0 _ hw
        cases a1
        exact W.lald hx hb q1 (State.isArrayOf_alike hW.alike a2) a3 (by intro q; rcases q with q | q; exact hi0 q; have := q3.1; omega) (q4 _ hin) rfl rfl hd (k rfl)
    · cases h
  · cases h
theorem xal_b (F : xF s0 p s m meth c M) {w w' : xW} {st st' : List Value} (B : xB s0 D ad X w H locs) (h : xal 1 st w = some (st', w')) (hd : decode (xby M) pc = .ok (.baload, 1))
    (k : w' = w → W p l e R s m args below meth c H locs cells slots Q (F0 m (pc + 1) ls (st'.map (xv ad)))) : W p l e R s m args below meth c H locs cells slots Q (F0 m pc ls (st.map (xv ad))) := by
  obtain ⟨hx, hb, hml, hr, hlk, hown, hnm, hexc, hW, hsz, hcn⟩ := F
  unfold xal at h
  split at h
  · rename_i i h0 r
    split at h
    · rename_i t n g hw
      cases hc : (Nat.beq 1 t && xin i n) with
      | false => rw [hc] at h; cases h
      | true =>
        rw [hc] at h
        cases h
        rw [Bool.and_eq_true] at hc
        have ht := Nat.eq_of_beq_eq_true hc.1
        subst ht
        obtain ⟨hi0, hin⟩ := xin_ok hc.2
        obtain ⟨ce, q1, ⟨ty, a1, a2, a3, a4⟩, q3, q4⟩ := B.1 h0 _ hw
        cases a1
        exact W.bald hx hb q1 (State.isArrayOf_alike hW.alike a2) a3 (by intro q; rcases q with q | q; exact hi0 q; have := q3.1; omega) (q4 _ hin) rfl rfl hd (k rfl)
    · cases h
  · cases h
theorem xal_z (F : xF s0 p s m meth c M) {w w' : xW} {st st' : List Value} (B : xB s0 D ad X w H locs) (h : xal 2 st w = some (st', w')) (hd : decode (xby M) pc = .ok (.baload, 1))
    (k : w' = w → W p l e R s m args below meth c H locs cells slots Q (F0 m (pc + 1) ls (st'.map (xv ad)))) : W p l e R s m args below meth c H locs cells slots Q (F0 m pc ls (st.map (xv ad))) := by
  obtain ⟨hx, hb, hml, hr, hlk, hown, hnm, hexc, hW, hsz, hcn⟩ := F
  unfold xal at h
  split at h
  · rename_i i h0 r
    split at h
    · rename_i t n g hw
      cases hc : (Nat.beq 2 t && xin i n) with
      | false => rw [hc] at h; cases h
      | true =>
        rw [hc] at h
        cases h
        rw [Bool.and_eq_true] at hc
        have ht := Nat.eq_of_beq_eq_true hc.1
        subst ht
        obtain ⟨hi0, hin⟩ := xin_ok hc.2
        obtain ⟨ce, q1, ⟨ty, a1, a2, a3, a4⟩, q3, q4⟩ := B.1 h0 _ hw
        cases a1
        exact W.zald hx hb q1 (State.isArrayOf_alike hW.alike a2) a3 (by intro q; rcases q with q | q; exact hi0 q; have := q3.1; omega) (q4 _ hin) rfl rfl hd (k rfl)
    · cases h
  · cases h
theorem xal_r4 (F : xF s0 p s m meth c M) {w w' : xW} {st st' : List Value} (B : xB s0 D ad X w H locs) (h : xal 4 st w = some (st', w')) (hd : decode (xby M) pc = .ok (.aaload, 1))
    (k : w' = w → W p l e R s m args below meth c H locs cells slots Q (F0 m (pc + 1) ls (st'.map (xv ad)))) : W p l e R s m args below meth c H locs cells slots Q (F0 m pc ls (st.map (xv ad))) := by
  obtain ⟨hx, hb, hml, hr, hlk, hown, hnm, hexc, hW, hsz, hcn⟩ := F
  unfold xal at h
  split at h
  · rename_i i h0 r
    split at h
    · rename_i t n g hw
      cases hc : (Nat.beq 4 t && xin i n) with
      | false => rw [hc] at h; cases h
      | true =>
        rw [hc] at h
        cases h
        rw [Bool.and_eq_true] at hc
        have ht := Nat.eq_of_beq_eq_true hc.1
        subst ht
        obtain ⟨hi0, hin⟩ := xin_ok hc.2
        obtain ⟨ce, q1, ⟨ty, a1, a2, a3, a4⟩, q3, q4⟩ := B.1 h0 _ hw
        cases a1
        exact W.aald hx hb q1 (State.isArrayOf_alike hW.alike a2) rfl a3 (by intro q; rcases q with q | q; exact hi0 q; have := q3.1; omega) (q4 _ hin) rfl rfl hd (k rfl)
    · cases h
  · cases h
theorem xal_r5 (F : xF s0 p s m meth c M) {w w' : xW} {st st' : List Value} (B : xB s0 D ad X w H locs) (h : xal 5 st w = some (st', w')) (hd : decode (xby M) pc = .ok (.aaload, 1))
    (k : w' = w → W p l e R s m args below meth c H locs cells slots Q (F0 m (pc + 1) ls (st'.map (xv ad)))) : W p l e R s m args below meth c H locs cells slots Q (F0 m pc ls (st.map (xv ad))) := by
  obtain ⟨hx, hb, hml, hr, hlk, hown, hnm, hexc, hW, hsz, hcn⟩ := F
  unfold xal at h
  split at h
  · rename_i i h0 r
    split at h
    · rename_i t n g hw
      cases hc : (Nat.beq 5 t && xin i n) with
      | false => rw [hc] at h; cases h
      | true =>
        rw [hc] at h
        cases h
        rw [Bool.and_eq_true] at hc
        have ht := Nat.eq_of_beq_eq_true hc.1
        subst ht
        obtain ⟨hi0, hin⟩ := xin_ok hc.2
        obtain ⟨ce, q1, ⟨ty, a1, a2, a3, a4⟩, q3, q4⟩ := B.1 h0 _ hw
        cases a1
        exact W.aald hx hb q1 (State.isArrayOf_alike hW.alike a2) rfl a3 (by intro q; rcases q with q | q; exact hi0 q; have := q3.1; omega) (q4 _ hin) rfl rfl hd (k rfl)
    · cases h
  · cases h
theorem xas_i (G : xG s0 D ad X) (F : xF s0 p s m meth c M) {w w' : xW} {st' r : List Value} {x : Int32} {i : Int32} {h0 : Nat} (B : xB s0 D ad X w H locs) (h : xas X 0 (.int x) i h0 r w = some (st', w')) (hd : decode (xby M) pc = .ok (.iastore, 1))
    (k : ∀ H' locs', xB s0 D ad X w' H' locs' → w'.length = w.length → xsz w' = xsz w → W p l e R s m args below meth c H' locs' cells slots Q (F0 m (pc + 1) ls (st'.map (xv ad)))) : W p l e R s m args below meth c H locs cells slots Q (F0 m pc ls (.int x :: .int i :: .ref (ad.1 h0) :: r.map (xv ad))) := by
  obtain ⟨hx, hb, hml, hr, hlk, hown, hnm, hexc, hW, hsz, hcn⟩ := F
  unfold xas at h
  split at h
  · rename_i t n g hw
    cases hc : (Nat.beq 0 t && xin i n) with
    | false => rw [hc] at h; cases h
    | true =>
      rw [hc] at h
      simp only [cond_true, xset] at h
      cases hX : Nat.ble X h0 with
      | false => rw [hX] at h; cases h
      | true =>
        rw [hX] at h
        simp only [cond_true, Option.map_some, Option.some.injEq, Prod.mk.injEq] at h
        obtain ⟨rfl, rfl⟩ := h
        have hX := Nat.le_of_ble_eq_true hX
        rw [Bool.and_eq_true] at hc
        have ht := Nat.eq_of_beq_eq_true hc.1
        subst ht
        obtain ⟨hi0, hin⟩ := xin_ok hc.2
        obtain ⟨ce, q1, ⟨ty, a1, a2, a3, a4⟩, q3, q4⟩ := B.1 h0 _ hw
        cases a1
        refine W.iast hx hb q1 (State.isArrayOf_alike hW.alike a2) a3 (by intro q; rcases q with q | q; exact hi0 q; have := q3.1; omega) rfl rfl hd fun H' e1 e2 e3 => ?_
        exact k H' _ (B.set G.2.2 hX ⟨_, e1, xar_set ⟨_, rfl, a2, a3, a4⟩, xslots_set (v := .int x) q3 q4 hin⟩ e2 e3) (by rw [List.length_set]) (xsz_set (c := .inl (0, n, g)) (c' := .inl (0, n, xup g i.toNatClampNeg (.int x))) rfl hw)
  · cases h
theorem xas_l (G : xG s0 D ad X) (F : xF s0 p s m meth c M) {w w' : xW} {st' r : List Value} {x : Int64} {i : Int32} {h0 : Nat} (B : xB s0 D ad X w H locs) (h : xas X 3 (.long x) i h0 r w = some (st', w')) (hd : decode (xby M) pc = .ok (.lastore, 1))
    (k : ∀ H' locs', xB s0 D ad X w' H' locs' → w'.length = w.length → xsz w' = xsz w → W p l e R s m args below meth c H' locs' cells slots Q (F0 m (pc + 1) ls (st'.map (xv ad)))) : W p l e R s m args below meth c H locs cells slots Q (F0 m pc ls (.long x :: .int i :: .ref (ad.1 h0) :: r.map (xv ad))) := by
  obtain ⟨hx, hb, hml, hr, hlk, hown, hnm, hexc, hW, hsz, hcn⟩ := F
  unfold xas at h
  split at h
  · rename_i t n g hw
    cases hc : (Nat.beq 3 t && xin i n) with
    | false => rw [hc] at h; cases h
    | true =>
      rw [hc] at h
      simp only [cond_true, xset] at h
      cases hX : Nat.ble X h0 with
      | false => rw [hX] at h; cases h
      | true =>
        rw [hX] at h
        simp only [cond_true, Option.map_some, Option.some.injEq, Prod.mk.injEq] at h
        obtain ⟨rfl, rfl⟩ := h
        have hX := Nat.le_of_ble_eq_true hX
        rw [Bool.and_eq_true] at hc
        have ht := Nat.eq_of_beq_eq_true hc.1
        subst ht
        obtain ⟨hi0, hin⟩ := xin_ok hc.2
        obtain ⟨ce, q1, ⟨ty, a1, a2, a3, a4⟩, q3, q4⟩ := B.1 h0 _ hw
        cases a1
        refine W.last hx hb q1 (State.isArrayOf_alike hW.alike a2) a3 (by intro q; rcases q with q | q; exact hi0 q; have := q3.1; omega) rfl rfl hd fun H' e1 e2 e3 => ?_
        exact k H' _ (B.set G.2.2 hX ⟨_, e1, xar_set ⟨_, rfl, a2, a3, a4⟩, xslots_set (v := .long x) q3 q4 hin⟩ e2 e3) (by rw [List.length_set]) (xsz_set (c := .inl (3, n, g)) (c' := .inl (3, n, xup g i.toNatClampNeg (.long x))) rfl hw)
  · cases h
theorem xas_b (G : xG s0 D ad X) (F : xF s0 p s m meth c M) {w w' : xW} {st' r : List Value} {x : Int32} {i : Int32} {h0 : Nat} (B : xB s0 D ad X w H locs) (h : xas X 1 (narrow .byte (.int x)) i h0 r w = some (st', w')) (hd : decode (xby M) pc = .ok (.bastore, 1))
    (k : ∀ H' locs', xB s0 D ad X w' H' locs' → w'.length = w.length → xsz w' = xsz w → W p l e R s m args below meth c H' locs' cells slots Q (F0 m (pc + 1) ls (st'.map (xv ad)))) : W p l e R s m args below meth c H locs cells slots Q (F0 m pc ls (.int x :: .int i :: .ref (ad.1 h0) :: r.map (xv ad))) := by
  obtain ⟨hx, hb, hml, hr, hlk, hown, hnm, hexc, hW, hsz, hcn⟩ := F
  unfold xas at h
  split at h
  · rename_i t n g hw
    cases hc : (Nat.beq 1 t && xin i n) with
    | false => rw [hc] at h; cases h
    | true =>
      rw [hc] at h
      simp only [cond_true, xset] at h
      cases hX : Nat.ble X h0 with
      | false => rw [hX] at h; cases h
      | true =>
        rw [hX] at h
        simp only [cond_true, Option.map_some, Option.some.injEq, Prod.mk.injEq] at h
        obtain ⟨rfl, rfl⟩ := h
        have hX := Nat.le_of_ble_eq_true hX
        rw [Bool.and_eq_true] at hc
        have ht := Nat.eq_of_beq_eq_true hc.1
        subst ht
        obtain ⟨hi0, hin⟩ := xin_ok hc.2
        obtain ⟨ce, q1, ⟨ty, a1, a2, a3, a4⟩, q3, q4⟩ := B.1 h0 _ hw
        cases a1
        refine W.bast hx hb q1 (State.isArrayOf_alike hW.alike a2) a3 (by intro q; rcases q with q | q; exact hi0 q; have := q3.1; omega) rfl rfl hd fun H' e1 e2 e3 => ?_
        exact k H' _ (B.set G.2.2 hX ⟨_, e1, xar_set ⟨_, rfl, a2, a3, a4⟩, xslots_set (v := narrow .byte (.int x)) q3 q4 hin⟩ e2 e3) (by rw [List.length_set]) (xsz_set (c := .inl (1, n, g)) (c' := .inl (1, n, xup g i.toNatClampNeg (narrow .byte (.int x)))) rfl hw)
  · cases h
theorem xas_z (G : xG s0 D ad X) (F : xF s0 p s m meth c M) {w w' : xW} {st' r : List Value} {x : Int32} {i : Int32} {h0 : Nat} (B : xB s0 D ad X w H locs) (h : xas X 2 (narrow .boolean (.int x)) i h0 r w = some (st', w')) (hd : decode (xby M) pc = .ok (.bastore, 1))
    (k : ∀ H' locs', xB s0 D ad X w' H' locs' → w'.length = w.length → xsz w' = xsz w → W p l e R s m args below meth c H' locs' cells slots Q (F0 m (pc + 1) ls (st'.map (xv ad)))) : W p l e R s m args below meth c H locs cells slots Q (F0 m pc ls (.int x :: .int i :: .ref (ad.1 h0) :: r.map (xv ad))) := by
  obtain ⟨hx, hb, hml, hr, hlk, hown, hnm, hexc, hW, hsz, hcn⟩ := F
  unfold xas at h
  split at h
  · rename_i t n g hw
    cases hc : (Nat.beq 2 t && xin i n) with
    | false => rw [hc] at h; cases h
    | true =>
      rw [hc] at h
      simp only [cond_true, xset] at h
      cases hX : Nat.ble X h0 with
      | false => rw [hX] at h; cases h
      | true =>
        rw [hX] at h
        simp only [cond_true, Option.map_some, Option.some.injEq, Prod.mk.injEq] at h
        obtain ⟨rfl, rfl⟩ := h
        have hX := Nat.le_of_ble_eq_true hX
        rw [Bool.and_eq_true] at hc
        have ht := Nat.eq_of_beq_eq_true hc.1
        subst ht
        obtain ⟨hi0, hin⟩ := xin_ok hc.2
        obtain ⟨ce, q1, ⟨ty, a1, a2, a3, a4⟩, q3, q4⟩ := B.1 h0 _ hw
        cases a1
        refine W.zast hx hb q1 (State.isArrayOf_alike hW.alike a2) a3 (by intro q; rcases q with q | q; exact hi0 q; have := q3.1; omega) rfl rfl hd fun H' e1 e2 e3 => ?_
        exact k H' _ (B.set G.2.2 hX ⟨_, e1, xar_set ⟨_, rfl, a2, a3, a4⟩, xslots_set (v := narrow .boolean (.int x)) q3 q4 hin⟩ e2 e3) (by rw [List.length_set]) (xsz_set (c := .inl (2, n, g)) (c' := .inl (2, n, xup g i.toNatClampNeg (narrow .boolean (.int x)))) rfl hw)
  · cases h
theorem xas_r4 (G : xG s0 D ad X) (F : xF s0 p s m meth c M) {w w' : xW} {st' r fs : List Value} {v : Nat} {i : Int32} {h0 : Nat} (B : xB s0 D ad X w H locs) (hv : w[v]? = some (.inr (2, fs))) (h : xas X 4 (.ref v) i h0 r w = some (st', w')) (hd : decode (xby M) pc = .ok (.aastore, 1))
    (k : ∀ H' locs', xB s0 D ad X w' H' locs' → w'.length = w.length → xsz w' = xsz w → W p l e R s m args below meth c H' locs' cells slots Q (F0 m (pc + 1) ls (st'.map (xv ad)))) : W p l e R s m args below meth c H locs cells slots Q (F0 m pc ls (.ref (ad.1 v) :: .int i :: .ref (ad.1 h0) :: r.map (xv ad))) := by
  obtain ⟨hx, hb, hml, hr, hlk, hown, hnm, hexc, hW, hsz, hcn⟩ := F
  unfold xas at h
  split at h
  · rename_i t n g hw
    cases hc : (Nat.beq 4 t && xin i n) with
    | false => rw [hc] at h; cases h
    | true =>
      rw [hc] at h
      simp only [cond_true, xset] at h
      cases hX : Nat.ble X h0 with
      | false => rw [hX] at h; cases h
      | true =>
        rw [hX] at h
        simp only [cond_true, Option.map_some, Option.some.injEq, Prod.mk.injEq] at h
        obtain ⟨rfl, rfl⟩ := h
        have hX := Nat.le_of_ble_eq_true hX
        rw [Bool.and_eq_true] at hc
        have ht := Nat.eq_of_beq_eq_true hc.1
        subst ht
        obtain ⟨hi0, hin⟩ := xin_ok hc.2
        obtain ⟨ce, q1, ⟨ty, a1, a2, a3, a4⟩, q3, q4⟩ := B.1 h0 _ hw
        cases a1
        obtain ⟨kA, comp, k1, k2, k3, -⟩ := va_RA.moved hW.alike (a4 _ rfl)
        obtain ⟨r', hr', cv, g1, g2, g3, -⟩ := B.1 v _ hv
        cases hr'
        have hcls := ((va_K.moved hW.alike G.2.1).1 2 _ rfl).2
        have hcomp : comp = D.1 2 := Option.some.inj (k3.symm.trans hcls.1)
        subst hcomp
        obtain ⟨kC, hkC, -⟩ := hcls.2
        refine W.aast hx hb q1 a2.1 a3 k1 k2 rfl hkC ⟨hi0, Nat.lt_of_lt_of_le hin q3.1⟩ g1 (fun q h => g3.ns q h) (by rw [g2]; exact hkC) (by rw [g2]; exact va_assign hcls) rfl rfl hd fun H' e1 e2 e3 => ?_
        exact k H' _ (B.set G.2.2 hX ⟨_, e1, xar_set ⟨_, rfl, a2, a3, a4⟩, xslots_set (v := .ref v) q3 q4 hin⟩ e2 e3) (by rw [List.length_set]) (xsz_set (c := .inl (4, n, g)) (c' := .inl (4, n, xup g i.toNatClampNeg (.ref v))) rfl hw)
  · cases h
theorem xas_r5 (G : xG s0 D ad X) (F : xF s0 p s m meth c M) {w w' : xW} {st' r fs : List Value} {v : Nat} {i : Int32} {h0 : Nat} (B : xB s0 D ad X w H locs) (hv : w[v]? = some (.inr (13, fs))) (h : xas X 5 (.ref v) i h0 r w = some (st', w')) (hd : decode (xby M) pc = .ok (.aastore, 1))
    (k : ∀ H' locs', xB s0 D ad X w' H' locs' → w'.length = w.length → xsz w' = xsz w → W p l e R s m args below meth c H' locs' cells slots Q (F0 m (pc + 1) ls (st'.map (xv ad)))) : W p l e R s m args below meth c H locs cells slots Q (F0 m pc ls (.ref (ad.1 v) :: .int i :: .ref (ad.1 h0) :: r.map (xv ad))) := by
  obtain ⟨hx, hb, hml, hr, hlk, hown, hnm, hexc, hW, hsz, hcn⟩ := F
  unfold xas at h
  split at h
  · rename_i t n g hw
    cases hc : (Nat.beq 5 t && xin i n) with
    | false => rw [hc] at h; cases h
    | true =>
      rw [hc] at h
      simp only [cond_true, xset] at h
      cases hX : Nat.ble X h0 with
      | false => rw [hX] at h; cases h
      | true =>
        rw [hX] at h
        simp only [cond_true, Option.map_some, Option.some.injEq, Prod.mk.injEq] at h
        obtain ⟨rfl, rfl⟩ := h
        have hX := Nat.le_of_ble_eq_true hX
        rw [Bool.and_eq_true] at hc
        have ht := Nat.eq_of_beq_eq_true hc.1
        subst ht
        obtain ⟨hi0, hin⟩ := xin_ok hc.2
        obtain ⟨ce, q1, ⟨ty, a1, a2, a3, a4⟩, q3, q4⟩ := B.1 h0 _ hw
        cases a1
        obtain ⟨kA, comp, k1, k2, k3, -⟩ := va_RA.moved hW.alike (a4 _ rfl)
        obtain ⟨r', hr', cv, g1, g2, g3, -⟩ := B.1 v _ hv
        cases hr'
        have hcls := ((va_K.moved hW.alike G.2.1).1 13 _ rfl).2
        have hcomp : comp = D.1 13 := Option.some.inj (k3.symm.trans hcls.1)
        subst hcomp
        obtain ⟨kC, hkC, -⟩ := hcls.2
        refine W.aast hx hb q1 a2.1 a3 k1 k2 rfl hkC ⟨hi0, Nat.lt_of_lt_of_le hin q3.1⟩ g1 (fun q h => g3.ns q h) (by rw [g2]; exact hkC) (by rw [g2]; exact va_assign hcls) rfl rfl hd fun H' e1 e2 e3 => ?_
        exact k H' _ (B.set G.2.2 hX ⟨_, e1, xar_set ⟨_, rfl, a2, a3, a4⟩, xslots_set (v := .ref v) q3 q4 hin⟩ e2 e3) (by rw [List.length_set]) (xsz_set (c := .inl (5, n, g)) (c' := .inl (5, n, xup g i.toNatClampNeg (.ref v))) rfl hw)
  · cases h
end XS2
