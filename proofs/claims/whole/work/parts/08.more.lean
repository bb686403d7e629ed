/-! the pure machine is sound: new cells, constants, lengths, Object's constructor, returns -/
theorem xw_int : Cond.arrayClass .int ∈ lw_tbl := xt_1 94 rfl
theorem xw_byte : Cond.arrayClass .byte ∈ lw_tbl := xt_2 21 rfl
theorem xw_bool : Cond.arrayClass .boolean ∈ lw_tbl := xt_8 54 rfl
theorem xw_long : Cond.arrayClass .long ∈ lw_tbl := xt_10 32 rfl
theorem xw_over4 : Cond.arrayOver (.object "TrueFloats$Register") ∈ lw_tbl := xt_1 42 rfl
theorem xw_over5 : Cond.arrayOver (.object "TrueFloatsModel$Nat") ∈ lw_tbl := xt_7 196 rfl
theorem xw_oinit : Cond.instanceMethod Lib.objectInit ∈ lw_tbl := xt_1 39 rfl
theorem xw_ocode : Cond.code Lib.objectInit ⟨#[0xb1]⟩ 1 none ∈ lw_tbl := xt_1 40 rfl
/-- how a method's run ends -/
def xout (ad : xA) (o : Option Value ⊕ Nat) (oc : Outcome) : Prop := match o with
  | .inl v => oc = .returned (v.map (xv ad))
  | .inr h => oc = .threw (ad.1 h)
def xEnd (s0 : State) (D : va_G) (ad : xA) (X : Nat) (s : State) (below : List Frame) (o : Option Value ⊕ Nat) (w : xW) (mc ms : Nat) (t : State) : Prop :=
  ∃ (oc : Outcome) (L : List Loc), t.status = .running ∧ Ended t below oc ∧ xout ad o oc ∧ s.WarmedH t.vm ∧ s.sameButNew ({ t with vm := s.vm } : State) L mc ms ∧ xB s0 D ad X w t.heap L
section XS3
variable {p : Program} {l : Launch} {e : Env} {R : Room} {s : State} {m : MethodId} {args : Array Value} {below : List Frame} {meth : Method} {c : Code} {H : Heap} {locs : List Loc} {cells slots : Nat} {Q : State → Prop}
variable {pc : Nat} {ls : Array Slot} {s0 : State} {D : va_G} {ad : xA} {X : Nat} {M : xM}
theorem xW_mono {Q' : State → Prop} {g : JFrame} (h : ∀ t, Q' t → Q t) (k : W p l e R s m args below meth c H locs cells slots Q' g) : W p l e R s m args below meth c H locs cells slots Q g := by
  intro T hT X
  obtain ⟨t, a, b⟩ := k T hT X
  exact ⟨t, a, h t b⟩
theorem xarr_new (t : Nat) {cA : ClassId} {n : Nat} {v : Value} {ty : FieldType} {H' : Heap} {a : Nat} (ht : xtys[t]? = some ty) (h1 : H'[a]? = some (arrV cA n (fun _ => v))) (hA : ArrOfT s0 cA ty) (hv : xv ad v = v) (hC : ∀ C, ty = .object C → va_RA s0 cA ty) : xcell s0 D ad a (.inl (t, n, fun _ => v)) H' := by
  refine ⟨_, h1, ⟨ty, ht, hA n _, (fun h => by cases h), hC⟩, ⟨Nat.le_of_eq (arrV_size _ _ _).symm, by rw [arrV_size]⟩, fun j hj => ?_⟩
  rw [arrV_read _ _ hj, hv]
theorem xnewa_int (G : xG s0 D ad X) (F : xF s0 p s m meth c M) {w : xW} {r : List Value} {n : Int32} (B : xB s0 D ad X w H locs) (hn : ¬ n < 0) (hb8 : n.toNatClampNeg * 8 ≤ 536870912) (hd : decode (xby M) pc = .ok (.newarray .int, 2)) (hR : cells + 1 ≤ R.cells ∧ slots + n.toNatClampNeg ≤ R.slots)
    (k : ∀ H', xB s0 D ad X (w ++ [.inl (0, n.toNatClampNeg, fun _ => .int 0)]) H' locs → W p l e R s m args below meth c H' locs (cells + 1) (slots + n.toNatClampNeg) Q (F0 m (pc + 2) ls (.ref (ad.1 w.length) :: r.map (xv ad)))) : W p l e R s m args below meth c H locs cells slots Q (F0 m pc ls (.int n :: r.map (xv ad))) := by
  obtain ⟨hx, hb, hml, hr, hlk, hown, hnm, hexc, hW, hsz, hcn⟩ := F
  have h8 : n.toNatClampNeg * componentBytes (newarray.typeOf .int) ≤ 536870912 := by
    rw [show componentBytes (newarray.typeOf .int) = 4 from rfl]
    omega
  generalize hN : n.toNatClampNeg = N at *
  refine va_newaK (atype := .int) hx hb (G.word hW xw_int rfl args) rfl hd rfl hn hN h8 hR.1 hR.2 rfl fun H' cA e1 e2 e3 hA _ => ?_
  have e1' : H'[H.size]? = some (arrV cA N (fun _ => .int 0)) := e1
  obtain ⟨hB, ha⟩ := B.push (c := .inl (0, N, fun _ => .int 0)) G.2.2 (xarr_new (v := .int 0) (n := N) (ty := .int) 0 rfl e1' (arrOfT_moved hW.alike.symm hA) rfl (fun C h => by cases h)) e2 e3
  have := k H' hB
  rw [ha] at this
  exact this
theorem xnewa_byte (G : xG s0 D ad X) (F : xF s0 p s m meth c M) {w : xW} {r : List Value} {n : Int32} (B : xB s0 D ad X w H locs) (hn : ¬ n < 0) (hb8 : n.toNatClampNeg * 8 ≤ 536870912) (hd : decode (xby M) pc = .ok (.newarray .byte, 2)) (hR : cells + 1 ≤ R.cells ∧ slots + n.toNatClampNeg ≤ R.slots)
    (k : ∀ H', xB s0 D ad X (w ++ [.inl (1, n.toNatClampNeg, fun _ => .int 0)]) H' locs → W p l e R s m args below meth c H' locs (cells + 1) (slots + n.toNatClampNeg) Q (F0 m (pc + 2) ls (.ref (ad.1 w.length) :: r.map (xv ad)))) : W p l e R s m args below meth c H locs cells slots Q (F0 m pc ls (.int n :: r.map (xv ad))) := by
  obtain ⟨hx, hb, hml, hr, hlk, hown, hnm, hexc, hW, hsz, hcn⟩ := F
  have h8 : n.toNatClampNeg * componentBytes (newarray.typeOf .byte) ≤ 536870912 := by
    rw [show componentBytes (newarray.typeOf .byte) = 1 from rfl]
    omega
  generalize hN : n.toNatClampNeg = N at *
  refine va_newaK (atype := .byte) hx hb (G.word hW xw_byte rfl args) rfl hd rfl hn hN h8 hR.1 hR.2 rfl fun H' cA e1 e2 e3 hA _ => ?_
  have e1' : H'[H.size]? = some (arrV cA N (fun _ => .int 0)) := e1
  obtain ⟨hB, ha⟩ := B.push (c := .inl (1, N, fun _ => .int 0)) G.2.2 (xarr_new (v := .int 0) (n := N) (ty := .byte) 1 rfl e1' (arrOfT_moved hW.alike.symm hA) rfl (fun C h => by cases h)) e2 e3
  have := k H' hB
  rw [ha] at this
  exact this
theorem xnewa_boolean (G : xG s0 D ad X) (F : xF s0 p s m meth c M) {w : xW} {r : List Value} {n : Int32} (B : xB s0 D ad X w H locs) (hn : ¬ n < 0) (hb8 : n.toNatClampNeg * 8 ≤ 536870912) (hd : decode (xby M) pc = .ok (.newarray .boolean, 2)) (hR : cells + 1 ≤ R.cells ∧ slots + n.toNatClampNeg ≤ R.slots)
    (k : ∀ H', xB s0 D ad X (w ++ [.inl (2, n.toNatClampNeg, fun _ => .int 0)]) H' locs → W p l e R s m args below meth c H' locs (cells + 1) (slots + n.toNatClampNeg) Q (F0 m (pc + 2) ls (.ref (ad.1 w.length) :: r.map (xv ad)))) : W p l e R s m args below meth c H locs cells slots Q (F0 m pc ls (.int n :: r.map (xv ad))) := by
  obtain ⟨hx, hb, hml, hr, hlk, hown, hnm, hexc, hW, hsz, hcn⟩ := F
  have h8 : n.toNatClampNeg * componentBytes (newarray.typeOf .boolean) ≤ 536870912 := by
    rw [show componentBytes (newarray.typeOf .boolean) = 1 from rfl]
    omega
  generalize hN : n.toNatClampNeg = N at *
  refine va_newaK (atype := .boolean) hx hb (G.word hW xw_bool rfl args) rfl hd rfl hn hN h8 hR.1 hR.2 rfl fun H' cA e1 e2 e3 hA _ => ?_
  have e1' : H'[H.size]? = some (arrV cA N (fun _ => .int 0)) := e1
  obtain ⟨hB, ha⟩ := B.push (c := .inl (2, N, fun _ => .int 0)) G.2.2 (xarr_new (v := .int 0) (n := N) (ty := .boolean) 2 rfl e1' (arrOfT_moved hW.alike.symm hA) rfl (fun C h => by cases h)) e2 e3
  have := k H' hB
  rw [ha] at this
  exact this
theorem xnewa_long (G : xG s0 D ad X) (F : xF s0 p s m meth c M) {w : xW} {r : List Value} {n : Int32} (B : xB s0 D ad X w H locs) (hn : ¬ n < 0) (hb8 : n.toNatClampNeg * 8 ≤ 536870912) (hd : decode (xby M) pc = .ok (.newarray .long, 2)) (hR : cells + 1 ≤ R.cells ∧ slots + n.toNatClampNeg ≤ R.slots)
    (k : ∀ H', xB s0 D ad X (w ++ [.inl (3, n.toNatClampNeg, fun _ => .long 0)]) H' locs → W p l e R s m args below meth c H' locs (cells + 1) (slots + n.toNatClampNeg) Q (F0 m (pc + 2) ls (.ref (ad.1 w.length) :: r.map (xv ad)))) : W p l e R s m args below meth c H locs cells slots Q (F0 m pc ls (.int n :: r.map (xv ad))) := by
  obtain ⟨hx, hb, hml, hr, hlk, hown, hnm, hexc, hW, hsz, hcn⟩ := F
  have h8 : n.toNatClampNeg * componentBytes (newarray.typeOf .long) ≤ 536870912 := by
    rw [show componentBytes (newarray.typeOf .long) = 8 from rfl]
    omega
  generalize hN : n.toNatClampNeg = N at *
  refine va_newaK (atype := .long) hx hb (G.word hW xw_long rfl args) rfl hd rfl hn hN h8 hR.1 hR.2 rfl fun H' cA e1 e2 e3 hA _ => ?_
  have e1' : H'[H.size]? = some (arrV cA N (fun _ => .long 0)) := e1
  obtain ⟨hB, ha⟩ := B.push (c := .inl (3, N, fun _ => .long 0)) G.2.2 (xarr_new (v := .long 0) (n := N) (ty := .long) 3 rfl e1' (arrOfT_moved hW.alike.symm hA) rfl (fun C h => by cases h)) e2 e3
  have := k H' hB
  rw [ha] at this
  exact this
theorem xanew_4 (G : xG s0 D ad X) (F : xF s0 p s m meth c M) {w : xW} {r : List Value} {n : Int32} {idx : Nat} (B : xB s0 D ad X w H locs) (hl : Cond.classLink (xn M).cls idx "TrueFloats$Register" ∈ lw_tbl) (hn : ¬ n < 0) (hb4 : n.toNatClampNeg * 4 ≤ 536870912) (hd : decode (xby M) pc = .ok (.anewarray idx, 3)) (hR : cells + 1 ≤ R.cells ∧ slots + n.toNatClampNeg ≤ R.slots)
    (k : ∀ H', xB s0 D ad X (w ++ [.inl (4, n.toNatClampNeg, fun _ => .null)]) H' locs → W p l e R s m args below meth c H' locs (cells + 1) (slots + n.toNatClampNeg) Q (F0 m (pc + 3) ls (.ref (ad.1 w.length) :: r.map (xv ad)))) : W p l e R s m args below meth c H locs cells slots Q (F0 m pc ls (.int n :: r.map (xv ad))) := by
  obtain ⟨hx, hb, hml, hr, hlk, hown, hnm, hexc, hW, hsz, hcn⟩ := F
  refine W.anew hx hb hown (G.word hW hl rfl args) (G.word hW xw_over4 rfl args) rfl hd rfl hn hb4 hR.1 hR.2 fun cA kA comp f1 f2 f3 f4 => ?_
  have hra : va_RA s cA (.object "TrueFloats$Register") := ⟨kA, comp, f2, f3, f4, f1⟩
  have hAr : ArrOfT s cA (.object "TrueFloats$Register") := fun N z => ⟨(fun k h => by cases h), kA, f2, comp, f3⟩
  obtain ⟨hB, ha⟩ := B.push (H1 := H.push ({ cls := cA, slots := Array.replicate n.toNatClampNeg .null, vm := .none } : Cell)) G.2.2 (xarr_new (n := n.toNatClampNeg) (v := .null) 4 rfl (by rw [Array.getElem?_push_size, ← arrV_new]) (arrOfT_moved hW.alike.symm hAr) rfl (fun C h => va_RA.moved hW.alike.symm hra)) (by rw [Array.size_push]) (fun q hq => by rw [Array.getElem?_push, if_neg (Nat.ne_of_lt hq)])
  have := k _ hB
  rw [ha] at this
  exact this
theorem xanew_5 (G : xG s0 D ad X) (F : xF s0 p s m meth c M) {w : xW} {r : List Value} {n : Int32} {idx : Nat} (B : xB s0 D ad X w H locs) (hl : Cond.classLink (xn M).cls idx "TrueFloatsModel$Nat" ∈ lw_tbl) (hn : ¬ n < 0) (hb4 : n.toNatClampNeg * 4 ≤ 536870912) (hd : decode (xby M) pc = .ok (.anewarray idx, 3)) (hR : cells + 1 ≤ R.cells ∧ slots + n.toNatClampNeg ≤ R.slots)
    (k : ∀ H', xB s0 D ad X (w ++ [.inl (5, n.toNatClampNeg, fun _ => .null)]) H' locs → W p l e R s m args below meth c H' locs (cells + 1) (slots + n.toNatClampNeg) Q (F0 m (pc + 3) ls (.ref (ad.1 w.length) :: r.map (xv ad)))) : W p l e R s m args below meth c H locs cells slots Q (F0 m pc ls (.int n :: r.map (xv ad))) := by
  obtain ⟨hx, hb, hml, hr, hlk, hown, hnm, hexc, hW, hsz, hcn⟩ := F
  refine W.anew hx hb hown (G.word hW hl rfl args) (G.word hW xw_over5 rfl args) rfl hd rfl hn hb4 hR.1 hR.2 fun cA kA comp f1 f2 f3 f4 => ?_
  have hra : va_RA s cA (.object "TrueFloatsModel$Nat") := ⟨kA, comp, f2, f3, f4, f1⟩
  have hAr : ArrOfT s cA (.object "TrueFloatsModel$Nat") := fun N z => ⟨(fun k h => by cases h), kA, f2, comp, f3⟩
  obtain ⟨hB, ha⟩ := B.push (H1 := H.push ({ cls := cA, slots := Array.replicate n.toNatClampNeg .null, vm := .none } : Cell)) G.2.2 (xarr_new (n := n.toNatClampNeg) (v := .null) 5 rfl (by rw [Array.getElem?_push_size, ← arrV_new]) (arrOfT_moved hW.alike.symm hAr) rfl (fun C h => va_RA.moved hW.alike.symm hra)) (by rw [Array.size_push]) (fun q hq => by rw [Array.getElem?_push, if_neg (Nat.ne_of_lt hq)])
  have := k _ hB
  rw [ha] at this
  exact this
theorem xclass_link {cn key a : Nat} {wd : Jvm.Cond} (h : xword cn key 4 a = some wd) : ∃ C, xtys[a]? = some (.object C) ∧ wd = .classLink (xown cn) (key / 4) C := by
  simp only [xword] at h
  split at h
  · rename_i C hC
    cases h
    exact ⟨C, hC, rfl⟩
  · cases h
theorem xtys_obj {a : Nat} {C : String} (h : xtys[a]? = some (.object C)) : (a = 4 ∧ C = "TrueFloats$Register") ∨ (a = 5 ∧ C = "TrueFloatsModel$Nat") := by
  match a, h with
  | 4, h => cases h; exact Or.inl ⟨rfl, rfl⟩
  | 5, h => cases h; exact Or.inr ⟨rfl, rfl⟩
set_option maxHeartbeats 4000000 in
theorem xhp_sound (G : xG s0 D ad X) (F : xF s0 p s m meth c M) {w w' : xW} {st st' : List Value} {i : Instr} (hM : xkd M = 2 → (xn M).name = "<init>") (B : xB s0 D ad X w H locs) (h : xhp M X i st w = some (st', w')) (hd : decode (xby M) pc = .ok (i, xlen i))
    {cells' slots' : Nat} (hc : cells' + w.length = cells + w'.length) (hs : slots' + xsz w = slots + xsz w') (hR : cells' ≤ R.cells ∧ slots' ≤ R.slots)
    (k : ∀ H' locs', xB s0 D ad X w' H' locs' → W p l e R s m args below meth c H' locs' cells' slots' Q (F0 m (pc + xlen i) ls (st'.map (xv ad)))) : W p l e R s m args below meth c H locs cells slots Q (F0 m pc ls (st.map (xv ad))) := by
  have same : w' = w → cells' = cells ∧ slots' = slots := by rintro rfl; omega
  have len : w'.length = w.length → xsz w' = xsz w → cells' = cells ∧ slots' = slots := by intro h1 h2; omega
  cases i
  case getfield idx =>
    refine xgf_sound G F B h hd fun e => ?_
    obtain ⟨rfl, rfl⟩ := same e
    subst e
    exact k H locs B
  case putfield idx =>
    refine xpf_sound G F hM B h hd fun H' locs' hB h1 h2 => ?_
    obtain ⟨rfl, rfl⟩ := len h1 h2
    exact k H' locs' hB
  case iaload =>
    refine xal_i F B h hd fun e => ?_
    obtain ⟨rfl, rfl⟩ := same e
    subst e
    exact k H locs B
  case laload =>
    refine xal_l F B h hd fun e => ?_
    obtain ⟨rfl, rfl⟩ := same e
    subst e
    exact k H locs B
  case baload =>
    simp only [xhp] at h
    split at h
    · rename_i q hq
      cases h
      refine xal_b F B hq hd fun e => ?_
      obtain ⟨rfl, rfl⟩ := same e
      subst e
      exact k H locs B
    · refine xal_z F B h hd fun e => ?_
      obtain ⟨rfl, rfl⟩ := same e
      subst e
      exact k H locs B
  case aaload =>
    simp only [xhp] at h
    split at h
    · rename_i q hq
      cases h
      refine xal_r4 F B hq hd fun e => ?_
      obtain ⟨rfl, rfl⟩ := same e
      subst e
      exact k H locs B
    · refine xal_r5 F B h hd fun e => ?_
      obtain ⟨rfl, rfl⟩ := same e
      subst e
      exact k H locs B
  case iastore =>
    simp only [xhp] at h
    split at h
    · refine xas_i G F B h hd fun H' locs' hB h1 h2 => ?_
      obtain ⟨rfl, rfl⟩ := len h1 h2
      exact k H' locs' hB
    · cases h
  case lastore =>
    simp only [xhp] at h
    split at h
    · refine xas_l G F B h hd fun H' locs' hB h1 h2 => ?_
      obtain ⟨rfl, rfl⟩ := len h1 h2
      exact k H' locs' hB
    · cases h
  case bastore =>
    simp only [xhp] at h
    split at h
    · split at h
      · rename_i q hq
        cases h
        refine xas_b G F B hq hd fun H' locs' hB h1 h2 => ?_
        obtain ⟨rfl, rfl⟩ := len h1 h2
        exact k H' locs' hB
      · refine xas_z G F B h hd fun H' locs' hB h1 h2 => ?_
        obtain ⟨rfl, rfl⟩ := len h1 h2
        exact k H' locs' hB
    · cases h
  case aastore =>
    simp only [xhp] at h
    split at h
    · split at h
      · rename_i hv
        refine xas_r4 G F B hv h hd fun H' locs' hB h1 h2 => ?_
        obtain ⟨rfl, rfl⟩ := len h1 h2
        exact k H' locs' hB
      · rename_i hv
        refine xas_r5 G F B hv h hd fun H' locs' hB h1 h2 => ?_
        obtain ⟨rfl, rfl⟩ := len h1 h2
        exact k H' locs' hB
      · cases h
    · cases h
  case arraylength =>
    simp only [xhp] at h
    split at h
    · rename_i h0 r
      split at h
      · rename_i t n g hw
        cases h
        obtain ⟨rfl, rfl⟩ := same rfl
        obtain ⟨ce, q1, ⟨ty, a1, a2, a3, a4⟩, q3, q4⟩ := B.1 h0 _ hw
        obtain ⟨hx, hb, hml, hr, hlk, hown, hnm, hexc, hW, hsz, hcn⟩ := F
        exact W.alen hx hb q1 (State.isArrayOf_alike hW.alike a2) q3.2 rfl rfl hd (k H locs B)
      · cases h
    · cases h
  case newarray at' =>
    simp only [xhp] at h
    split at h
    · rename_i n r
      split at h
      · cases h
      · rename_i hn
        cases h8 : Nat.ble (n.toNatClampNeg * 8) 536870912 with
        | false => rw [h8] at h; cases h
        | true =>
          rw [h8] at h
          have h8 := Nat.le_of_ble_eq_true h8
          simp only [cond_true] at h
          split at h
          · cases h
            rw [List.length_append, List.length_singleton] at hc
            rw [xsz_push] at hs
            simp only [xcs] at hs
            obtain rfl : cells' = cells + 1 := by omega
            obtain rfl : slots' = slots + n.toNatClampNeg := by omega
            exact xnewa_int G F B hn h8 hd hR fun H' hB => k H' locs hB
          · cases h
            rw [List.length_append, List.length_singleton] at hc
            rw [xsz_push] at hs
            simp only [xcs] at hs
            obtain rfl : cells' = cells + 1 := by omega
            obtain rfl : slots' = slots + n.toNatClampNeg := by omega
            exact xnewa_byte G F B hn h8 hd hR fun H' hB => k H' locs hB
          · cases h
            rw [List.length_append, List.length_singleton] at hc
            rw [xsz_push] at hs
            simp only [xcs] at hs
            obtain rfl : cells' = cells + 1 := by omega
            obtain rfl : slots' = slots + n.toNatClampNeg := by omega
            exact xnewa_boolean G F B hn h8 hd hR fun H' hB => k H' locs hB
          · cases h
            rw [List.length_append, List.length_singleton] at hc
            rw [xsz_push] at hs
            simp only [xcs] at hs
            obtain rfl : cells' = cells + 1 := by omega
            obtain rfl : slots' = slots + n.toNatClampNeg := by omega
            exact xnewa_long G F B hn h8 hd hR fun H' hB => k H' locs hB
          · cases h
    · cases h
  case anewarray idx =>
    simp only [xhp] at h
    split at h
    · rename_i t pos n r hlook
      split at h
      · cases h
      · rename_i hn
        cases h8 : Nat.ble (n.toNatClampNeg * 4) 536870912 with
        | false => rw [h8] at h; cases h
        | true =>
          rw [h8] at h
          have h8 := Nat.le_of_ble_eq_true h8
          cases h
          rw [List.length_append, List.length_singleton] at hc
          rw [xsz_push] at hs
          simp only [xcs] at hs
          obtain rfl : cells' = cells + 1 := by omega
          obtain rfl : slots' = slots + n.toNatClampNeg := by omega
          obtain ⟨wd, hwd, hmem⟩ := xlook_ok hlook
          obtain ⟨C, hC, rfl⟩ := xclass_link hwd
          rw [xown_eq F.2.2.2.2.2.2.2.2.2.2, show (idx * 4 + 1) / 4 = idx by omega] at hmem
          rcases xtys_obj hC with ⟨rfl, rfl⟩ | ⟨rfl, rfl⟩
          · exact xanew_4 G F B hmem hn h8 hd hR fun H' hB => k H' locs hB
          · exact xanew_5 G F B hmem hn h8 hd hR fun H' hB => k H' locs hB
    · cases h
  case ldc_w idx =>
    simp only [xhp] at h
    split at h
    · rename_i a pos hlook
      split at h
      · rename_i v hv
        cases h
        obtain ⟨rfl, rfl⟩ := same rfl
        obtain ⟨wd, hwd, hmem⟩ := xlook_ok hlook
        simp only [xword, hv] at hwd
        cases hwd
        obtain ⟨hx, hb, hml, hr, hlk, hown, hnm, hexc, hW, hsz, hcn⟩ := F
        rw [xown_eq hcn, show idx * 4 / 4 = idx by omega] at hmem
        exact lv_ldcw hx hb hown (G.word hW hmem rfl args) hd (k H locs B)
      · cases h
    · cases h
  case ldc idx =>
    simp only [xhp] at h
    split at h
    · rename_i a pos hlook
      split at h
      · rename_i v hv
        cases h
        obtain ⟨rfl, rfl⟩ := same rfl
        obtain ⟨wd, hwd, hmem⟩ := xlook_ok hlook
        simp only [xword, hv] at hwd
        cases hwd
        obtain ⟨hx, hb, hml, hr, hlk, hown, hnm, hexc, hW, hsz, hcn⟩ := F
        rw [xown_eq hcn, show idx * 4 / 4 = idx by omega] at hmem
        exact lv_ldc hx hb hown (G.word hW hmem rfl args) hd (k H locs B)
      · cases h
    · rename_i pos hlook
      cases h
      obtain ⟨rfl, rfl⟩ := same rfl
      obtain ⟨wd, hwd, hmem⟩ := xlook_ok hlook
      obtain ⟨hx, hb, hml, hr, hlk, hown, hnm, hexc, hW, hsz, hcn⟩ := F
      simp only [xword] at hwd
      split at hwd
      · rename_i e1 e2 e3
        have e9 : idx = 37 := by omega
        subst e9
        rw [e2] at hcn
        have e8 : (xn M).cls = "TrueFloats$Reader" := (Option.some.inj hcn).symm
        rw [e8] at hown
        exact va_ldcS hx hb hown (vk_R.warm hW G.1.2.2.2.2.1) hd (k H locs B)
      · rename_i e1 e2 e3
        cases e1
      · cases hwd
    · rename_i pos hlook
      cases h
      obtain ⟨rfl, rfl⟩ := same rfl
      obtain ⟨wd, hwd, hmem⟩ := xlook_ok hlook
      obtain ⟨hx, hb, hml, hr, hlk, hown, hnm, hexc, hW, hsz, hcn⟩ := F
      simp only [xword] at hwd
      split at hwd
      · rename_i e1 e2 e3
        cases e1
      · rename_i e1 e2 e3
        have e9 : idx = 50 := by omega
        subst e9
        rw [e2] at hcn
        have e8 : (xn M).cls = "TrueFloats$Reader" := (Option.some.inj hcn).symm
        rw [e8] at hown
        exact va_ldcS hx hb hown (vk_R.warm hW G.1.2.2.2.2.2.1) hd (k H locs B)
      · cases hwd
    · cases h
  case getstatic idx =>
    simp only [xhp] at h
    split at h
    · rename_i pos hlook
      cases h
      obtain ⟨rfl, rfl⟩ := same rfl
      obtain ⟨wd, hwd, hmem⟩ := xlook_ok hlook
      simp only [xword] at hwd
      cases hwd
      obtain ⟨hx, hb, hml, hr, hlk, hown, hnm, hexc, hW, hsz, hcn⟩ := F
      rw [xown_eq hcn, show idx * 4 / 4 = idx by omega] at hmem
      obtain ⟨cf, kf, fi, f, a, ce, h1, h2, h3, h4, h5, h6, h7, h8⟩ := va_Z.moved hW.alike G.1.2.2.1
      exact W.gets hx hb hown (G.word hW hmem rfl args) h1 h2 h3 h4 (by rw [B.2.2.2.1 a (Array.getElem?_eq_some_iff.mp h5).1]; exact h5) (fun e => by rw [e] at h6; cases h6) h7 rfl hd (k H locs B)
    · rename_i pos hlook
      cases h
      obtain ⟨rfl, rfl⟩ := same rfl
      obtain ⟨wd, hwd, hmem⟩ := xlook_ok hlook
      simp only [xword] at hwd
      cases hwd
      obtain ⟨hx, hb, hml, hr, hlk, hown, hnm, hexc, hW, hsz, hcn⟩ := F
      rw [xown_eq hcn, show idx * 4 / 4 = idx by omega] at hmem
      obtain ⟨cf, kf, fi, f, a, ce, h1, h2, h3, h4, h5, h6, h7, h8⟩ := va_Z.moved hW.alike G.1.2.2.2.1
      exact W.gets hx hb hown (G.word hW hmem rfl args) h1 h2 h3 h4 (by rw [B.2.2.2.1 a (Array.getElem?_eq_some_iff.mp h5).1]; exact h5) (fun e => by rw [e] at h6; cases h6) h7 rfl hd (k H locs B)
    · rename_i pos hlook
      cases h
      obtain ⟨rfl, rfl⟩ := same rfl
      obtain ⟨wd, hwd, hmem⟩ := xlook_ok hlook
      simp only [xword] at hwd
      cases hwd
      obtain ⟨hx, hb, hml, hr, hlk, hown, hnm, hexc, hW, hsz, hcn⟩ := F
      rw [xown_eq hcn, show idx * 4 / 4 = idx by omega] at hmem
      obtain ⟨cf, kf, fi, f, a, ce, h1, h2, h3, h4, h5, h6, h7, h8⟩ := va_Z.moved hW.alike G.1.2.2.2.2.2.2
      exact W.gets hx hb hown (G.word hW hmem rfl args) h1 h2 h3 h4 (by rw [B.2.2.2.1 a (Array.getElem?_eq_some_iff.mp h5).1]; exact h5) (fun e => by rw [e] at h6; cases h6) h7 rfl hd (k H locs B)
    · rename_i pos hlook
      cases h
      obtain ⟨rfl, rfl⟩ := same rfl
      obtain ⟨wd, hwd, hmem⟩ := xlook_ok hlook
      simp only [xword] at hwd
      cases hwd
      obtain ⟨hx, hb, hml, hr, hlk, hown, hnm, hexc, hW, hsz, hcn⟩ := F
      rw [xown_eq hcn, show idx * 4 / 4 = idx by omega] at hmem
      obtain ⟨cf, kf, fi, f, a, ce, h1, h2, h3, h4, h5, h6, h7, h8⟩ := va_Z.moved hW.alike G.1.2.1
      exact va_WgetsN hx hb hown (G.word hW hmem rfl args) h1 h2 h3 h4 (by rw [B.2.2.2.1 a (Array.getElem?_eq_some_iff.mp h5).1]; exact h5) (fun e => by rw [e] at h6; cases h6) h7 rfl hd (k H locs B)
    · cases h
  case ldc2_w idx =>
    simp only [xhp] at h
    split at h
    · rename_i a pos hlook
      split at h
      · rename_i v hv
        cases h
        obtain ⟨rfl, rfl⟩ := same rfl
        obtain ⟨wd, hwd, hmem⟩ := xlook_ok hlook
        simp only [xword, hv] at hwd
        cases hwd
        obtain ⟨hx, hb, hml, hr, hlk, hown, hnm, hexc, hW, hsz, hcn⟩ := F
        rw [xown_eq hcn, show idx * 4 / 4 = idx by omega] at hmem
        exact lv_ldc2 hx hb hown (G.word hW hmem rfl args) hd (k H locs B)
      · cases h
    · cases h
  all_goals exact absurd h (by simp [xhp])
theorem xnew_sound (G : xG s0 D ad X) (F : xF s0 p s m meth c M) {w w' : xW} {st st' : List Value} {i : Instr} (B : xB s0 D ad X w H locs) (h : xnew M i st w = some (st', w')) {len : Nat} (hd : decode (xby M) pc = .ok (i, len)) (hlen : len = xlen i)
    {cells' slots' : Nat} (hc : cells' + w.length = cells + w'.length) (hs : slots' + xsz w = slots + xsz w') (hR : cells' ≤ R.cells ∧ slots' ≤ R.slots)
    (k : ∀ H' locs', xB s0 D ad X w' H' locs' → W p l e R s m args below meth c H' locs' cells' slots' Q (F0 m (pc + 3) ls (st'.map (xv ad)))) : W p l e R s m args below meth c H locs cells slots Q (F0 m pc ls (st.map (xv ad))) := by
  subst hlen
  obtain ⟨hx, hb, hml, hr, hlk, hown, hnm, hexc, hW, hsz, hcn⟩ := F
  unfold xnew at h
  split at h
  · rename_i idx
    split at h
    · rename_i ci pos hlook
      split at h
      · rename_i fs hfs
        cases h
        obtain ⟨wd, hwd, hmem⟩ := xlook_ok hlook
        simp only [xword] at hwd
        cases h14 : Nat.blt ci 14 with
        | false => rw [h14] at hwd; cases hwd
        | true =>
          have h14' := xblt h14
          obtain ⟨q, hq, hl, hins, hini, -, hok⟩ := xC_ok h14'
          rw [h14, hq] at hwd
          cases hwd
          rw [xown_eq hcn, show idx * 4 / 4 = idx by omega] at hmem
          rw [List.length_append, List.length_singleton] at hc
          rw [xsz_push] at hs
          simp only [xcs, hq, h14, cond_true] at hs
          obtain rfl : cells' = cells + 1 := by omega
          obtain rfl : slots' = slots + q.2.2 := by omega
          have hKn := (va_K.moved hW.alike G.2.1).1 ci q hq
          refine W.newcK hx hb hown (G.word hW hmem rfl args) (G.word hW hins rfl args) (G.word hW hini rfl args) rfl hd hR.1 hR.2 hKn.2.1 rfl fun H' kC hkC e1 e2 e3 => ?_
          unfold xclok at hok
          rw [hq] at hok
          split at hok
          · rename_i q0 ts ds f1 f2 f3
            cases f1
            simp only [Bool.and_eq_true, List.all_eq_true, List.mem_range, decide_eq_true_eq] at hok
            have hl1 : ts.length = q.2.2 := Nat.eq_of_beq_eq_true hok.1.1.1
            cases hfs.symm.trans f3
            have hts := G.lays hW hq args
            have hborn := u_born (fun k => ts.getD k .int) hts (fun _ h => h) hKn hkC e1 (fun k hk => by
              rw [(hok.1.2 k hk).1, List.getD_eq_getElem?_getD, List.getElem?_eq_getElem (by omega)]; rfl)
            obtain ⟨hB, ha⟩ := B.push (H1 := H') (c := .inr (ci, fs)) G.2.2 ⟨q, hq, xOB.of (t_OB.to hborn (fun k hk => by
              have hd1 := (hok.1.2 k hk).2
              simp only [vp_V, List.getD_eq_getElem?_getD, hd1]
              rw [List.getElem?_eq_getElem (l := ts) (i := k) (by omega)]
              simp only [Option.map_some, Option.getD_some]
              cases ts[k] <;> rfl))⟩ e2 e3
            have := k H' locs hB
            simp only [List.map_cons, xv] at this
            rw [ha] at this
            exact this
          · cases hok
      · cases h
    · cases h
  · cases h
theorem xobj_sound (G : xG s0 D ad X) (F : xF s0 p s m meth c M) {w : xW} {st st' : List Value} {i : Instr} (hl : ls.size = xmx M) (h : xobj M i st = some st') {len : Nat} (hd : decode (xby M) pc = .ok (i, len)) (hlen : len = xlen i) (hf : 1 ≤ R.frames) (hlo : 64 ≤ R.locals) (h16 : xcat st' ≤ 16)
    (k : W p l e R s m args below meth c H locs cells slots Q (F0 m (pc + 3) ls (st'.map (xv ad)))) : W p l e R s m args below meth c H locs cells slots Q (F0 m pc ls (st.map (xv ad))) := by
  subst hlen
  obtain ⟨hx, hb, hml, hr, hlk, hown, hnm, hexc, hW, hsz, hcn⟩ := F
  unfold xobj at h
  split at h
  · rename_i idx h0 r
    split at h
    · rename_i a pos hlook
      cases h
      obtain ⟨wd, hwd, hmem⟩ := xlook_ok hlook
      simp only [xword] at hwd
      cases hwd
      rw [xown_eq hcn, show idx * 4 / 4 = idx by omega] at hmem
      have hsum : ((st'.map (xv ad)).map (fun v => v.category)).sum = xcat st' := by
        rw [List.map_map]
        unfold xcat
        congr 2
        funext v
        exact xv_cat ad v
      exact W.objInit hx hb hown (G.word hW hmem rfl args) (G.word hW xw_oinit rfl args) (G.word hW xw_ocode rfl args) rfl (hl.trans hml.symm) rfl hd hf (by show 2 * 0 + _ + 12 ≤ _; rw [hsum]; omega) k
    · cases h
  · cases h
theorem xw_cnat : Cond.native arraycopyName ∈ lw_tbl := xt_3 212 rfl
theorem xw_cstat : Cond.static arraycopyName ∈ lw_tbl := xt_3 211 rfl
theorem xw_csys : Cond.initialized "java/lang/System" ∈ lw_tbl := xt_1 22 rfl
theorem xcpy_sound (G : xG s0 D ad X) (F : xF s0 p s m meth c M) {w w' : xW} {st st' : List Value} {i : Instr} (hl : ls.size = xmx M) (B : xB s0 D ad X w H locs) (h : xcpy M X i st w = some (st', w')) {len : Nat} (hd : decode (xby M) pc = .ok (i, len)) (hlen : len = xlen i) (hf : 1 ≤ R.frames) (hlo : 64 ≤ R.locals) (h16 : xcat st' ≤ 16)
    (k : ∀ H' locs', xB s0 D ad X w' H' locs' → w'.length = w.length → xsz w' = xsz w → W p l e R s m args below meth c H' locs' cells slots Q (F0 m (pc + 3) ls (st'.map (xv ad)))) : W p l e R s m args below meth c H locs cells slots Q (F0 m pc ls (st.map (xv ad))) := by
  subst hlen
  obtain ⟨hx, hb, hml, hr, hlk, hown, hnm, hexc, hW, hsz, hcn⟩ := F
  unfold xcpy at h
  split at h
  · rename_i idx n dp a sp a0 r
    split at h
    · rename_i z1 z2 hlook
      split at h
      · rename_i n0 f n1 g hw0 hw1
        split at h
        · cases h
        · rename_i hneg
          cases hcc : (Nat.ble (sp.toNatClampNeg + n.toNatClampNeg) n0 && Nat.ble (dp.toNatClampNeg + n.toNatClampNeg) n1 && (List.range n.toNatClampNeg).all (fun k => xisi (f (sp.toNatClampNeg + k)))) with
          | false => rw [hcc] at h; cases h
          | true =>
            rw [hcc] at h
            simp only [cond_true, xset] at h
            cases hX : Nat.ble X a with
            | false => rw [hX] at h; cases h
            | true =>
              rw [hX] at h
              simp only [cond_true, Option.map_some, Option.some.injEq, Prod.mk.injEq] at h
              obtain ⟨rfl, rfl⟩ := h
              have hX := Nat.le_of_ble_eq_true hX
              simp only [Bool.and_eq_true] at hcc
              obtain ⟨⟨c1, c2⟩, c3⟩ := hcc
              have c1 := Nat.le_of_ble_eq_true c1
              have c2 := Nat.le_of_ble_eq_true c2
              have h1 : ¬ sp < 0 := fun q => hneg (Or.inl q)
              have h2 : ¬ dp < 0 := fun q => hneg (Or.inr (Or.inl q))
              have h3 : ¬ n < 0 := fun q => hneg (Or.inr (Or.inr q))
              obtain ⟨wd, hwd, hmem⟩ := xlook_ok hlook
              simp only [xword] at hwd
              cases hwd
              rw [xown_eq hcn, show idx * 4 / 4 = idx by omega] at hmem
              obtain ⟨cs, p1, ⟨ty0, a1, a2, a3, -⟩, p3, p4⟩ := B.1 a0 _ hw0
              obtain ⟨cd, q1, ⟨ty1, b1, b2, b3, b4⟩, q3, q4⟩ := B.1 a _ hw1
              cases a1
              cases b1
              have nn : ∀ z : Int32, ¬ z < 0 → z.toInt = (z.toNatClampNeg : Int) := by
                intro z hz
                have hz0 : (0 : Int) ≤ z.toInt := by
                  have := Int32.not_lt.mp hz
                  simpa using Int32.le_iff_toInt_le.mp this
                show z.toInt = ((z.toInt.toNat : Nat) : Int)
                omega
              obtain ⟨-, k0, hk0, cm0, hkk0⟩ := State.isArrayOf_alike hW.alike a2
              obtain ⟨-, k1, hk1, cm1, hkk1⟩ := State.isArrayOf_alike hW.alike b2
              intro T hT Y
              have hget : ∀ j, j < n.toNatClampNeg → cs.slots.getD (sp.toNatClampNeg + j) .null = xv ad (f (sp.toNatClampNeg + j)) := by
                intro j hj
                rw [Array.getD_eq_getD_getElem?, p4 _ (by omega)]
                rfl
              obtain ⟨vm', X', step⟩ := Y.arraycopy hx hown (G.word hW hmem rfl args) (G.word hW xw_cnat rfl args) (G.word hW xw_cstat rfl args) (G.word hW xw_csys rfl args) (src := ad.1 a0) (dst := ad.1 a) (cs := cs) (cd := cd) (srcPos := sp) (destPos := dp) (n := n) (by rw [hT]; exact p1) (by rw [hT]; exact q1) a2.1 b2.1 a3 b3 hk0 hk1 hkk0 hkk1 rfl h1 h2 h3
                (by rw [nn sp h1, nn n h3]; have := p3.1; omega) (by rw [nn dp h2, nn n h3]; have := q3.1; omega)
                (fun vm₁ _ j hj => by
                  have hi := List.all_eq_true.mp c3 j (List.mem_range.mpr hj)
                  rw [hget j hj]
                  generalize f (sp.toNatClampNeg + j) = v0 at hi
                  cases v0 <;> first | exact ⟨rfl, trivial⟩ | cases hi)
                (g := F0 m pc ls (.int n :: .int dp :: .ref (ad.1 a) :: .int sp :: .ref (ad.1 a0) :: r.map (xv ad))) rfl (hl.trans hml.symm) (rest := r.map (xv ad)) rfl (by rw [hb]; exact hd) hf
                (by
                  have hsum : ((r.map (xv ad)).map (fun v => v.category)).sum = xcat r := by
                    rw [List.map_map]
                    unfold xcat
                    congr 2
                    funext v
                    exact xv_cat ad v
                  show 2 * 0 + _ + (7 + 11) ≤ R.locals
                  rw [hsum]; omega)
              have hlt : ad.1 a < T.heap.size := by rw [hT]; exact (Array.getElem?_eq_some_iff.mp q1).1
              have hlen : (cs.stretch sp.toNatClampNeg n.toNatClampNeg).length = n.toNatClampNeg := by simp [Cell.stretch]
              obtain ⟨f1, f2, f3, -, -⟩ := Cell.storeRun_facts cd dp.toNatClampNeg (cs.stretch sp.toNatClampNeg n.toNatClampNeg)
              have hcell : xcell s0 D ad (ad.1 a) (.inl (0, n1, xcp f g sp.toNatClampNeg dp.toNatClampNeg n.toNatClampNeg)) ((T.setVm vm').setCell (ad.1 a) (copied cs cd sp dp n)).heap := by
                refine ⟨copied cs cd sp dp n, by simp [State.setCell, hlt], ⟨.int, rfl, ?_, ?_, fun C h => by cases h⟩, ?_, fun j hj => ?_⟩
                · obtain ⟨z1, kk, hkk, cm, hcm⟩ := b2
                  exact ⟨fun k h => z1 k (by rw [← h]; exact f2.symm), kk, by rw [show (copied cs cd sp dp n).cls = cd.cls from f1]; exact hkk, cm, hcm⟩
                · rw [show (copied cs cd sp dp n).vm = cd.vm from f2]; exact b3
                · rw [show (copied cs cd sp dp n).slots.size = cd.slots.size from f3]; exact q3
                · rw [show (copied cs cd sp dp n).slots[j]? = _ from Cell.storeRun_get cd dp.toNatClampNeg _ j (by rw [hlen]; have := q3.1; omega), hlen]
                  by_cases hin : dp.toNatClampNeg ≤ j ∧ j < dp.toNatClampNeg + n.toNatClampNeg
                  · rw [if_pos hin]
                    have hb1 : (Nat.ble dp.toNatClampNeg j && Nat.blt j (dp.toNatClampNeg + n.toNatClampNeg)) = true := by
                      rw [Nat.ble_eq_true_of_le hin.1, show Nat.blt j (dp.toNatClampNeg + n.toNatClampNeg) = true from Nat.ble_eq_true_of_le hin.2]; rfl
                    simp only [xcp, hb1, cond_true]
                    rw [show (cs.stretch sp.toNatClampNeg n.toNatClampNeg)[j - dp.toNatClampNeg]? = some (cs.slots.getD (sp.toNatClampNeg + (j - dp.toNatClampNeg)) .null) by
                      simp only [Cell.stretch, List.getElem?_map]
                      rw [List.getElem?_range (by omega)]
                      rfl]
                    rw [hget _ (by omega)]
                  · rw [if_neg hin]
                    have hb1 : (Nat.ble dp.toNatClampNeg j && Nat.blt j (dp.toNatClampNeg + n.toNatClampNeg)) = false := by
                      rw [Bool.and_eq_false_iff]
                      by_cases hz : dp.toNatClampNeg ≤ j
                      · right
                        cases hq : Nat.blt j (dp.toNatClampNeg + n.toNatClampNeg) with
                        | false => rfl
                        | true => exact absurd ⟨hz, xblt hq⟩ hin
                      · left
                        cases hq : Nat.ble dp.toNatClampNeg j with
                        | false => rfl
                        | true => exact absurd (Nat.le_of_ble_eq_true hq) hz
                    simp only [xcp, hb1, cond_false]
                    exact q4 j hj
              have hB : xB s0 D ad X w T.heap locs := by rw [hT]; exact B
              obtain ⟨r1, r2, r3, r4, r5⟩ := hB.set (i := 0) G.2.2 hX hcell (by simp [State.setCell]) (fun q hq => by simp [State.setCell, Array.getElem?_setIfInBounds, Ne.symm hq])
              obtain ⟨t, u1, u2⟩ := k _ _ ⟨r1, r2, r3, r4, fun q hq => by
                rcases List.mem_append.mp hq with hq | hq
                · exact B.2.2.2.2 q hq
                · obtain ⟨z, -, hz⟩ := List.mem_map.mp hq
                  rw [← hz]
                  exact G.2.2.ge hX⟩ (by rw [List.length_set]) (xsz_set (c := .inl (0, n1, g)) (c' := .inl (0, n1, xcp f g sp.toNatClampNeg dp.toNatClampNeg n.toNatClampNeg)) rfl hw1) _ rfl X'
              exact ⟨t, step t u1, u2⟩
      · cases h
    · cases h
  · cases h
theorem xret_sound (F : xF s0 p s m meth c M) {w : xW} {st : List Value} {v : Option Value} {i : Instr} (B : xB s0 D ad X w H locs) (h : xret M i st = some v) {len : Nat} (hd : decode (xby M) pc = .ok (i, len)) (hlen : len = xlen i) :
    W p l e R s m args below meth c H locs cells slots (xEnd s0 D ad X s below (.inl v) w cells slots) (F0 m pc ls (st.map (xv ad))) := by
  subst hlen
  obtain ⟨hx, hb, hml, hr, hlk, hown, hnm, hexc, hW, hsz, hcn⟩ := F
  obtain ⟨b1, b2, b3, b4, b5⟩ := B
  have fin : ∀ t, MQ below (fun _ _ oc t => xout ad (.inl v) oc ∧ t.heap = H) args s cells slots (fun q => s0.heap.size ≤ q) t → xEnd s0 D ad X s below (.inl v) w cells slots t := by
    rintro t ⟨oc, h1, h2, ⟨h3, h4⟩, L, ⟨-, h5, h6⟩, h7⟩
    exact ⟨oc, L, h1, h2, h3, h5, h6, by rw [h4]; exact ⟨b1, b2, b3, b4, h7⟩⟩
  refine xW_mono fin ?_
  unfold xret at h
  split at h
  · rename_i x
    split at h
    · rename_i hrt
      cases h
      exact W.iret hx hb (hr.trans hrt) (fun t ht _ => ⟨rfl, ht⟩) b5 hd hlk
    · rename_i hrt
      cases hz : xok .boolean (.int x) with
      | false => rw [hz] at h; cases h
      | true =>
        rw [hz] at h
        cases h
        exact W.zret hx hb (hr.trans hrt) (xok_fits ad hz).1 (fun t ht _ => ⟨rfl, ht⟩) b5 hd hlk
    · rename_i hrt
      cases hz : xok .byte (.int x) with
      | false => rw [hz] at h; cases h
      | true =>
        rw [hz] at h
        cases h
        exact W.zret hx hb (hr.trans hrt) (xok_fits ad hz).1 (fun t ht _ => ⟨rfl, ht⟩) b5 hd hlk
    · rename_i hrt
      cases hz : xok .char (.int x) with
      | false => rw [hz] at h; cases h
      | true =>
        rw [hz] at h
        cases h
        exact W.zret hx hb (hr.trans hrt) (xok_fits ad hz).1 (fun t ht _ => ⟨rfl, ht⟩) b5 hd hlk
    · cases h
  · split at h
    · rename_i hrt
      cases h
      exact W.lret hx hb (hr.trans hrt) (fun t ht _ => ⟨rfl, ht⟩) b5 hd hlk
    · cases h
  · split at h
    · rename_i hrt
      cases h
      exact W.aret hx hb (hr.trans hrt) (Or.inl ⟨_, rfl⟩) (Or.inr ⟨_, rfl⟩) (fun t ht _ => ⟨rfl, ht⟩) b5 hd hlk
    · rename_i hrt
      cases h
      exact W.aret hx hb (hr.trans hrt) (Or.inr ⟨_, rfl⟩) (Or.inr ⟨_, rfl⟩) (fun t ht _ => ⟨rfl, ht⟩) b5 hd hlk
    · cases h
  · split at h
    · rename_i hrt
      cases h
      exact W.vret hx hb (hr.trans hrt) (fun t ht _ => ⟨rfl, ht⟩) b5 hd hlk
    · cases h
  · cases h
end XS3
