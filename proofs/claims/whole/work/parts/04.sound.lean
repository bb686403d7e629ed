/-- where cells lie, and one reference more (or null) that is only handed on -/
abbrev xA : Type := (Nat → Nat) × Option Nat
/-- values of the pure machine at their addresses -/
def xv (ad : xA) (v : Value) : Value := match v with
  | .ref h => .ref (ad.1 h)
  | .retAddr _ => match ad.2 with | some a => .ref a | none => .null
  | v => v
/-! the pure machine is sound: instructions on the operand stack, local variables, branches -/
theorem xv_cat (ad : xA) (v : Value) : (xv ad v).category = v.category := by
  obtain ⟨a, b⟩ := ad
  cases v <;> first | rfl | (cases b <;> rfl)
section XS1
variable {p : Program} {l : Launch} {e : Env} {R : Room} {s : State} {m : MethodId} {args : Array Value} {below : List Frame} {meth : Method} {c : Code} {H : Heap} {locs : List Loc} {cells slots : Nat} {Q : State → Prop}
variable {cc : ByteArray} {pc : Nat} {ls : Array Slot}
set_option maxHeartbeats 4000000 in
theorem xop_sound (ad : xA) (hx : p.tables.exec = Jvm.exec) (hb : c.code = cc) {i : Instr} {st st' : List Value} (h : xop i st = some st') (hd : decode cc pc = .ok (i, xlen i))
    (k : W p l e R s m args below meth c H locs cells slots Q (F0 m (pc + xlen i) ls (st'.map (xv ad)))) : W p l e R s m args below meth c H locs cells slots Q (F0 m pc ls (st.map (xv ad))) := by
  cases i
  case iconst n => cases h; exact lv_iconst hx hb hd rfl k
  case lconst n => cases h; exact lv_lconst hx hb hd rfl k
  case bipush n => cases h; exact lv_bipush hx hb hd rfl k
  case sipush n => cases h; exact lv_sipush hx hb hd rfl k
  case aconst_null => cases h; exact lv_null hx hb hd k
  case iadd =>
    simp only [xop] at h
    split at h
    · cases h; exact lv_iadd hx hb hd k
    · cases h
  case isub =>
    simp only [xop] at h
    split at h
    · cases h; exact lv_isub hx hb hd k
    · cases h
  case imul =>
    simp only [xop] at h
    split at h
    · cases h; exact lv_imul hx hb hd k
    · cases h
  case iand =>
    simp only [xop] at h
    split at h
    · cases h; exact lv_iand hx hb hd k
    · cases h
  case ior =>
    simp only [xop] at h
    split at h
    · cases h; exact lv_ior hx hb hd k
    · cases h
  case ixor =>
    simp only [xop] at h
    split at h
    · cases h; exact lv_ixor hx hb hd k
    · cases h
  case ineg =>
    simp only [xop] at h
    split at h
    · cases h; exact lv_ineg hx hb hd k
    · cases h
  case ladd =>
    simp only [xop] at h
    split at h
    · cases h; exact lv_ladd hx hb hd k
    · cases h
  case lsub =>
    simp only [xop] at h
    split at h
    · cases h; exact lv_lsub hx hb hd k
    · cases h
  case lmul =>
    simp only [xop] at h
    split at h
    · cases h; exact lv_lmul hx hb hd k
    · cases h
  case land =>
    simp only [xop] at h
    split at h
    · cases h; exact lv_land hx hb hd k
    · cases h
  case lor =>
    simp only [xop] at h
    split at h
    · cases h; exact lv_lor hx hb hd k
    · cases h
  case lxor =>
    simp only [xop] at h
    split at h
    · cases h; exact lv_lxor hx hb hd k
    · cases h
  case lneg =>
    simp only [xop] at h
    split at h
    · cases h; exact lv_lneg hx hb hd k
    · cases h
  case ishl =>
    simp only [xop] at h
    split at h
    · cases h; exact lv_ishl hx hb hd k
    · cases h
  case ishr =>
    simp only [xop] at h
    split at h
    · cases h; exact lv_ishr hx hb hd k
    · cases h
  case lcmp =>
    simp only [xop] at h
    split at h
    · cases h; exact W.lcmp hx hb hd k
    · cases h
  case iushr =>
    simp only [xop] at h
    split at h
    · cases h; exact lv_iushr hx hb hd rfl k
    · cases h
  case lshl =>
    simp only [xop] at h
    split at h
    · cases h; exact lv_lshl hx hb hd rfl k
    · cases h
  case lshr =>
    simp only [xop] at h
    split at h
    · cases h; exact lv_lshr hx hb hd rfl k
    · cases h
  case lushr =>
    simp only [xop] at h
    split at h
    · cases h; exact lv_lushr hx hb hd rfl k
    · cases h
  case i2l =>
    simp only [xop] at h
    split at h
    · cases h; exact lv_i2l hx hb hd rfl k
    · cases h
  case l2i =>
    simp only [xop] at h
    split at h
    · cases h; exact lv_l2i hx hb hd rfl k
    · cases h
  case i2b =>
    simp only [xop] at h
    split at h
    · cases h; exact lv_i2b hx hb hd rfl k
    · cases h
  case i2c =>
    simp only [xop] at h
    split at h
    · cases h; exact lv_i2c hx hb hd rfl k
    · cases h
  case i2s =>
    simp only [xop] at h
    split at h
    · cases h; exact lv_i2s hx hb hd rfl k
    · cases h
  case idiv =>
    simp only [xop] at h
    split at h
    · split at h
      · cases h
      · rename_i hne
        cases h; exact lv_idiv hx hb hd hne k
    · cases h
  case irem =>
    simp only [xop] at h
    split at h
    · split at h
      · cases h
      · rename_i hne
        cases h; exact lv_irem hx hb hd hne k
    · cases h
  case ldiv =>
    simp only [xop] at h
    split at h
    · split at h
      · cases h
      · rename_i hne
        cases h; exact lv_ldiv hx hb hd hne k
    · cases h
  case lrem =>
    simp only [xop] at h
    split at h
    · split at h
      · cases h
      · rename_i hne
        cases h; exact lv_lrem hx hb hd hne k
    · cases h
  case dup =>
    simp only [xop] at h
    split at h
    · split at h
      · rename_i ha
        cases h; exact lv_dup hx hb hd ((xv_cat ad _).trans ha) k
      · cases h
    · cases h
  case pop =>
    simp only [xop] at h
    split at h
    · split at h
      · rename_i ha
        cases h; exact lv_pop hx hb hd ((xv_cat ad _).trans ha) k
      · cases h
    · cases h
  case dup_x1 =>
    simp only [xop] at h
    split at h
    · split at h
      · rename_i ha
        cases h; exact lv_dup_x1 hx hb hd ((xv_cat ad _).trans ha.1) ((xv_cat ad _).trans ha.2) k
      · cases h
    · cases h
  case dup2 =>
    simp only [xop] at h
    split at h
    · split at h
      · rename_i ha
        cases h; exact lv_dup2_11 hx hb hd ((xv_cat ad _).trans ha.1) ((xv_cat ad _).trans ha.2) k
      · cases h
    · cases h
  all_goals exact absurd h (by simp [xop])
def xlm (ad : xA) (lv : xLv) : List (Nat × Value) := lv.map (fun q => (q.1, xv ad q.2))
theorem xld_mem {lv : xLv} {i : Nat} {v : Value} (h : xld lv i = some v) : (i, v) ∈ lv := by
  induction lv with
  | nil => cases h
  | cons q r ih =>
    simp only [xld] at h
    cases hq : Nat.beq q.1 i with
    | true =>
      rw [hq] at h
      have e : q.1 = i := Nat.eq_of_beq_eq_true hq
      cases h
      rw [← e]
      exact List.mem_cons_self
    | false =>
      rw [hq] at h
      exact List.mem_cons_of_mem _ (ih h)
theorem xld_at (ad : xA) {nL i : Nat} {lv : xLv} {v : Value} (hl : lv_has ls nL (xlm ad lv)) (h : xld lv i = some v) : ls[i]? = some (.val (xv ad v)) :=
  hl.2.2 (i, xv ad v) (List.mem_map.mpr ⟨(i, v), xld_mem h, rfl⟩)
theorem xst1_map (ad : xA) (lv : xLv) (i : Nat) (v : Value) : (i, xv ad v) :: (xlm ad lv).filter (fun q => !(q.1 == i) && !(q.1 + 1 == i && q.2.category == 2)) = xlm ad (xst1 lv i v) := by
  simp only [xlm, xst1, List.map_cons, List.filter_map]
  congr 2
  apply List.filter_congr
  intro q _
  simp [xv_cat]
theorem xst2_map (ad : xA) (lv : xLv) (i : Nat) (v : Value) : (i, xv ad v) :: (xlm ad lv).filter (fun q => !(q.1 == i) && (!(q.1 == i + 1) && !(q.1 + 1 == i && q.2.category == 2))) = xlm ad (xst2 lv i v) := by
  simp only [xlm, xst2, List.map_cons, List.filter_map]
  congr 2
  apply List.filter_congr
  intro q _
  simp [xv_cat]
theorem xblt {a b : Nat} (h : Nat.blt a b = true) : a < b := Nat.le_of_ble_eq_true h
set_option maxHeartbeats 4000000 in
theorem xloc_sound (ad : xA) (hx : p.tables.exec = Jvm.exec) (hb : c.code = cc) {nL : Nat} {i : Instr} {lv lv' : xLv} {st st' : List Value} (hl : lv_has ls nL (xlm ad lv)) (h : xloc nL i lv st = some (lv', st')) (hd : decode cc pc = .ok (i, xlen i))
    (k : ∀ ls' : Array Slot, lv_has ls' nL (xlm ad lv') → W p l e R s m args below meth c H locs cells slots Q (F0 m (pc + xlen i) ls' (st'.map (xv ad)))) : W p l e R s m args below meth c H locs cells slots Q (F0 m pc ls (st.map (xv ad))) := by
  cases i
  case iload j =>
    simp only [xloc, xldi] at h
    split at h
    · rename_i x hv
      cases h; exact lv_iload hx hb hd (xld_at ad hl hv) (k ls hl)
    · cases h
  case iload_n j =>
    simp only [xloc, xldi] at h
    split at h
    · rename_i x hv
      cases h; exact lv_iload_n hx hb hd rfl (xld_at ad hl hv) (k ls hl)
    · cases h
  case lload j =>
    simp only [xloc, xldl] at h
    split at h
    · rename_i x hv
      cases h; exact lv_lload hx hb hd (xld_at ad hl hv) (k ls hl)
    · cases h
  case lload_n j =>
    simp only [xloc, xldl] at h
    split at h
    · rename_i x hv
      cases h; exact lv_lload_n hx hb hd rfl (xld_at ad hl hv) (k ls hl)
    · cases h
  case aload j =>
    simp only [xloc, xlda] at h
    split at h
    · rename_i x hv
      cases h; exact lv_aload hx hb hd (xld_at ad hl hv) (k ls hl)
    · rename_i hv
      cases h; exact lv_aloadN hx hb hd (xld_at ad hl hv) (k ls hl)
    · cases h
  case aload_n j =>
    simp only [xloc, xlda] at h
    split at h
    · rename_i x hv
      cases h; exact lv_aload_n hx hb hd rfl (xld_at ad hl hv) (k ls hl)
    · rename_i hv
      cases h; exact lv_aload_nN hx hb hd rfl (xld_at ad hl hv) (k ls hl)
    · cases h
  case istore j =>
    simp only [xloc, xsti] at h
    split at h
    · rename_i x r
      cases hj : Nat.blt (j) nL with
      | true =>
        rw [hj] at h
        cases h
        exact lv_istore hx hb hd hl (xblt hj) (xst1_map ad lv _ (.int x)) k
      | false => rw [hj] at h; cases h
    · cases h
  case istore_n j =>
    simp only [xloc, xsti] at h
    split at h
    · rename_i x r
      cases hj : Nat.blt ((j : Nat)) nL with
      | true =>
        rw [hj] at h
        cases h
        exact lv_istore_n hx hb hd rfl hl (xblt hj) (xst1_map ad lv _ (.int x)) k
      | false => rw [hj] at h; cases h
    · cases h
  case lstore j =>
    simp only [xloc, xstl] at h
    split at h
    · rename_i x r
      cases hj : Nat.blt (j + 1) nL with
      | true =>
        rw [hj] at h
        cases h
        exact lv_lstore hx hb hd hl (xblt hj) (xst2_map ad lv _ (.long x)) k
      | false => rw [hj] at h; cases h
    · cases h
  case lstore_n j =>
    simp only [xloc, xstl] at h
    split at h
    · rename_i x r
      cases hj : Nat.blt ((j : Nat) + 1) nL with
      | true =>
        rw [hj] at h
        cases h
        exact lv_lstore_n hx hb hd rfl hl (xblt hj) (xst2_map ad lv _ (.long x)) k
      | false => rw [hj] at h; cases h
    · cases h
  case astore j =>
    simp only [xloc, xsta] at h
    split at h
    · rename_i x r
      cases hj : Nat.blt j nL with
      | true =>
        rw [hj] at h
        cases h
        exact lv_astore hx hb hd hl (xblt hj) (xst1_map ad lv _ (.ref x)) k
      | false => rw [hj] at h; cases h
    · rename_i r
      cases hj : Nat.blt j nL with
      | true =>
        rw [hj] at h
        cases h
        exact lv_astoreN hx hb hd hl (xblt hj) (xst1_map ad lv _ .null) k
      | false => rw [hj] at h; cases h
    · cases h
  case astore_n j =>
    simp only [xloc, xsta] at h
    split at h
    · rename_i x r
      cases hj : Nat.blt (j : Nat) nL with
      | true =>
        rw [hj] at h
        cases h
        exact lv_astore_n hx hb hd rfl hl (xblt hj) (xst1_map ad lv _ (.ref x)) k
      | false => rw [hj] at h; cases h
    · rename_i r
      cases hj : Nat.blt (j : Nat) nL with
      | true =>
        rw [hj] at h
        cases h
        exact lv_astore_nN hx hb hd rfl hl (xblt hj) (xst1_map ad lv _ .null) k
      | false => rw [hj] at h; cases h
    · cases h
  case iinc j n =>
    simp only [xloc] at h
    split at h
    · rename_i x hv
      cases hj : Nat.blt j nL with
      | true =>
        rw [hj] at h
        cases h
        obtain ⟨k0, hk0⟩ := List.getElem?_of_mem (List.mem_map.mpr ⟨(j, .int x), xld_mem hv, rfl⟩ : (j, xv ad (.int x)) ∈ xlm ad lv)
        exact lv_iinc hx hb hd hl hk0 rfl (xblt hj) (xst1_map ad lv j (.int (x + Int32.ofInt n))) k
      | false => rw [hj] at h; cases h
    · cases h
  all_goals exact absurd h (by simp [xloc])
theorem xtgt_ok {off : Int} {t : Nat} (h : xtgt pc off = some t) : (pc : Int) + off = (t : Int) := by
  unfold xtgt at h
  split at h
  · rename_i z hz
    cases h
    exact hz
  · cases h
set_option maxHeartbeats 4000000 in
theorem xbr_sound (ad : xA) (hx : p.tables.exec = Jvm.exec) (hb : c.code = cc) {i : Instr} {len pc' : Nat} {st st' : List Value} (h : xbr i pc st = some (pc', st')) (hd : decode cc pc = .ok (i, len)) (hlen : len = xlen i ∨ ∃ a b d f, i = .tableswitch a b d f)
    (k : W p l e R s m args below meth c H locs cells slots Q (F0 m pc' ls (st'.map (xv ad)))) : W p l e R s m args below meth c H locs cells slots Q (F0 m pc ls (st.map (xv ad))) := by
  cases i
  case ifCond cnd off =>
    have hd : decode cc pc = .ok (.ifCond cnd off, 3) := by rcases hlen with rfl | ⟨a, b, d, f, hq⟩; exact hd; cases hq
    simp only [xbr] at h
    split at h
    · rename_i x r
      cases ht : xtgt pc off with
      | none => rw [ht] at h; cases h
      | some t =>
        rw [ht] at h
        simp only [Option.map_some, Option.some.injEq, Prod.mk.injEq] at h
        obtain ⟨h1, rfl⟩ := h
        have ht := xtgt_ok ht
        cases cnd
        case eq => exact lv_if_eq hx hb hd ht (fun q => (show t = pc' by simpa [xcnd, q] using h1) ▸ k) (fun q => (show pc + 3 = pc' by simpa [xcnd, q] using h1) ▸ k)
        case ne => exact lv_if_ne hx hb hd ht (fun q => (show t = pc' by simpa [xcnd, q] using h1) ▸ k) (fun q => (show pc + 3 = pc' by simpa [xcnd, q] using h1) ▸ k)
        case lt => exact lv_if_lt hx hb hd ht (fun q => (show t = pc' by simpa [xcnd, q] using h1) ▸ k) (fun q => (show pc + 3 = pc' by simpa [xcnd, q] using h1) ▸ k)
        case ge => exact lv_if_ge hx hb hd ht (fun q => (show t = pc' by simpa [xcnd, q] using h1) ▸ k) (fun q => (show pc + 3 = pc' by simpa [xcnd, q] using h1) ▸ k)
        case gt => exact lv_if_gt hx hb hd ht (fun q => (show t = pc' by simpa [xcnd, q] using h1) ▸ k) (fun q => (show pc + 3 = pc' by simpa [xcnd, q] using h1) ▸ k)
        case le => exact lv_if_le hx hb hd ht (fun q => (show t = pc' by simpa [xcnd, q] using h1) ▸ k) (fun q => (show pc + 3 = pc' by simpa [xcnd, q] using h1) ▸ k)
    · cases h
  case if_icmp cnd off =>
    have hd : decode cc pc = .ok (.if_icmp cnd off, 3) := by rcases hlen with rfl | ⟨a, b, d, f, hq⟩; exact hd; cases hq
    simp only [xbr] at h
    split at h
    · rename_i y x r
      cases ht : xtgt pc off with
      | none => rw [ht] at h; cases h
      | some t =>
        rw [ht] at h
        simp only [Option.map_some, Option.some.injEq, Prod.mk.injEq] at h
        obtain ⟨h1, rfl⟩ := h
        have ht := xtgt_ok ht
        cases cnd
        case eq => exact lv_icmp_eq hx hb hd ht (fun q => (show t = pc' by simpa [xcnd, q] using h1) ▸ k) (fun q => (show pc + 3 = pc' by simpa [xcnd, q] using h1) ▸ k)
        case ne => exact lv_icmp_ne hx hb hd ht (fun q => (show t = pc' by simpa [xcnd, q] using h1) ▸ k) (fun q => (show pc + 3 = pc' by simpa [xcnd, q] using h1) ▸ k)
        case lt => exact lv_icmp_lt hx hb hd ht (fun q => (show t = pc' by simpa [xcnd, q] using h1) ▸ k) (fun q => (show pc + 3 = pc' by simpa [xcnd, q] using h1) ▸ k)
        case ge => exact lv_icmp_ge hx hb hd ht (fun q => (show t = pc' by simpa [xcnd, q] using h1) ▸ k) (fun q => (show pc + 3 = pc' by simpa [xcnd, q] using h1) ▸ k)
        case gt => exact lv_icmp_gt hx hb hd ht (fun q => (show t = pc' by simpa [xcnd, q] using h1) ▸ k) (fun q => (show pc + 3 = pc' by simpa [xcnd, q] using h1) ▸ k)
        case le => exact lv_icmp_le hx hb hd ht (fun q => (show t = pc' by simpa [xcnd, q] using h1) ▸ k) (fun q => (show pc + 3 = pc' by simpa [xcnd, q] using h1) ▸ k)
    · cases h
  case goto off =>
    have hd : decode cc pc = .ok (.goto off, 3) := by rcases hlen with rfl | ⟨a, b, d, f, hq⟩; exact hd; cases hq
    simp only [xbr] at h
    cases ht : xtgt pc off with
    | none => rw [ht] at h; cases h
    | some t =>
      rw [ht] at h
      cases h
      exact lv_goto hx hb hd (xtgt_ok ht) k
  case tableswitch dflt lo hi offs =>
    simp only [xbr] at h
    split at h
    · rename_i x r
      split at h
      · rename_i ho
        cases ht : xtgt pc dflt with
        | none => rw [ht] at h; cases h
        | some t =>
          rw [ht] at h
          cases h
          exact lv_tableOut hx hb hd ho (xtgt_ok ht) k
      · rename_i ho
        split at h
        · rename_i o hoo
          cases ht : xtgt pc o with
          | none => rw [ht] at h; cases h
          | some t =>
            rw [ht] at h
            cases h
            exact lv_tableIn hx hb hd (fun q => ho (Or.inl q)) (fun q => ho (Or.inr q)) hoo (xtgt_ok ht) k
        · cases h
    · cases h
  all_goals exact absurd h (by simp [xbr])
end XS1
