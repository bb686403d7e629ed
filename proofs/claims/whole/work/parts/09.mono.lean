/-! the pure machine makes cells and takes none away -/
def xle (w w' : xW) : Prop := w.length ≤ w'.length ∧ xsz w ≤ xsz w'
theorem xle.rf (w : xW) : xle w w := ⟨Nat.le_refl _, Nat.le_refl _⟩
theorem xle.tr {a b c : xW} (h1 : xle a b) (h2 : xle b c) : xle a c := ⟨Nat.le_trans h1.1 h2.1, Nat.le_trans h1.2 h2.2⟩
theorem xle.push (w : xW) (c : xC) : xle w (w ++ [c]) := ⟨by rw [List.length_append]; omega, by rw [xsz_push]; omega⟩
theorem xle.set {w : xW} {h : Nat} {c c' : xC} (hw : w[h]? = some c) (hc : xcs c' = xcs c) : xle w (w.set h c') := ⟨by rw [List.length_set]; exact Nat.le_refl _, by rw [xsz_set hc hw]; exact Nat.le_refl _⟩
theorem xset_le {X : Nat} {w w' : xW} {h : Nat} {c c' : xC} (hw : w[h]? = some c) (hs : xset X w h c' = some w') (hc : xcs c' = xcs c) : xle w w' := by
  unfold xset at hs
  cases hX : Nat.ble X h with
  | false => rw [hX] at hs; cases hs
  | true => rw [hX] at hs; cases hs; exact xle.set hw hc
theorem xgf_le {cn idx : Nat} {st st' : List Value} {w w' : xW} (h : xgf cn idx st w = some (st', w')) : xle w w' := by
  unfold xgf at h
  split at h
  · rename_i a pos h0 r hlook
    split at h
    · rename_i ci fs hw
      cases hc : Nat.beq ci (a / 64) with
      | false => rw [hc] at h; cases h
      | true =>
        rw [hc] at h
        simp only [cond_true] at h
        split at h
        · cases h; exact xle.rf _
        · cases h
    · cases h
  · cases h
theorem xpf_le {M : xM} {X idx : Nat} {st st' : List Value} {w w' : xW} (h : xpf M X idx st w = some (st', w')) : xle w w' := by
  unfold xpf at h
  split at h
  · rename_i a pos v h0 r hlook
    split at h
    · rename_i ci fs hw
      split at h
      · rename_i q ty hq hty
        cases hc : (Nat.beq ci (a / 64) && xok ty v && Nat.blt (a % 64) fs.length && (!(q.2.1 (a % 64)).2.2.2 || (Nat.beq (xkd M) 2 && Nat.beq (xcno M) ci))) with
        | false => rw [hc] at h; cases h
        | true =>
          rw [hc] at h
          simp only [cond_true] at h
          cases hs : xset X w h0 (.inr (ci, fs.set (a % 64) v)) with
          | none => rw [hs] at h; cases h
          | some w2 =>
            rw [hs] at h
            cases h
            exact xset_le hw hs rfl
      · cases h
    · cases h
  · cases h
theorem xal_le {t : Nat} {st st' : List Value} {w w' : xW} (h : xal t st w = some (st', w')) : xle w w' := by
  unfold xal at h
  split at h
  · rename_i i h0 r
    split at h
    · rename_i t' n g hw
      cases hc : (Nat.beq t t' && xin i n) with
      | false => rw [hc] at h; cases h
      | true => rw [hc] at h; cases h; exact xle.rf _
    · cases h
  · cases h
theorem xas_le {X t : Nat} {v : Value} {i : Int32} {h0 : Nat} {r st' : List Value} {w w' : xW} (h : xas X t v i h0 r w = some (st', w')) : xle w w' := by
  unfold xas at h
  split at h
  · rename_i t' n g hw
    cases hc : (Nat.beq t t' && xin i n) with
    | false => rw [hc] at h; cases h
    | true =>
      rw [hc] at h
      simp only [cond_true] at h
      cases hs : xset X w h0 (.inl (t, n, xup g i.toNatClampNeg v)) with
      | none => rw [hs] at h; cases h
      | some w2 =>
        rw [hs] at h
        cases h
        exact xset_le hw hs rfl
  · cases h
set_option maxHeartbeats 4000000 in
theorem xhp_le {M : xM} {X : Nat} {i : Instr} {st st' : List Value} {w w' : xW} (h : xhp M X i st w = some (st', w')) : xle w w' := by
  cases i
  case getfield => exact xgf_le h
  case putfield => exact xpf_le h
  case iaload => exact xal_le h
  case laload => exact xal_le h
  case baload =>
    simp only [xhp] at h
    split at h
    · rename_i q hq
      cases h; exact xal_le hq
    · exact xal_le h
  case aaload =>
    simp only [xhp] at h
    split at h
    · rename_i q hq
      cases h; exact xal_le hq
    · exact xal_le h
  case iastore =>
    simp only [xhp] at h
    split at h
    · exact xas_le h
    · cases h
  case lastore =>
    simp only [xhp] at h
    split at h
    · exact xas_le h
    · cases h
  case bastore =>
    simp only [xhp] at h
    split at h
    · split at h
      · rename_i q hq
        cases h; exact xas_le hq
      · exact xas_le h
    · cases h
  case aastore =>
    simp only [xhp] at h
    split at h
    · split at h
      · exact xas_le h
      · exact xas_le h
      · cases h
    · cases h
  case arraylength =>
    simp only [xhp] at h
    split at h
    · split at h
      · cases h; exact xle.rf _
      · cases h
    · cases h
  case newarray at' =>
    simp only [xhp] at h
    split at h
    · rename_i n r
      split at h
      · cases h
      · cases h8 : Nat.ble (n.toNatClampNeg * 8) 536870912 with
        | false => rw [h8] at h; cases h
        | true =>
          rw [h8] at h
          simp only [cond_true] at h
          split at h
          all_goals first | (cases h; exact xle.push _ _) | cases h
    · cases h
  case anewarray idx =>
    simp only [xhp] at h
    split at h
    · rename_i t pos n r hlook
      split at h
      · cases h
      · cases h8 : Nat.ble (n.toNatClampNeg * 4) 536870912 with
        | false => rw [h8] at h; cases h
        | true =>
          rw [h8] at h
          cases h; exact xle.push _ _
    · cases h
  case ldc_w idx =>
    simp only [xhp] at h
    split at h
    · split at h
      · cases h; exact xle.rf _
      · cases h
    · cases h
  case ldc idx =>
    simp only [xhp] at h
    split at h
    · split at h
      · cases h; exact xle.rf _
      · cases h
    · cases h; exact xle.rf _
    · cases h; exact xle.rf _
    · cases h
  case getstatic idx =>
    simp only [xhp] at h
    split at h
    · cases h; exact xle.rf _
    · cases h; exact xle.rf _
    · cases h; exact xle.rf _
    · cases h; exact xle.rf _
    · cases h
  case ldc2_w idx =>
    simp only [xhp] at h
    split at h
    · split at h
      · cases h; exact xle.rf _
      · cases h
    · cases h
  all_goals exact absurd h (by simp [xhp])
theorem xcpy_le {M : xM} {X : Nat} {i : Instr} {st st' : List Value} {w w' : xW} (h : xcpy M X i st w = some (st', w')) : xle w w' := by
  unfold xcpy at h
  split at h
  · rename_i idx n dp a sp a0 r
    split at h
    · split at h
      · rename_i n0 f n1 g hw0 hw1
        split at h
        · cases h
        · cases hcc : (Nat.ble (sp.toNatClampNeg + n.toNatClampNeg) n0 && Nat.ble (dp.toNatClampNeg + n.toNatClampNeg) n1 && (List.range n.toNatClampNeg).all (fun k => xisi (f (sp.toNatClampNeg + k)))) with
          | false => rw [hcc] at h; cases h
          | true =>
            rw [hcc] at h
            simp only [cond_true] at h
            cases hs : xset X w a (.inl (0, n1, xcp f g sp.toNatClampNeg dp.toNatClampNeg n.toNatClampNeg)) with
            | none => rw [hs] at h; cases h
            | some w2 =>
              rw [hs] at h
              cases h
              exact xset_le hw1 hs rfl
      · cases h
    · cases h
  · cases h
theorem xnew_le {M : xM} {i : Instr} {st st' : List Value} {w w' : xW} (h : xnew M i st w = some (st', w')) : xle w w' := by
  unfold xnew at h
  split at h
  · split at h
    · split at h
      · cases h; exact xle.push _ _
      · cases h
    · cases h
  · cases h
set_option maxHeartbeats 4000000 in
theorem xev_le {X : Nat} : ∀ {n d y pc : Nat} {lv : xLv} {st : List Value} {w : xW} {o : Option Value ⊕ Nat} {w' : xW}, xev X n d y pc lv st w = some (o, w') → xle w w'
  | 0, _, _, _, _, _, _, _, _, h => by cases h
  | n + 1, d, y, pc, lv, st, w, o, w', h => by
    simp only [xev] at h
    split at h
    · cases h
    · rename_i M hM
      split at h
      · cases h
      · rename_i i len hd
        cases hl : (Nat.beq len (xlen i) || xist i) with
        | false => rw [hl] at h; cases h
        | true =>
          rw [hl] at h
          simp only [cond_true] at h
          split at h
          · split at h
            · exact xev_le h
            · cases h
          · split at h
            · exact xev_le h
            · cases h
          · split at h
            · exact xev_le h
            · cases h
          · split at h
            · rename_i hq
              exact (xhp_le hq).tr (xev_le h)
            · cases h
          · split at h
            · cases h; exact xle.rf _
            · cases h
          · split at h
            · cases hc : (Nat.ble 6 d && Nat.ble (xcat st) 16) with
              | false => rw [hc] at h; cases h
              | true => rw [hc] at h; cases h; exact xle.push _ _
            · split at h
              · rename_i hq
                exact (xnew_le hq).tr (xev_le h)
              · cases h
          · split at h
            · rename_i st2 w2 hq
              cases hc : (Nat.ble (xcat st2) 16 && Nat.ble 1 d) with
              | false => rw [hc] at h; cases h
              | true => rw [hc] at h; exact (xcpy_le hq).tr (xev_le h)
            · split at h
              · rename_i st2 _
                cases hc : (Nat.ble (xcat st2) 16 && Nat.ble 1 d) with
                | false => rw [hc] at h; cases h
                | true => rw [hc] at h; exact xev_le h
              · split at h
                · rename_i t as rest d' hcl
                  split at h
                  · rename_i N hN
                    cases hc : (Nat.ble (xcat rest) 16 && Nat.ble (lg_sl as).length (xmx N)) with
                    | false => rw [hc] at h; cases h
                    | true =>
                      rw [hc] at h
                      simp only [cond_true] at h
                      split at h
                      · rename_i hq
                        exact (xev_le hq).tr (xev_le h)
                      · rename_i hq
                        split at h
                        · split at h
                          · exact (xev_le hq).tr (xev_le h)
                          · cases h; exact xev_le hq
                          · cases h
                        · cases h
                      · cases h
                  · cases h
                · cases h
          · cases h
