/-! running the pure machine: rules, goal first -/
set_option maxHeartbeats 4000000 in
theorem xev_up {X : Nat} : ∀ {n m d y pc : Nat} {lv : xLv} {st : List Value} {w : xW} {r : xR}, n ≤ m → xev X n d y pc lv st w = some r → xev X m d y pc lv st w = some r
  | 0, _, _, _, _, _, _, _, _, _, h => by cases h
  | n + 1, 0, _, _, _, _, _, _, _, hle, _ => by omega
  | n + 1, m + 1, d, y, pc, lv, st, w, r, hle, h => by
    have hle : n ≤ m := by omega
    simp only [xev] at h ⊢
    split at h
    · cases h
    · rename_i M hM
      split at h
      · cases h
      · rename_i i len hd
        cases hl : (Nat.beq len (xlen i) || xist i) with
        | false => rw [hl] at h; cases h
        | true =>
          rw [hl] at h
          simp only [cond_true] at h ⊢
          split at h
          · split at h
            · rename_i hq
              exact xev_up hle h
            · cases h
          · split at h
            · rename_i hq
              exact xev_up hle h
            · cases h
          · split at h
            · rename_i hq
              exact xev_up hle h
            · cases h
          · split at h
            · rename_i hq
              exact xev_up hle h
            · cases h
          · split at h
            · rename_i hq
              exact h
            · cases h
          · split at h
            · rename_i hq
              exact h
            · rename_i hq0
              split at h
              · rename_i hq
                exact xev_up hle h
              · cases h
          · split at h
            · rename_i st2 w2 hq
              cases hc : (Nat.ble (xcat st2) 16 && Nat.ble 1 d) with
              | false => rw [hc] at h; cases h
              | true => rw [hc] at h; exact xev_up hle h
            · rename_i hq00
              split at h
              · rename_i st2 hq
                cases hc : (Nat.ble (xcat st2) 16 && Nat.ble 1 d) with
                | false => rw [hc] at h; cases h
                | true => rw [hc] at h; exact xev_up hle h
              · rename_i hq0
                split at h
                · rename_i t as rest d' hcl
                  split at h
                  · rename_i N hN
                    cases hc : (Nat.ble (xcat rest) 16 && Nat.ble (lg_sl as).length (xmx N)) with
                    | false => rw [hc] at h; cases h
                    | true =>
                      rw [hc] at h
                      simp only [cond_true] at h ⊢
                      split at h
                      · rename_i hq
                        rw [xev_up hle hq]
                        exact xev_up hle h
                      · rename_i hq
                        rw [xev_up hle hq]
                        simp only
                        split at h
                        · rename_i hci
                          split at h
                          · rename_i hcat
                            exact xev_up hle h
                          · rename_i hcat
                            exact h
                          · cases h
                        · cases h
                      · cases h
                  · cases h
                · cases h
          · cases h
/-- the run from here ends as Q says -/
def xEv (d y pc : Nat) (lv : xLv) (st : List Value) (w : xW) (Q : Option Value ⊕ Nat → xW → Prop) : Prop := ∃ n o w', xev 7 n d y pc lv st w = some (o, w') ∧ Q o w'
section XE
variable {d y pc pc' : Nat} {lv lv' : xLv} {st st' : List Value} {w w' : xW} {Q : Option Value ⊕ Nat → xW → Prop} {M : xM} {i : Instr}
theorem xlb (i : Instr) : (Nat.beq (xlen i) (xlen i) || xist i) = true := by rw [Nat.beq_refl, Bool.true_or]
theorem xEv.op (hM : xms[y]? = some M) (hd : decode (xby M) pc = .ok (i, xlen i)) (hk : xkind i = 0) (h : xop i st = some st') (hp : pc + xlen i = pc') (k : xEv d y pc' lv st' w Q) : xEv d y pc lv st w Q := by
  obtain ⟨n, o, w1, hev, hQ⟩ := k
  refine ⟨n + 1, o, w1, ?_, hQ⟩
  subst hp
  simp only [xev, hM, hd, xlb, cond_true, hk, h]
  exact hev
theorem xEv.loc (hM : xms[y]? = some M) (hd : decode (xby M) pc = .ok (i, xlen i)) (hk : xkind i = 1) (h : xloc (xmx M) i lv st = some (lv', st')) (hp : pc + xlen i = pc') (k : xEv d y pc' lv' st' w Q) : xEv d y pc lv st w Q := by
  obtain ⟨n, o, w1, hev, hQ⟩ := k
  refine ⟨n + 1, o, w1, ?_, hQ⟩
  subst hp
  simp only [xev, hM, hd, xlb, cond_true, hk, h]
  exact hev
theorem xEv.br {len : Nat} (hM : xms[y]? = some M) (hd : decode (xby M) pc = .ok (i, len)) (hl : (Nat.beq len (xlen i) || xist i) = true) (hk : xkind i = 2) (h : xbr i pc st = some (pc', st')) (k : xEv d y pc' lv st' w Q) : xEv d y pc lv st w Q := by
  obtain ⟨n, o, w1, hev, hQ⟩ := k
  refine ⟨n + 1, o, w1, ?_, hQ⟩
  simp only [xev, hM, hd, hl, cond_true, hk, h]
  exact hev
theorem xEv.hp (hM : xms[y]? = some M) (hd : decode (xby M) pc = .ok (i, xlen i)) (hk : xkind i = 3) (h : xhp M 7 i st w = some (st', w')) (hp : pc + xlen i = pc') (k : xEv d y pc' lv st' w' Q) : xEv d y pc lv st w Q := by
  obtain ⟨n, o, w1, hev, hQ⟩ := k
  refine ⟨n + 1, o, w1, ?_, hQ⟩
  subst hp
  simp only [xev, hM, hd, xlb, cond_true, hk, h]
  exact hev
theorem xEv.ret {v : Option Value} (hM : xms[y]? = some M) (hd : decode (xby M) pc = .ok (i, xlen i)) (hk : xkind i = 5) (h : xret M i st = some v) (hQ : Q (.inl v) w) : xEv d y pc lv st w Q := by
  refine ⟨1, .inl v, w, ?_, hQ⟩
  simp only [xev, hM, hd, xlb, cond_true, hk, h]
theorem xEv.thr {ci : Nat} (hM : xms[y]? = some M) (hd : decode (xby M) pc = .ok (i, xlen i)) (hk : xkind i = 6) (h : xthr M i pc = some ci) (h6 : 6 ≤ d) (h16 : xcat st ≤ 16) (hQ : Q (.inr w.length) (w ++ [.inr (ci, [])])) : xEv d y pc lv st w Q := by
  refine ⟨1, .inr w.length, _, ?_, hQ⟩
  have hb : (Nat.ble 6 d && Nat.ble (xcat st) 16) = true := by rw [Nat.ble_eq_true_of_le h6, Nat.ble_eq_true_of_le h16]; rfl
  simp only [xev, hM, hd, xlb, cond_true, hk, h, hb]
theorem xEv.new (hM : xms[y]? = some M) (hd : decode (xby M) pc = .ok (i, xlen i)) (hk : xkind i = 6) (h0 : xthr M i pc = none) (h : xnew M i st w = some (st', w')) (hp : pc + 3 = pc') (k : xEv d y pc' lv st' w' Q) : xEv d y pc lv st w Q := by
  obtain ⟨n, o, w1, hev, hQ⟩ := k
  refine ⟨n + 1, o, w1, ?_, hQ⟩
  subst hp
  simp only [xev, hM, hd, xlb, cond_true, hk, h0, h]
  exact hev
theorem xEv.obj (hM : xms[y]? = some M) (hd : decode (xby M) pc = .ok (i, xlen i)) (hk : xkind i = 4) (hcp : xcpy M 7 i st w = none) (h : xobj M i st = some st') (h16 : xcat st' ≤ 16) (h1 : 1 ≤ d) (hp : pc + 3 = pc') (k : xEv d y pc' lv st' w Q) : xEv d y pc lv st w Q := by
  obtain ⟨n, o, w1, hev, hQ⟩ := k
  refine ⟨n + 1, o, w1, ?_, hQ⟩
  subst hp
  have hb : (Nat.ble (xcat st') 16 && Nat.ble 1 d) = true := by rw [Nat.ble_eq_true_of_le h16, Nat.ble_eq_true_of_le h1]; rfl
  simp only [xev, hM, hd, xlb, cond_true, hk, hcp, h, hb]
  exact hev
theorem xEv.copy (hM : xms[y]? = some M) (hd : decode (xby M) pc = .ok (i, xlen i)) (hk : xkind i = 4) (h : xcpy M 7 i st w = some (st', w')) (h16 : xcat st' ≤ 16) (h1 : 1 ≤ d) (hp : pc + 3 = pc') (k : xEv d y pc' lv st' w' Q) : xEv d y pc lv st w Q := by
  obtain ⟨n, o, w1, hev, hQ⟩ := k
  refine ⟨n + 1, o, w1, ?_, hQ⟩
  subst hp
  have hb : (Nat.ble (xcat st') 16 && Nat.ble 1 d) = true := by rw [Nat.ble_eq_true_of_le h16, Nat.ble_eq_true_of_le h1]; rfl
  simp only [xev, hM, hd, xlb, cond_true, hk, h, hb]
  exact hev
/-- a call: what the callee's run ends in, and how the caller goes on -/
theorem xEv.call {t : Nat} {as rest : List Value} {N : xM} {Q1 : Option Value ⊕ Nat → xW → Prop} (hM : xms[y]? = some M) (hd : decode (xby M) pc = .ok (i, xlen i)) (hk : xkind i = 4) (hcp : xcpy M 7 i st w = none) (h0 : xobj M i st = none) (h : xcall M i st w = some (t, as, rest)) (hN : xms[t]? = some N) (h16 : xcat rest ≤ 16) (hent : (lg_sl as).length ≤ xmx N)
    (kc : xEv d t 0 (lv_args 0 as) [] w Q1) (hp : pc + 3 = pc')
    (kr : ∀ v w1, Q1 (.inl v) w1 → xEv (d + 1) y pc' lv (v.toList ++ rest) w1 Q)
    (kt : ∀ hh w1, Q1 (.inr hh) w1 → ∃ ci, xclass w1 hh = some ci ∧ ((xcatch (xcno M) pc ci false (xhh M) = some none ∧ Q (.inr hh) w1) ∨ ∃ hpc, xcatch (xcno M) pc ci false (xhh M) = some (some hpc) ∧ xEv (d + 1) y hpc lv [.ref hh] w1 Q)) : xEv (d + 1) y pc lv st w Q := by
  obtain ⟨n1, o1, w1, hev1, hQ1⟩ := kc
  subst hp
  have hb : (Nat.ble (xcat rest) 16 && Nat.ble (lg_sl as).length (xmx N)) = true := by rw [Nat.ble_eq_true_of_le h16, Nat.ble_eq_true_of_le hent]; rfl
  cases o1 with
  | inl v =>
    obtain ⟨n2, o, w2, hev2, hQ⟩ := kr v w1 hQ1
    refine ⟨max n1 n2 + 1, o, w2, ?_, hQ⟩
    have e1 := xev_up (Nat.le_max_left n1 n2) hev1
    have e2 := xev_up (Nat.le_max_right n1 n2) hev2
    simp only [xev, hM, hd, xlb, cond_true, hk, hcp, h0, h, hN, hb, e1]
    exact e2
  | inr hh =>
    obtain ⟨ci, hci, hc⟩ := kt hh w1 hQ1
    rcases hc with ⟨hc, hQ⟩ | ⟨hpc, hc, n2, o, w2, hev2, hQ⟩
    · refine ⟨n1 + 1, .inr hh, w1, ?_, hQ⟩
      simp only [xev, hM, hd, xlb, cond_true, hk, hcp, h0, h, hN, hb, hev1, hci, hc]
    · refine ⟨max n1 n2 + 1, o, w2, ?_, hQ⟩
      have e1 := xev_up (Nat.le_max_left n1 n2) hev1
      have e2 := xev_up (Nat.le_max_right n1 n2) hev2
      simp only [xev, hM, hd, xlb, cond_true, hk, hcp, h0, h, hN, hb, e1, hci, hc]
      exact e2
theorem xEv.mono {Q2 : Option Value ⊕ Nat → xW → Prop} (k : xEv d y pc lv st w Q2) (h : ∀ o w, Q2 o w → Q o w) : xEv d y pc lv st w Q := by
  obtain ⟨n, o, w1, hev, hQ⟩ := k
  exact ⟨n, o, w1, hev, h _ _ hQ⟩
-- branches
theorem xEv.ifT {c : ClassFile.Cond} {off : Int} {x : Int32} {r : List Value} {t : Nat} (hM : xms[y]? = some M) (hd : decode (xby M) pc = .ok (.ifCond c off, 3)) (ht : xtgt pc off = some t) (hc : xcnd c x 0 = true) (k : xEv d y t lv r w Q) : xEv d y pc lv (.int x :: r) w Q :=
  xEv.br hM hd rfl rfl (by simp only [xbr, ht, Option.map_some, hc, cond_true]) k
theorem xEv.ifF {c : ClassFile.Cond} {off : Int} {x : Int32} {r : List Value} {t : Nat} (hM : xms[y]? = some M) (hd : decode (xby M) pc = .ok (.ifCond c off, 3)) (ht : xtgt pc off = some t) (hc : xcnd c x 0 = false) (hp : pc + 3 = pc') (k : xEv d y pc' lv r w Q) : xEv d y pc lv (.int x :: r) w Q :=
  xEv.br hM hd rfl rfl (by simp only [xbr, ht, Option.map_some, hc, cond_false, hp]) k
theorem xEv.if2 {c : ClassFile.Cond} {off : Int} {x : Int32} {r : List Value} {t : Nat} (hM : xms[y]? = some M) (hd : decode (xby M) pc = .ok (.ifCond c off, 3)) (ht : xtgt pc off = some t) (hp : pc + 3 = pc') (kt : xcnd c x 0 = true → xEv d y t lv r w Q) (kf : xcnd c x 0 = false → xEv d y pc' lv r w Q) : xEv d y pc lv (.int x :: r) w Q := by
  cases hc : xcnd c x 0 with
  | true => exact xEv.ifT hM hd ht hc (kt hc)
  | false => exact xEv.ifF hM hd ht hc hp (kf hc)
theorem xEv.icT {c : ClassFile.Cond} {off : Int} {x z : Int32} {r : List Value} {t : Nat} (hM : xms[y]? = some M) (hd : decode (xby M) pc = .ok (.if_icmp c off, 3)) (ht : xtgt pc off = some t) (hc : xcnd c x z = true) (k : xEv d y t lv r w Q) : xEv d y pc lv (.int z :: .int x :: r) w Q :=
  xEv.br hM hd rfl rfl (by simp only [xbr, ht, Option.map_some, hc, cond_true]) k
theorem xEv.icF {c : ClassFile.Cond} {off : Int} {x z : Int32} {r : List Value} {t : Nat} (hM : xms[y]? = some M) (hd : decode (xby M) pc = .ok (.if_icmp c off, 3)) (ht : xtgt pc off = some t) (hc : xcnd c x z = false) (hp : pc + 3 = pc') (k : xEv d y pc' lv r w Q) : xEv d y pc lv (.int z :: .int x :: r) w Q :=
  xEv.br hM hd rfl rfl (by simp only [xbr, ht, Option.map_some, hc, cond_false, hp]) k
theorem xEv.ic2 {c : ClassFile.Cond} {off : Int} {x z : Int32} {r : List Value} {t : Nat} (hM : xms[y]? = some M) (hd : decode (xby M) pc = .ok (.if_icmp c off, 3)) (ht : xtgt pc off = some t) (hp : pc + 3 = pc') (kt : xcnd c x z = true → xEv d y t lv r w Q) (kf : xcnd c x z = false → xEv d y pc' lv r w Q) : xEv d y pc lv (.int z :: .int x :: r) w Q := by
  cases hc : xcnd c x z with
  | true => exact xEv.icT hM hd ht hc (kt hc)
  | false => exact xEv.icF hM hd ht hc hp (kf hc)
theorem xEv.goto {off : Int} {t : Nat} (hM : xms[y]? = some M) (hd : decode (xby M) pc = .ok (.goto off, 3)) (ht : xtgt pc off = some t) (k : xEv d y t lv st w Q) : xEv d y pc lv st w Q :=
  xEv.br hM hd rfl rfl (by simp only [xbr, ht, Option.map_some]) k
-- heap
theorem xEv.getf {idx h ci a pos : Nat} {fs r : List Value} {v : Value} (hM : xms[y]? = some M) (hd : decode (xby M) pc = .ok (.getfield idx, 3)) (hl : xlook (xcno M) (idx * 4) = some (0, a, pos)) (hw : w[h]? = some (.inr (ci, fs))) (hci : ci = a / 64) (hv : fs[a % 64]? = some v) (hp : pc + 3 = pc') (k : xEv d y pc' lv (v :: r) w Q) : xEv d y pc lv (.ref h :: r) w Q := by
  subst hci
  refine xEv.hp hM hd rfl (st' := v :: r) (w' := w) ?_ hp k
  simp only [xhp, xgf, hl, hw, Nat.beq_refl, cond_true, hv]
theorem xEv.putf {idx h ci a pos : Nat} {fs r : List Value} {v : Value} {q : vw_C} {ty : FieldType} (hM : xms[y]? = some M) (hd : decode (xby M) pc = .ok (.putfield idx, 3)) (hl : xlook (xcno M) (idx * 4) = some (0, a, pos)) (hw : w[h]? = some (.inr (ci, fs))) (hci : ci = a / 64) (hq : xcl[ci]? = some q) (hty : (xft.getD ci [])[a % 64]? = some ty) (hok : xok ty v = true) (hlen : a % 64 < fs.length) (hfin : (!(q.2.1 (a % 64)).2.2.2 || (Nat.beq (xkd M) 2 && Nat.beq (xcno M) ci)) = true) (h1 : 7 ≤ h) (hp : pc + 3 = pc')
    (k : xEv d y pc' lv r (w.set h (.inr (ci, fs.set (a % 64) v))) Q) : xEv d y pc lv (v :: .ref h :: r) w Q := by
  subst hci
  refine xEv.hp hM hd rfl (st' := r) (w' := w.set h (.inr (a / 64, fs.set (a % 64) v))) ?_ hp k
  have hb : Nat.blt (a % 64) fs.length = true := Nat.ble_eq_true_of_le hlen
  have hX : Nat.ble 7 h = true := Nat.ble_eq_true_of_le h1
  simp only [xhp, xpf, hl, hw, hq, hty, Nat.beq_refl, hok, hb, hfin, Bool.and_self, Bool.true_and, cond_true, xset, hX, Option.map_some]
theorem xin_of {j : Int32} {n : Nat} (h1 : ¬ j < 0) (h2 : j.toNatClampNeg < n) : xin j n = true := by
  unfold xin
  rw [decide_eq_false h1, show Nat.blt j.toNatClampNeg n = true from Nat.ble_eq_true_of_le h2]
  rfl
theorem xal_eq {t : Nat} {j : Int32} {h n : Nat} {g : Nat → Value} {r : List Value} (hw : w[h]? = some (.inl (t, n, g))) (hin : xin j n = true) : xal t (.int j :: .ref h :: r) w = some (g j.toNatClampNeg :: r, w) := by
  simp only [xal, hw, Nat.beq_refl, hin, Bool.and_self, cond_true]
theorem xal_ne {t t' : Nat} {j : Int32} {h n : Nat} {g : Nat → Value} {r : List Value} (hw : w[h]? = some (.inl (t', n, g))) (hne : Nat.beq t t' = false) : xal t (.int j :: .ref h :: r) w = none := by
  simp only [xal, hw, hne, Bool.false_and, cond_false]
theorem xEv.iald {j : Int32} {h n : Nat} {g : Nat → Value} {r : List Value} {v : Value} (hM : xms[y]? = some M) (hd : decode (xby M) pc = .ok (.iaload, 1)) (hw : w[h]? = some (.inl (0, n, g))) (hin : xin j n = true) (hv : g j.toNatClampNeg = v) (hp : pc + 1 = pc') (k : xEv d y pc' lv (v :: r) w Q) : xEv d y pc lv (.int j :: .ref h :: r) w Q := by
  subst hv
  exact xEv.hp hM hd rfl (xal_eq hw hin) hp k
theorem xEv.lald {j : Int32} {h n : Nat} {g : Nat → Value} {r : List Value} {v : Value} (hM : xms[y]? = some M) (hd : decode (xby M) pc = .ok (.laload, 1)) (hw : w[h]? = some (.inl (3, n, g))) (hin : xin j n = true) (hv : g j.toNatClampNeg = v) (hp : pc + 1 = pc') (k : xEv d y pc' lv (v :: r) w Q) : xEv d y pc lv (.int j :: .ref h :: r) w Q := by
  subst hv
  exact xEv.hp hM hd rfl (xal_eq hw hin) hp k
theorem xEv.bald {j : Int32} {h n : Nat} {g : Nat → Value} {r : List Value} {v : Value} (hM : xms[y]? = some M) (hd : decode (xby M) pc = .ok (.baload, 1)) (hw : w[h]? = some (.inl (1, n, g))) (hin : xin j n = true) (hv : g j.toNatClampNeg = v) (hp : pc + 1 = pc') (k : xEv d y pc' lv (v :: r) w Q) : xEv d y pc lv (.int j :: .ref h :: r) w Q := by
  subst hv
  refine xEv.hp hM hd rfl (st' := g j.toNatClampNeg :: r) (w' := w) ?_ hp k
  simp only [xhp, xal_eq hw hin]
theorem xEv.zald {j : Int32} {h n : Nat} {g : Nat → Value} {r : List Value} {v : Value} (hM : xms[y]? = some M) (hd : decode (xby M) pc = .ok (.baload, 1)) (hw : w[h]? = some (.inl (2, n, g))) (hin : xin j n = true) (hv : g j.toNatClampNeg = v) (hp : pc + 1 = pc') (k : xEv d y pc' lv (v :: r) w Q) : xEv d y pc lv (.int j :: .ref h :: r) w Q := by
  subst hv
  refine xEv.hp hM hd rfl (st' := g j.toNatClampNeg :: r) (w' := w) ?_ hp k
  simp only [xhp, xal_ne (t := 1) hw rfl, xal_eq hw hin]
theorem xEv.aald {t : Nat} {j : Int32} {h n : Nat} {g : Nat → Value} {r : List Value} {v : Value} (hM : xms[y]? = some M) (hd : decode (xby M) pc = .ok (.aaload, 1)) (ht : t = 4 ∨ t = 5) (hw : w[h]? = some (.inl (t, n, g))) (hin : xin j n = true) (hv : g j.toNatClampNeg = v) (hp : pc + 1 = pc') (k : xEv d y pc' lv (v :: r) w Q) : xEv d y pc lv (.int j :: .ref h :: r) w Q := by
  subst hv
  refine xEv.hp hM hd rfl (st' := g j.toNatClampNeg :: r) (w' := w) ?_ hp k
  rcases ht with rfl | rfl
  · simp only [xhp, xal_eq hw hin]
  · simp only [xhp, xal_ne (t := 4) hw rfl, xal_eq hw hin]
theorem xas_eq {t : Nat} {v : Value} {j : Int32} {h n : Nat} {g : Nat → Value} {r : List Value} (hw : w[h]? = some (.inl (t, n, g))) (hin : xin j n = true) (h1 : 7 ≤ h) : xas 7 t v j h r w = some (r, w.set h (.inl (t, n, xup g j.toNatClampNeg v))) := by
  have hX : Nat.ble 7 h = true := Nat.ble_eq_true_of_le h1
  simp only [xas, hw, Nat.beq_refl, hin, Bool.and_self, cond_true, xset, hX, Option.map_some]
theorem xas_ne {t t' : Nat} {v : Value} {j : Int32} {h n : Nat} {g : Nat → Value} {r : List Value} (hw : w[h]? = some (.inl (t', n, g))) (hne : Nat.beq t t' = false) : xas 7 t v j h r w = none := by
  simp only [xas, hw, hne, Bool.false_and, cond_false]
theorem xEv.iast {j x : Int32} {h n : Nat} {g : Nat → Value} {r : List Value} (hM : xms[y]? = some M) (hd : decode (xby M) pc = .ok (.iastore, 1)) (hw : w[h]? = some (.inl (0, n, g))) (hin : xin j n = true) (h1 : 7 ≤ h) (hp : pc + 1 = pc') (k : xEv d y pc' lv r (w.set h (.inl (0, n, xup g j.toNatClampNeg (.int x)))) Q) : xEv d y pc lv (.int x :: .int j :: .ref h :: r) w Q :=
  xEv.hp hM hd rfl (xas_eq hw hin h1) hp k
theorem xEv.last {j : Int32} {x : Int64} {h n : Nat} {g : Nat → Value} {r : List Value} (hM : xms[y]? = some M) (hd : decode (xby M) pc = .ok (.lastore, 1)) (hw : w[h]? = some (.inl (3, n, g))) (hin : xin j n = true) (h1 : 7 ≤ h) (hp : pc + 1 = pc') (k : xEv d y pc' lv r (w.set h (.inl (3, n, xup g j.toNatClampNeg (.long x)))) Q) : xEv d y pc lv (.long x :: .int j :: .ref h :: r) w Q :=
  xEv.hp hM hd rfl (xas_eq hw hin h1) hp k
theorem xEv.bast {j x : Int32} {h n : Nat} {g : Nat → Value} {r : List Value} (hM : xms[y]? = some M) (hd : decode (xby M) pc = .ok (.bastore, 1)) (hw : w[h]? = some (.inl (1, n, g))) (hin : xin j n = true) (h1 : 7 ≤ h) (hp : pc + 1 = pc') (k : xEv d y pc' lv r (w.set h (.inl (1, n, xup g j.toNatClampNeg (narrow .byte (.int x))))) Q) : xEv d y pc lv (.int x :: .int j :: .ref h :: r) w Q := by
  refine xEv.hp hM hd rfl (st' := r) ?_ hp k
  simp only [xhp, xas_eq hw hin h1]
theorem xEv.zast {j x : Int32} {h n : Nat} {g : Nat → Value} {r : List Value} (hM : xms[y]? = some M) (hd : decode (xby M) pc = .ok (.bastore, 1)) (hw : w[h]? = some (.inl (2, n, g))) (hin : xin j n = true) (h1 : 7 ≤ h) (hp : pc + 1 = pc') (k : xEv d y pc' lv r (w.set h (.inl (2, n, xup g j.toNatClampNeg (narrow .boolean (.int x))))) Q) : xEv d y pc lv (.int x :: .int j :: .ref h :: r) w Q := by
  refine xEv.hp hM hd rfl (st' := r) ?_ hp k
  simp only [xhp, xas_ne (t := 1) hw rfl, xas_eq hw hin h1]
end XE
