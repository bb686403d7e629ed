/-! THE PURE MACHINE IS SOUND -/
theorem xlen_of {i : Instr} {len : Nat} (h : (Nat.beq len (xlen i) || xist i) = true) (hk : xkind i ≠ 2) : len = xlen i := by
  rw [Bool.or_eq_true] at h
  rcases h with h | h
  · exact Nat.eq_of_beq_eq_true h
  · unfold xist at h
    split at h
    · exact absurd rfl hk
    · cases h
theorem xlen_or {i : Instr} {len : Nat} (h : (Nat.beq len (xlen i) || xist i) = true) : len = xlen i ∨ ∃ a b d f, i = .tableswitch a b d f := by
  rw [Bool.or_eq_true] at h
  rcases h with h | h
  · exact Or.inl (Nat.eq_of_beq_eq_true h)
  · unfold xist at h
    split at h
    · exact Or.inr ⟨_, _, _, _, rfl⟩
    · cases h
theorem xthr_ci {M : xM} {i : Instr} {pc ci : Nat} (h : xthr M i pc = some ci) : 14 ≤ ci ∧ ci < 18 := by
  unfold xthr at h
  split at h
  · split at h
    · rename_i ci' pos hlook
      split at h
      · split at h
        · rename_i cj pos2 hlook2
          cases hcc : (Nat.beq ci' cj && (xhh M).all (fun h => !(Nat.ble h.1 (pc + 7) && Nat.blt (pc + 7) h.2.1))) with
          | false => rw [hcc] at h; cases h
          | true =>
            rw [hcc] at h
            cases h
            obtain ⟨wd, hwd, hmem⟩ := xlook_ok hlook
            simp only [xword] at hwd
            cases h14 : (Nat.blt ci 14 || Nat.ble 18 ci) with
            | true => rw [h14] at hwd; cases hwd
            | false =>
              rw [h14] at hwd
              simp only [cond_false, Option.map_eq_some_iff] at hwd
              obtain ⟨q, hq, rfl⟩ := hwd
              exact xrng h14
        · cases h
      · cases h
    · cases h
  · cases h
theorem xcs_exc {ci : Nat} (h1 : 14 ≤ ci) (h2 : ci < 18) : xcs (.inr (ci, [])) = 6 := by
  have hb : Nat.blt ci 14 = false := by
    cases h : Nat.blt ci 14 with
    | true => have := xblt h; omega
    | false => rfl
  unfold xcs
  simp only
  have : xcl.length = 19 := rfl
  rw [List.getElem?_eq_getElem (by omega)]
  simp only [hb, cond_false]
theorem xclass_ok {w : xW} {h ci : Nat} (hc : xclass w h = some ci) : 14 ≤ ci ∧ ci < 18 ∧ ∃ fs, w[h]? = some (.inr (ci, fs)) := by
  unfold xclass at hc
  split at hc
  · rename_i ci' fs hw
    cases h14 : (Nat.blt ci' 14 || Nat.ble 18 ci') with
    | true => rw [h14] at hc; cases hc
    | false =>
      rw [h14] at hc
      cases hc
      obtain ⟨r1, r2⟩ := xrng h14
      exact ⟨r1, r2, fs, hw⟩
  · cases hc
set_option maxHeartbeats 8000000 in
theorem xev_sound {l : Launch} {s0 : State} {D : va_G} {ad : xA} {X : Nat} (G : xG s0 D ad X) (E : xE s0 D) (htr : l.stackTraces = false) : ∀ n, xSim l s0 D ad X n
  | 0 => by
    intro d y pc lv st w o w' M hM hev
    cases hev
  | n + 1 => by
    have IH := xev_sound G E htr n
    intro d y pc lv st w o w' M hM hev p e R s m args below meth c H locs cells slots ls mc ms F hP hl B hfr hlo hmc hms hcR hsR
    have hini : xkd M = 2 → (xn M).name = "<init>" := by
      intro hk
      rcases xms_ok hM with rfl | hok
      · cases hk
      · exact (hok.2.2.2.2.1 hk).2.1
    simp only [xev, hM] at hev
    split at hev
    · cases hev
    · rename_i i len hd
      cases hlq : (Nat.beq len (xlen i) || xist i) with
      | false => rw [hlq] at hev; cases hev
      | true =>
        rw [hlq] at hev
        simp only [cond_true] at hev
        split at hev
        · rename_i hk
          have hlen := xlen_of hlq (by omega)
          subst hlen
          split at hev
          · rename_i st' hop
            exact xop_sound ad F.1 F.2.1 hop hd (IH d y _ lv st' w o w' M hM hev p e R s m args below meth c H locs cells slots ls mc ms F hP hl B hfr hlo hmc hms hcR hsR)
          · cases hev
        · rename_i hk
          have hlen := xlen_of hlq (by omega)
          subst hlen
          split at hev
          · rename_i lv' st' hop
            exact xloc_sound ad F.1 F.2.1 hl hop hd fun ls' hl' => IH d y _ lv' st' w o w' M hM hev p e R s m args below meth c H locs cells slots ls' mc ms F hP hl' B hfr hlo hmc hms hcR hsR
          · cases hev
        · rename_i hk
          split at hev
          · rename_i pc' st' hop
            exact xbr_sound ad F.1 F.2.1 hop hd (xlen_or hlq) (IH d y _ lv st' w o w' M hM hev p e R s m args below meth c H locs cells slots ls mc ms F hP hl B hfr hlo hmc hms hcR hsR)
          · cases hev
        · rename_i hk
          have hlen := xlen_of hlq (by omega)
          subst hlen
          split at hev
          · rename_i st' w1 hop
            have h1 := xhp_le hop
            have h2 := xev_le hev
            unfold xle at h1 h2
            refine xhp_sound G F hini B hop hd (cells' := cells + w1.length - w.length) (slots' := slots + xsz w1 - xsz w) (by omega) (by omega) ⟨by omega, by omega⟩ fun H' locs' hB => ?_
            exact IH d y _ lv st' w1 o w' M hM hev p e R s m args below meth c H' locs' _ _ ls mc ms F hP hl hB hfr hlo (by omega) (by omega) hcR hsR
          · cases hev
        · rename_i hk
          have hlen := xlen_of hlq (by omega)
          split at hev
          · rename_i v hop
            cases hev
            obtain rfl : mc = cells := by omega
            obtain rfl : ms = slots := by omega
            exact xret_sound F B hop hd hlen
          · cases hev
        · rename_i hk
          have hlen := xlen_of hlq (by omega)
          split at hev
          · rename_i ci hop
            cases hc6 : (Nat.ble 6 d && Nat.ble (xcat st) 16) with
            | false => rw [hc6] at hev; cases hev
            | true =>
              rw [hc6] at hev
              cases hev
              rw [Bool.and_eq_true] at hc6
              obtain ⟨hg1, hg2⟩ := xthr_ci hop
              rw [List.length_append, List.length_singleton] at hmc
              rw [xsz_push, xcs_exc hg1 hg2] at hms
              obtain rfl : mc = cells + 1 := by omega
              obtain rfl : ms = slots + 6 := by omega
              exact (xthr_sound G E htr F hl.1 B hop hd hlen (Nat.le_of_ble_eq_true hc6.1) hfr hlo (Nat.le_of_ble_eq_true hc6.2) hcR hsR).2.2
          · split at hev
            · rename_i st' w1 hop
              have h1 := xnew_le hop
              have h2 := xev_le hev
              unfold xle at h1 h2
              refine xnew_sound G F B hop hd hlen (cells' := cells + w1.length - w.length) (slots' := slots + xsz w1 - xsz w) (by omega) (by omega) ⟨by omega, by omega⟩ fun H' locs' hB => ?_
              exact IH d y _ lv st' w1 o w' M hM hev p e R s m args below meth c H' locs' _ _ ls mc ms F hP hl hB hfr hlo (by omega) (by omega) hcR hsR
            · cases hev
        · rename_i hk
          have hlen := xlen_of hlq (by omega)
          split at hev
          · rename_i st' w1 hop
            cases hc6 : (Nat.ble (xcat st') 16 && Nat.ble 1 d) with
            | false => rw [hc6] at hev; cases hev
            | true =>
              rw [hc6] at hev
              rw [Bool.and_eq_true] at hc6
              have h1d := Nat.le_of_ble_eq_true hc6.2
              exact xcpy_sound G F hl.1 B hop hd hlen (by omega) (by omega) (Nat.le_of_ble_eq_true hc6.1) fun H' locs' hB q1 q2 => IH d y _ lv st' w1 o w' M hM hev p e R s m args below meth c H' locs' cells slots ls mc ms F hP hl hB hfr hlo (by omega) (by omega) hcR hsR
          · split at hev
            · rename_i st' hop
              cases hc6 : (Nat.ble (xcat st') 16 && Nat.ble 1 d) with
              | false => rw [hc6] at hev; cases hev
              | true =>
                rw [hc6] at hev
                rw [Bool.and_eq_true] at hc6
                have h1d := Nat.le_of_ble_eq_true hc6.2
                exact xobj_sound (w := w) G F hl.1 hop hd hlen (by omega) (by omega) (Nat.le_of_ble_eq_true hc6.1) (IH d y _ lv st' w o w' M hM hev p e R s m args below meth c H locs cells slots ls mc ms F hP hl B hfr hlo hmc hms hcR hsR)
            · split at hev
              · rename_i t as rest d' hcl
                split at hev
                · rename_i N hN
                  cases hc6 : (Nat.ble (xcat rest) 16 && Nat.ble (lg_sl as).length (xmx N)) with
                  | false => rw [hc6] at hev; cases hev
                  | true =>
                    rw [hc6] at hev
                    simp only [cond_true] at hev
                    rw [Bool.and_eq_true] at hc6
                    have h16 := Nat.le_of_ble_eq_true hc6.1
                    have hent := Nat.le_of_ble_eq_true hc6.2
                    intro T hT Y
                    have hB : xB s0 D ad X w T.heap locs := by rw [hT]; exact B
                    cases hev1 : xev X n d' t 0 (lv_args 0 as) [] w with
                    | none => rw [hev1] at hev; cases hev
                    | some r1 =>
                      obtain ⟨o1, w1⟩ := r1
                      rw [hev1] at hev
                      have hle1 := xev_le hev1
                      unfold xle at hle1
                      cases o1 with
                      | inl v =>
                        simp only at hev
                        have hle2 := xev_le hev
                        unfold xle at hle2
                        obtain ⟨T', L, Y', B', hret, -⟩ := xcallee IH G F hl.1 Y hB hcl hN hd hlen h16 hent hev1 hfr hlo (k1 := w1.length - w.length) (n1 := xsz w1 - xsz w) (by omega) (by omega) (by omega) (by omega)
                        have K := IH (d' + 1) y (pc + 3) lv (v.toList ++ rest) w1 o w' M hM hev p e R s m args below meth c T'.heap (locs ++ L) (cells + (w1.length - w.length)) (slots + (xsz w1 - xsz w)) ls mc ms F hP hl B' hfr hlo (by omega) (by omega) hcR hsR
                        obtain ⟨t2, hs2, hQ⟩ := K T' rfl Y'
                        exact ⟨t2, hret v rfl t2 hs2, hQ⟩
                      | inr hh =>
                        simp only at hev
                        split at hev
                        · rename_i ci hci
                          obtain ⟨hge, hli, fs, hwh⟩ := xclass_ok hci
                          have hle2 : w1.length ≤ w'.length ∧ xsz w1 ≤ xsz w' := by
                            split at hev
                            · exact xev_le hev
                            · cases hev; exact ⟨Nat.le_refl _, Nat.le_refl _⟩
                            · cases hev
                          obtain ⟨T', L, Y', B', -, hthr⟩ := xcallee IH G F hl.1 Y hB hcl hN hd hlen h16 hent hev1 hfr hlo (k1 := w1.length - w.length) (n1 := xsz w1 - xsz w) (by omega) (by omega) (by omega) (by omega)
                          split at hev
                          · rename_i hp hcat
                            obtain ⟨q, hq, ce, hce, hcls, hvm, -⟩ := B'.1 hh _ hwh
                            have hpl : e.platform.magicAccessors = ({} : Platform).magicAccessors := by rw [Y.admits.platform]
                            obtain ⟨hx, hb, hml, hr, hlk, hown, hnm, hexc, hW, hsz, hcn⟩ := id F
                            rw [← hexc] at hcat
                            obtain ⟨vm2, hw2, hwp⟩ := xcatch_wp (e := e) (m := m) (ls := ls) (st := rest.map (xv ad)) (S := (T'.setTop (F0 m pc ls (rest.map (xv ad)))).pushFrame (.throwing (ad.1 hh))) G E hown hcn hW hpl hce hq hge hli hcls (hvm.no (by omega)) c.exceptionTable.toList false T'.vm Y'.warmed hcat
                            have K := IH (d' + 1) y hp lv [.ref hh] w1 o w' M hM hev p e R s m args below meth c T'.heap (locs ++ L) (cells + (w1.length - w.length)) (slots + (xsz w1 - xsz w)) ls mc ms F hP hl B' hfr hlo (by omega) (by omega) hcR hsR
                            obtain ⟨t2, hs2, hQ⟩ := K (T'.setVm vm2) rfl (Y'.noted hw2)
                            refine ⟨t2, hthr hh rfl t2 (xcaught Y' rfl (vm2 := vm2) (hp := hp) (fun Q E' dd acts => ?_) hs2), hQ⟩
                            refine (W.findHandler_eq (meth := meth) (code := c) (show T'.vm.method? m = some meth from Y'.method') Y'.code).trans ?_
                            exact hwp Q E' dd acts
                          · rename_i hcat
                            cases hev
                            obtain rfl : mc = cells + (w'.length - w.length) := by omega
                            obtain rfl : ms = slots + (xsz w' - xsz w) := by omega
                            obtain ⟨hx, hb, hml, hr, hlk, hown, hnm, hexc, hW, hsz, hcn⟩ := id F
                            rw [← hexc] at hcat
                            obtain ⟨g1, g2, g3, g4, g5⟩ := Y'.leaveThrown (ad.1 hh) (g := F0 m pc ls (rest.map (xv ad))) rfl rfl rfl (xcatch_none hcat).2 hlk
                            exact ⟨_, hthr hh rfl _ g1, .threw (ad.1 hh), locs ++ L, g2, g3, rfl, g4, g5, B'⟩
                          · cases hev
                        · cases hev
                · cases hev
              · cases hev
        · cases hev
