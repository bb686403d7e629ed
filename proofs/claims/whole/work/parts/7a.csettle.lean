/-! settle of the class, after becomeMultiple -/
theorem st_q0 {d : Nat} {w0 w : xW} {L Z : Nat} {S : Nat → Nat → Int} {V : Nat → Nat} {g h t : Nat} {ch x mode : Int} {lv : xLv} {Q : Option Value ⊕ Nat → xW → Prop} (hR : cX w0 L Z S V w) (hg : kd g = 1) (hk : kd h = 4) (ht : kd t = 2) (n1 : t ≠ h) (n2 : t ≠ g) (n3 : g ≠ h) (hs : S h 0 = 0 ∨ S h 0 = 1) (hgr : S g 2 = 0 ∨ S g 2 = 1) (hl : -1000000 ≤ S g 0 ∧ S g 0 ≤ 1000000) (hl2 : -1000000 ≤ S g 1 ∧ S g 1 ≤ 1000000) (hx : -2000000 ≤ x ∧ x ≤ 2000000) (hc : -1 ≤ ch ∧ ch ≤ 1) (k1 : S t 1 = 2) (l0 : xld lv 0 = some (Value.ref g)) (l1 : xld lv 1 = some (Value.ref t)) (l2 : xld lv 2 = some (Value.ref h)) (l3 : xld lv 3 = some (Value.int (Int32.ofInt mode))) (l4 : xld lv 4 = some (Value.int (Int32.ofInt x))) (l7 : xld lv 7 = some (Value.int (Int32.ofInt ch))) (hQ : ∀ w' z, cX w0 L Z (u2 S g 3 (rFl 0 (S g 2) x (S g 0) ch (S g 3))) V w' → z = (if S h 0 = 0 then ch else -ch) → Q (.inl (some (.int (Int32.ofInt z)))) w') : xEv (d + 0) 27 61 lv [] w Q := by
  refine i_27_61 (x := t) l1 ?_
  refine i_27_62 (v := Value.int (Int32.ofInt (S t 1))) (hR.k2 ht) rfl ?_
  refine i_27_65 ?_
  refine i_27_66 (b_ne (a := S t 1) (b := 3) ⟨by omega, by omega⟩ ⟨by decide, by decide⟩ fun c0 => ?_) (b_eq (a := S t 1) (b := 3) ⟨by omega, by omega⟩ ⟨by decide, by decide⟩ fun c0 => absurd c0 (by omega))
  refine i_27_95 (x := t) l1 ?_
  refine i_27_96 (v := Value.int (Int32.ofInt (S t 1))) (hR.k2 ht) rfl ?_
  refine i_27_99 ?_
  refine i_27_100 (b_ne (a := S t 1) (b := 3) ⟨by omega, by omega⟩ ⟨by decide, by decide⟩ fun c1 => ?_) (b_eq (a := S t 1) (b := 3) ⟨by omega, by omega⟩ ⟨by decide, by decide⟩ fun c1 => absurd c1 (by omega))
  exact st_133 hR hg hk n3 hs hgr hl hx hc l0 l2 l7 l4 hQ
theorem st_n1 {d : Nat} {w0 w : xW} {L Z : Nat} {S : Nat → Nat → Int} {V : Nat → Nat} {g h t : Nat} {ch x mode : Int} {lv : xLv} {Q : Option Value ⊕ Nat → xW → Prop} (hR : cX w0 L Z S V w) (hg : kd g = 1) (hk : kd h = 4) (ht : kd t = 2) (n1 : t ≠ h) (n2 : t ≠ g) (n3 : g ≠ h) (hs : S h 0 = 0 ∨ S h 0 = 1) (hgr : S g 2 = 0 ∨ S g 2 = 1) (hl : -1000000 ≤ S g 0 ∧ S g 0 ≤ 1000000) (hl2 : -1000000 ≤ S g 1 ∧ S g 1 ≤ 1000000) (hx : -2000000 ≤ x ∧ x ≤ 2000000) (hc : -1 ≤ ch ∧ ch ≤ 1) (ht3 : -2000000 ≤ S t 3 ∧ S t 3 ≤ 2000000) (k1 : S t 1 = 3) (k2 : S t 3 ≤ S g 1) (k3 : S g 2 ≠ 0) (l0 : xld lv 0 = some (Value.ref g)) (l1 : xld lv 1 = some (Value.ref t)) (l2 : xld lv 2 = some (Value.ref h)) (l3 : xld lv 3 = some (Value.int (Int32.ofInt mode))) (l4 : xld lv 4 = some (Value.int (Int32.ofInt x))) (l7 : xld lv 7 = some (Value.int (Int32.ofInt ch))) (hQ : ∀ w' z, cX w0 L Z (u2 S g 3 (rFl 0 (S g 2) x (S g 0) ch (S g 3))) V w' → z = (if S h 0 = 0 then ch else -ch) → Q (.inl (some (.int (Int32.ofInt z)))) w') : xEv (d + 0) 27 61 lv [] w Q := by
  refine i_27_61 (x := t) l1 ?_
  refine i_27_62 (v := Value.int (Int32.ofInt (S t 1))) (hR.k2 ht) rfl ?_
  refine i_27_65 ?_
  refine i_27_66 (b_ne (a := S t 1) (b := 3) ⟨by omega, by omega⟩ ⟨by decide, by decide⟩ fun c0 => absurd c0 (by omega)) (b_eq (a := S t 1) (b := 3) ⟨by omega, by omega⟩ ⟨by decide, by decide⟩ fun c0 => ?_)
  refine i_27_69 (x := t) l1 ?_
  refine i_27_70 (v := Value.int (Int32.ofInt (S t 3))) (hR.k2 ht) rfl ?_
  refine i_27_73 (x := g) l0 ?_
  refine i_27_74 (v := Value.int (Int32.ofInt (S g 1))) (hR.k1 hg) rfl ?_
  refine i_27_77 (b_le (a := S t 3) (b := S g 1) ⟨by omega, by omega⟩ ⟨by omega, by omega⟩ fun c1 => ?_) (b_lt (a := S g 1) (b := S t 3) ⟨by omega, by omega⟩ ⟨by omega, by omega⟩ fun c1 => absurd c1 (by omega))
  refine i_27_95 (x := t) l1 ?_
  refine i_27_96 (v := Value.int (Int32.ofInt (S t 1))) (hR.k2 ht) rfl ?_
  refine i_27_99 ?_
  refine i_27_100 (b_ne (a := S t 1) (b := 3) ⟨by omega, by omega⟩ ⟨by decide, by decide⟩ fun c2 => absurd c2 (by omega)) (b_eq (a := S t 1) (b := 3) ⟨by omega, by omega⟩ ⟨by decide, by decide⟩ fun c2 => ?_)
  refine i_27_103 (x := g) l0 ?_
  refine i_27_104 (v := Value.int (Int32.ofInt (S g 2))) (hR.k1 hg) rfl ?_
  refine i_27_107 (z_ne (a := S g 2) ⟨by omega, by omega⟩ fun c3 => ?_) (z_eq (a := S g 2) ⟨by omega, by omega⟩ fun c3 => absurd c3 (by omega))
  exact st_133 hR hg hk n3 hs hgr hl hx hc l0 l2 l7 l4 hQ
theorem st_n2 {d : Nat} {w0 w : xW} {L Z : Nat} {S : Nat → Nat → Int} {V : Nat → Nat} {g h t : Nat} {ch x mode : Int} {lv : xLv} {Q : Option Value ⊕ Nat → xW → Prop} (hR : cX w0 L Z S V w) (hg : kd g = 1) (hk : kd h = 4) (ht : kd t = 2) (n1 : t ≠ h) (n2 : t ≠ g) (n3 : g ≠ h) (hs : S h 0 = 0 ∨ S h 0 = 1) (hgr : S g 2 = 0 ∨ S g 2 = 1) (hl : -1000000 ≤ S g 0 ∧ S g 0 ≤ 1000000) (hl2 : -1000000 ≤ S g 1 ∧ S g 1 ≤ 1000000) (hx : -2000000 ≤ x ∧ x ≤ 2000000) (hc : -1 ≤ ch ∧ ch ≤ 1) (ht3 : -2000000 ≤ S t 3 ∧ S t 3 ≤ 2000000) (k1 : S t 1 = 3) (k2 : S t 3 ≤ S g 1) (k3 : S g 2 = 0) (k4 : S g 0 ≤ S t 3) (l0 : xld lv 0 = some (Value.ref g)) (l1 : xld lv 1 = some (Value.ref t)) (l2 : xld lv 2 = some (Value.ref h)) (l3 : xld lv 3 = some (Value.int (Int32.ofInt mode))) (l4 : xld lv 4 = some (Value.int (Int32.ofInt x))) (l7 : xld lv 7 = some (Value.int (Int32.ofInt ch))) (hQ : ∀ w' z, cX w0 L Z (u2 S g 3 (rFl 0 (S g 2) x (S g 0) ch (S g 3))) V w' → z = (if S h 0 = 0 then ch else -ch) → Q (.inl (some (.int (Int32.ofInt z)))) w') : xEv (d + 0) 27 61 lv [] w Q := by
  refine i_27_61 (x := t) l1 ?_
  refine i_27_62 (v := Value.int (Int32.ofInt (S t 1))) (hR.k2 ht) rfl ?_
  refine i_27_65 ?_
  refine i_27_66 (b_ne (a := S t 1) (b := 3) ⟨by omega, by omega⟩ ⟨by decide, by decide⟩ fun c0 => absurd c0 (by omega)) (b_eq (a := S t 1) (b := 3) ⟨by omega, by omega⟩ ⟨by decide, by decide⟩ fun c0 => ?_)
  refine i_27_69 (x := t) l1 ?_
  refine i_27_70 (v := Value.int (Int32.ofInt (S t 3))) (hR.k2 ht) rfl ?_
  refine i_27_73 (x := g) l0 ?_
  refine i_27_74 (v := Value.int (Int32.ofInt (S g 1))) (hR.k1 hg) rfl ?_
  refine i_27_77 (b_le (a := S t 3) (b := S g 1) ⟨by omega, by omega⟩ ⟨by omega, by omega⟩ fun c1 => ?_) (b_lt (a := S g 1) (b := S t 3) ⟨by omega, by omega⟩ ⟨by omega, by omega⟩ fun c1 => absurd c1 (by omega))
  refine i_27_95 (x := t) l1 ?_
  refine i_27_96 (v := Value.int (Int32.ofInt (S t 1))) (hR.k2 ht) rfl ?_
  refine i_27_99 ?_
  refine i_27_100 (b_ne (a := S t 1) (b := 3) ⟨by omega, by omega⟩ ⟨by decide, by decide⟩ fun c2 => absurd c2 (by omega)) (b_eq (a := S t 1) (b := 3) ⟨by omega, by omega⟩ ⟨by decide, by decide⟩ fun c2 => ?_)
  refine i_27_103 (x := g) l0 ?_
  refine i_27_104 (v := Value.int (Int32.ofInt (S g 2))) (hR.k1 hg) rfl ?_
  refine i_27_107 (z_ne (a := S g 2) ⟨by omega, by omega⟩ fun c3 => absurd c3 (by omega)) (z_eq (a := S g 2) ⟨by omega, by omega⟩ fun c3 => ?_)
  refine i_27_110 (x := t) l1 ?_
  refine i_27_111 (v := Value.int (Int32.ofInt (S t 3))) (hR.k2 ht) rfl ?_
  refine i_27_114 (x := g) l0 ?_
  refine i_27_115 (v := Value.int (Int32.ofInt (S g 0))) (hR.k1 hg) rfl ?_
  refine i_27_118 (b_le (a := S g 0) (b := S t 3) ⟨by omega, by omega⟩ ⟨by omega, by omega⟩ fun c4 => ?_) (b_lt (a := S t 3) (b := S g 0) ⟨by omega, by omega⟩ ⟨by omega, by omega⟩ fun c4 => absurd c4 (by omega))
  exact st_133 hR hg hk n3 hs hgr hl hx hc l0 l2 l7 l4 hQ
theorem st_o1 {d : Nat} {w0 w : xW} {L Z : Nat} {S : Nat → Nat → Int} {V : Nat → Nat} {g h t : Nat} {ch x mode : Int} {lv : xLv} {Q : Option Value ⊕ Nat → xW → Prop} (hR : cX w0 L Z S V w) (hg : kd g = 1) (hk : kd h = 4) (ht : kd t = 2) (n1 : t ≠ h) (n2 : t ≠ g) (n3 : g ≠ h) (hs : S h 0 = 0 ∨ S h 0 = 1) (hgr : S g 2 = 0 ∨ S g 2 = 1) (hl : -1000000 ≤ S g 0 ∧ S g 0 ≤ 1000000) (hl2 : -1000000 ≤ S g 1 ∧ S g 1 ≤ 1000000) (hx : -2000000 ≤ x ∧ x ≤ 2000000) (hc : -1 ≤ ch ∧ ch ≤ 1) (ht3 : -2000000 ≤ S t 3 ∧ S t 3 ≤ 2000000) (hp : 1 ≤ S t 0 ∧ S t 0 ≤ 4096) (hmo : 0 ≤ mode ∧ mode ≤ 4) (k1 : S t 1 = 3) (k2 : S g 1 < S t 3) (hf : far mode (S h 0) = true) (l0 : xld lv 0 = some (Value.ref g)) (l1 : xld lv 1 = some (Value.ref t)) (l2 : xld lv 2 = some (Value.ref h)) (l3 : xld lv 3 = some (Value.int (Int32.ofInt mode))) (l4 : xld lv 4 = some (Value.int (Int32.ofInt x))) (l7 : xld lv 7 = some (Value.int (Int32.ofInt ch))) (hQ : ∀ w' z, cX w0 L Z (u2 (u2 (u2 (u2 S g 3 (zor (S g 3) 2)) t 1 1) t 2 (S h 0)) g 3 (zor (zor (S g 3) 2) 1)) V w' → z = (if S h 0 = 0 then 1 else -1) → Q (.inl (some (.int (Int32.ofInt z)))) w') : xEv (d + 8) 27 61 lv [] w Q := by
  refine i_27_61 (x := t) l1 ?_
  refine i_27_62 (v := Value.int (Int32.ofInt (S t 1))) (hR.k2 ht) rfl ?_
  refine i_27_65 ?_
  refine i_27_66 (b_ne (a := S t 1) (b := 3) ⟨by omega, by omega⟩ ⟨by decide, by decide⟩ fun c0 => absurd c0 (by omega)) (b_eq (a := S t 1) (b := 3) ⟨by omega, by omega⟩ ⟨by decide, by decide⟩ fun c0 => ?_)
  refine i_27_69 (x := t) l1 ?_
  refine i_27_70 (v := Value.int (Int32.ofInt (S t 3))) (hR.k2 ht) rfl ?_
  refine i_27_73 (x := g) l0 ?_
  refine i_27_74 (v := Value.int (Int32.ofInt (S g 1))) (hR.k1 hg) rfl ?_
  refine i_27_77 (b_le (a := S t 3) (b := S g 1) ⟨by omega, by omega⟩ ⟨by omega, by omega⟩ fun c1 => absurd c1 (by omega)) (b_lt (a := S g 1) (b := S t 3) ⟨by omega, by omega⟩ ⟨by omega, by omega⟩ fun c1 => ?_)
  refine i_27_80 (x := g) l0 ?_
  refine i_27_81 (x := t) l1 ?_
  refine i_27_82 (x := h) l2 ?_
  refine i_27_83 (v := Value.int (Int32.ofInt (S h 0))) (hR.k4 hk) rfl ?_
  refine i_27_86 (x := Int32.ofInt mode) l3 ?_
  have hobj := hR.k1 hg
  obtain ⟨w, hrun, hR⟩ := x_over1 (d := d + 1) (g := g) (t := t) (sg := S h 0) (mode := mode) hR hg ht hp hs hmo hf
  refine i_27_87 hobj (Nat.le_of_ble_eq_true rfl) hrun ?_
  refine i_27_90 rfl ?_
  refine lgen1 (i := 7) (v := Value.int (Int32.ofInt 1)) (fun lv lg ls => ?_)
  replace l0 := lg 0 _ rfl rfl l0
  replace l1 := lg 1 _ rfl rfl l1
  replace l2 := lg 2 _ rfl rfl l2
  replace l3 := lg 3 _ rfl rfl l3
  replace l4 := lg 4 _ rfl rfl l4
  have l7 := ls
  refine i_27_92 ?_
  have eh : (u2 (u2 (u2 S g 3 (zor (S g 3) 2)) t 1 1) t 2 (S h 0)) h 0 = S h 0 := by rw [u2_eq, if_neg (fun e => absurd e.2 (by decide)), u2_eq, if_neg (fun e => absurd e.2 (by decide)), u2_eq, if_neg (fun e => absurd e.2 (by decide))]
  have ef : (u2 (u2 (u2 S g 3 (zor (S g 3) 2)) t 1 1) t 2 (S h 0)) g 3 = zor (S g 3) 2 := by rw [u2_eq, if_neg (fun e => absurd e.2 (by decide)), u2_eq, if_neg (fun e => absurd e.2 (by decide)), u2_eq, if_pos ⟨rfl, rfl⟩]
  refine st_164 (ch := 1) hR hg hk n3 (by rw [eh]; exact hs) (by decide) l0 l2 l7 (fun w' z hX hz => hQ w' z ?_ (by rw [hz, eh]))
  rw [if_neg (by decide), ef] at hX
  exact hX
theorem st_o0 {d : Nat} {w0 w : xW} {L Z : Nat} {S : Nat → Nat → Int} {V : Nat → Nat} {g h t : Nat} {ch x mode : Int} {lv : xLv} {Q : Option Value ⊕ Nat → xW → Prop} (hR : cX w0 L Z S V w) (hg : kd g = 1) (hk : kd h = 4) (ht : kd t = 2) (n1 : t ≠ h) (n2 : t ≠ g) (n3 : g ≠ h) (hs : S h 0 = 0 ∨ S h 0 = 1) (hgr : S g 2 = 0 ∨ S g 2 = 1) (hl : -1000000 ≤ S g 0 ∧ S g 0 ≤ 1000000) (hl2 : -1000000 ≤ S g 1 ∧ S g 1 ≤ 1000000) (hx : -2000000 ≤ x ∧ x ≤ 2000000) (hc : -1 ≤ ch ∧ ch ≤ 1) (ht3 : -2000000 ≤ S t 3 ∧ S t 3 ≤ 2000000) (hp : 1 ≤ S t 0 ∧ S t 0 ≤ 4096) (hmo : 0 ≤ mode ∧ mode ≤ 4) (k1 : S t 1 = 3) (k2 : S g 1 < S t 3) (hf : far mode (S h 0) = false) (l0 : xld lv 0 = some (Value.ref g)) (l1 : xld lv 1 = some (Value.ref t)) (l2 : xld lv 2 = some (Value.ref h)) (l3 : xld lv 3 = some (Value.int (Int32.ofInt mode))) (l4 : xld lv 4 = some (Value.int (Int32.ofInt x))) (l7 : xld lv 7 = some (Value.int (Int32.ofInt ch))) (hQ : ∀ w' z, cX w0 L Z (u2 (u2 (u2 (u2 (u2 S g 3 (zor (S g 3) 2)) t 1 3) t 2 (S h 0)) t 3 (S g 1)) g 3 (zor (zor (S g 3) 2) 1)) (uv V (t + 1) (2 ^ (S t 0).toNat - 1)) w' → z = (if S h 0 = 0 then (-1) else -(-1)) → Q (.inl (some (.int (Int32.ofInt z)))) w') : xEv (d + 8) 27 61 lv [] w Q := by
  refine i_27_61 (x := t) l1 ?_
  refine i_27_62 (v := Value.int (Int32.ofInt (S t 1))) (hR.k2 ht) rfl ?_
  refine i_27_65 ?_
  refine i_27_66 (b_ne (a := S t 1) (b := 3) ⟨by omega, by omega⟩ ⟨by decide, by decide⟩ fun c0 => absurd c0 (by omega)) (b_eq (a := S t 1) (b := 3) ⟨by omega, by omega⟩ ⟨by decide, by decide⟩ fun c0 => ?_)
  refine i_27_69 (x := t) l1 ?_
  refine i_27_70 (v := Value.int (Int32.ofInt (S t 3))) (hR.k2 ht) rfl ?_
  refine i_27_73 (x := g) l0 ?_
  refine i_27_74 (v := Value.int (Int32.ofInt (S g 1))) (hR.k1 hg) rfl ?_
  refine i_27_77 (b_le (a := S t 3) (b := S g 1) ⟨by omega, by omega⟩ ⟨by omega, by omega⟩ fun c1 => absurd c1 (by omega)) (b_lt (a := S g 1) (b := S t 3) ⟨by omega, by omega⟩ ⟨by omega, by omega⟩ fun c1 => ?_)
  refine i_27_80 (x := g) l0 ?_
  refine i_27_81 (x := t) l1 ?_
  refine i_27_82 (x := h) l2 ?_
  refine i_27_83 (v := Value.int (Int32.ofInt (S h 0))) (hR.k4 hk) rfl ?_
  refine i_27_86 (x := Int32.ofInt mode) l3 ?_
  have hobj := hR.k1 hg
  obtain ⟨w, hrun, hR⟩ := x_over0 (d := d + 1) (g := g) (t := t) (sg := S h 0) (mode := mode) hR hg ht hp hs hmo hf
  refine i_27_87 hobj (Nat.le_of_ble_eq_true rfl) hrun ?_
  refine i_27_90 rfl ?_
  refine lgen1 (i := 7) (v := Value.int (Int32.ofInt (-1))) (fun lv lg ls => ?_)
  replace l0 := lg 0 _ rfl rfl l0
  replace l1 := lg 1 _ rfl rfl l1
  replace l2 := lg 2 _ rfl rfl l2
  replace l3 := lg 3 _ rfl rfl l3
  replace l4 := lg 4 _ rfl rfl l4
  have l7 := ls
  refine i_27_92 ?_
  have eh : (u2 (u2 (u2 (u2 S g 3 (zor (S g 3) 2)) t 1 3) t 2 (S h 0)) t 3 (S g 1)) h 0 = S h 0 := by rw [u2_eq, if_neg (fun e => absurd e.2 (by decide)), u2_eq, if_neg (fun e => absurd e.2 (by decide)), u2_eq, if_neg (fun e => absurd e.2 (by decide)), u2_eq, if_neg (fun e => absurd e.2 (by decide))]
  have ef : (u2 (u2 (u2 (u2 S g 3 (zor (S g 3) 2)) t 1 3) t 2 (S h 0)) t 3 (S g 1)) g 3 = zor (S g 3) 2 := by rw [u2_eq, if_neg (fun e => n2.symm e.1), u2_eq, if_neg (fun e => absurd e.2 (by decide)), u2_eq, if_neg (fun e => absurd e.2 (by decide)), u2_eq, if_pos ⟨rfl, rfl⟩]
  refine st_164 (ch := (-1)) hR hg hk n3 (by rw [eh]; exact hs) (by decide) l0 l2 l7 (fun w' z hX hz => hQ w' z ?_ (by rw [hz, eh]))
  rw [if_neg (by decide), ef] at hX
  exact hX
theorem st_u1 {d : Nat} {w0 w : xW} {L Z : Nat} {S : Nat → Nat → Int} {V : Nat → Nat} {g h t : Nat} {ch x mode : Int} {lv : xLv} {Q : Option Value ⊕ Nat → xW → Prop} (hR : cX w0 L Z S V w) (hg : kd g = 1) (hk : kd h = 4) (ht : kd t = 2) (n1 : t ≠ h) (n2 : t ≠ g) (n3 : g ≠ h) (hs : S h 0 = 0 ∨ S h 0 = 1) (hgr : S g 2 = 0 ∨ S g 2 = 1) (hl : -1000000 ≤ S g 0 ∧ S g 0 ≤ 1000000) (hl2 : -1000000 ≤ S g 1 ∧ S g 1 ≤ 1000000) (hx : -2000000 ≤ x ∧ x ≤ 2000000) (hc : -1 ≤ ch ∧ ch ≤ 1) (ht3 : -2000000 ≤ S t 3 ∧ S t 3 ≤ 2000000) (hp : 1 ≤ S t 0 ∧ S t 0 ≤ 4096) (hmo : 0 ≤ mode ∧ mode ≤ 4) (hm : S h 3 = 0 ∨ S h 3 = 1) (hm0 : V (h + 1) ≠ 0) (hmb : xbl (V (h + 1)) ≤ 600000) (hsc : -1000000 ≤ S h 2 ∧ S h 2 ≤ 1000000) (hxl : (xbl (V (h + 1)) : Int) + S h 2 ≤ S g 0 - 1) (k1 : S t 1 = 3) (k2 : S t 3 ≤ S g 1) (k3 : S g 2 = 0) (k4 : S t 3 < S g 0) (hf : upU (V (h + 1)) ((xbl (V (h + 1)) : Int) + S h 2) (S g 0) (S h 3) (S h 0) mode = true) (l0 : xld lv 0 = some (Value.ref g)) (l1 : xld lv 1 = some (Value.ref t)) (l2 : xld lv 2 = some (Value.ref h)) (l3 : xld lv 3 = some (Value.int (Int32.ofInt mode))) (l4 : xld lv 4 = some (Value.int (Int32.ofInt x))) (l7 : xld lv 7 = some (Value.int (Int32.ofInt ch))) (hQ : ∀ w' z, cX w0 L Z (u2 (u2 (u2 (u2 (u2 S g 3 (zor (S g 3) 4)) t 1 3) t 2 (S h 0)) t 3 (S g 0)) g 3 (zor (zor (S g 3) 4) 1)) (uv V (t + 1) (2 ^ (S t 0 - 1).toNat)) w' → z = (if S h 0 = 0 then 1 else -1) → Q (.inl (some (.int (Int32.ofInt z)))) w') : xEv (d + 8) 27 61 lv [] w Q := by
  refine i_27_61 (x := t) l1 ?_
  refine i_27_62 (v := Value.int (Int32.ofInt (S t 1))) (hR.k2 ht) rfl ?_
  refine i_27_65 ?_
  refine i_27_66 (b_ne (a := S t 1) (b := 3) ⟨by omega, by omega⟩ ⟨by decide, by decide⟩ fun c0 => absurd c0 (by omega)) (b_eq (a := S t 1) (b := 3) ⟨by omega, by omega⟩ ⟨by decide, by decide⟩ fun c0 => ?_)
  refine i_27_69 (x := t) l1 ?_
  refine i_27_70 (v := Value.int (Int32.ofInt (S t 3))) (hR.k2 ht) rfl ?_
  refine i_27_73 (x := g) l0 ?_
  refine i_27_74 (v := Value.int (Int32.ofInt (S g 1))) (hR.k1 hg) rfl ?_
  refine i_27_77 (b_le (a := S t 3) (b := S g 1) ⟨by omega, by omega⟩ ⟨by omega, by omega⟩ fun c1 => ?_) (b_lt (a := S g 1) (b := S t 3) ⟨by omega, by omega⟩ ⟨by omega, by omega⟩ fun c1 => absurd c1 (by omega))
  refine i_27_95 (x := t) l1 ?_
  refine i_27_96 (v := Value.int (Int32.ofInt (S t 1))) (hR.k2 ht) rfl ?_
  refine i_27_99 ?_
  refine i_27_100 (b_ne (a := S t 1) (b := 3) ⟨by omega, by omega⟩ ⟨by decide, by decide⟩ fun c2 => absurd c2 (by omega)) (b_eq (a := S t 1) (b := 3) ⟨by omega, by omega⟩ ⟨by decide, by decide⟩ fun c2 => ?_)
  refine i_27_103 (x := g) l0 ?_
  refine i_27_104 (v := Value.int (Int32.ofInt (S g 2))) (hR.k1 hg) rfl ?_
  refine i_27_107 (z_ne (a := S g 2) ⟨by omega, by omega⟩ fun c3 => absurd c3 (by omega)) (z_eq (a := S g 2) ⟨by omega, by omega⟩ fun c3 => ?_)
  refine i_27_110 (x := t) l1 ?_
  refine i_27_111 (v := Value.int (Int32.ofInt (S t 3))) (hR.k2 ht) rfl ?_
  refine i_27_114 (x := g) l0 ?_
  refine i_27_115 (v := Value.int (Int32.ofInt (S g 0))) (hR.k1 hg) rfl ?_
  refine i_27_118 (b_le (a := S g 0) (b := S t 3) ⟨by omega, by omega⟩ ⟨by omega, by omega⟩ fun c4 => absurd c4 (by omega)) (b_lt (a := S t 3) (b := S g 0) ⟨by omega, by omega⟩ ⟨by omega, by omega⟩ fun c4 => ?_)
  refine i_27_121 (x := g) l0 ?_
  refine i_27_122 (x := t) l1 ?_
  refine i_27_123 (x := h) l2 ?_
  refine i_27_124 (x := Int32.ofInt mode) l3 ?_
  have hobj := hR.k1 hg
  obtain ⟨w, hrun, hR⟩ := x_und1 (d := d + 1) (g := g) (t := t) (h := h) (mode := mode) hR hg ht hk hp hs hm hmo hm0 hmb hsc hl hxl hf
  refine i_27_125 hobj (Nat.le_of_ble_eq_true rfl) hrun ?_
  refine i_27_128 rfl ?_
  refine lgen1 (i := 7) (v := Value.int (Int32.ofInt 1)) (fun lv lg ls => ?_)
  replace l0 := lg 0 _ rfl rfl l0
  replace l1 := lg 1 _ rfl rfl l1
  replace l2 := lg 2 _ rfl rfl l2
  replace l3 := lg 3 _ rfl rfl l3
  replace l4 := lg 4 _ rfl rfl l4
  have l7 := ls
  refine i_27_130 ?_
  have eh : (u2 (u2 (u2 (u2 S g 3 (zor (S g 3) 4)) t 1 3) t 2 (S h 0)) t 3 (S g 0)) h 0 = S h 0 := by rw [u2_eq, if_neg (fun e => absurd e.2 (by decide)), u2_eq, if_neg (fun e => absurd e.2 (by decide)), u2_eq, if_neg (fun e => absurd e.2 (by decide)), u2_eq, if_neg (fun e => absurd e.2 (by decide))]
  have ef : (u2 (u2 (u2 (u2 S g 3 (zor (S g 3) 4)) t 1 3) t 2 (S h 0)) t 3 (S g 0)) g 3 = zor (S g 3) 4 := by rw [u2_eq, if_neg (fun e => n2.symm e.1), u2_eq, if_neg (fun e => absurd e.2 (by decide)), u2_eq, if_neg (fun e => absurd e.2 (by decide)), u2_eq, if_pos ⟨rfl, rfl⟩]
  refine st_164 (ch := 1) hR hg hk n3 (by rw [eh]; exact hs) (by decide) l0 l2 l7 (fun w' z hX hz => hQ w' z ?_ (by rw [hz, eh]))
  rw [if_neg (by decide), ef] at hX
  exact hX
theorem st_u0 {d : Nat} {w0 w : xW} {L Z : Nat} {S : Nat → Nat → Int} {V : Nat → Nat} {g h t : Nat} {ch x mode : Int} {lv : xLv} {Q : Option Value ⊕ Nat → xW → Prop} (hR : cX w0 L Z S V w) (hg : kd g = 1) (hk : kd h = 4) (ht : kd t = 2) (n1 : t ≠ h) (n2 : t ≠ g) (n3 : g ≠ h) (hs : S h 0 = 0 ∨ S h 0 = 1) (hgr : S g 2 = 0 ∨ S g 2 = 1) (hl : -1000000 ≤ S g 0 ∧ S g 0 ≤ 1000000) (hl2 : -1000000 ≤ S g 1 ∧ S g 1 ≤ 1000000) (hx : -2000000 ≤ x ∧ x ≤ 2000000) (hc : -1 ≤ ch ∧ ch ≤ 1) (ht3 : -2000000 ≤ S t 3 ∧ S t 3 ≤ 2000000) (hp : 1 ≤ S t 0 ∧ S t 0 ≤ 4096) (hmo : 0 ≤ mode ∧ mode ≤ 4) (hm : S h 3 = 0 ∨ S h 3 = 1) (hm0 : V (h + 1) ≠ 0) (hmb : xbl (V (h + 1)) ≤ 600000) (hsc : -1000000 ≤ S h 2 ∧ S h 2 ≤ 1000000) (hxl : (xbl (V (h + 1)) : Int) + S h 2 ≤ S g 0 - 1) (k1 : S t 1 = 3) (k2 : S t 3 ≤ S g 1) (k3 : S g 2 = 0) (k4 : S t 3 < S g 0) (hf : upU (V (h + 1)) ((xbl (V (h + 1)) : Int) + S h 2) (S g 0) (S h 3) (S h 0) mode = false) (l0 : xld lv 0 = some (Value.ref g)) (l1 : xld lv 1 = some (Value.ref t)) (l2 : xld lv 2 = some (Value.ref h)) (l3 : xld lv 3 = some (Value.int (Int32.ofInt mode))) (l4 : xld lv 4 = some (Value.int (Int32.ofInt x))) (l7 : xld lv 7 = some (Value.int (Int32.ofInt ch))) (hQ : ∀ w' z, cX w0 L Z (u2 (u2 (u2 (u2 S g 3 (zor (S g 3) 4)) t 1 2) t 2 (S h 0)) g 3 (zor (zor (S g 3) 4) 1)) V w' → z = (if S h 0 = 0 then (-1) else -(-1)) → Q (.inl (some (.int (Int32.ofInt z)))) w') : xEv (d + 8) 27 61 lv [] w Q := by
  refine i_27_61 (x := t) l1 ?_
  refine i_27_62 (v := Value.int (Int32.ofInt (S t 1))) (hR.k2 ht) rfl ?_
  refine i_27_65 ?_
  refine i_27_66 (b_ne (a := S t 1) (b := 3) ⟨by omega, by omega⟩ ⟨by decide, by decide⟩ fun c0 => absurd c0 (by omega)) (b_eq (a := S t 1) (b := 3) ⟨by omega, by omega⟩ ⟨by decide, by decide⟩ fun c0 => ?_)
  refine i_27_69 (x := t) l1 ?_
  refine i_27_70 (v := Value.int (Int32.ofInt (S t 3))) (hR.k2 ht) rfl ?_
  refine i_27_73 (x := g) l0 ?_
  refine i_27_74 (v := Value.int (Int32.ofInt (S g 1))) (hR.k1 hg) rfl ?_
  refine i_27_77 (b_le (a := S t 3) (b := S g 1) ⟨by omega, by omega⟩ ⟨by omega, by omega⟩ fun c1 => ?_) (b_lt (a := S g 1) (b := S t 3) ⟨by omega, by omega⟩ ⟨by omega, by omega⟩ fun c1 => absurd c1 (by omega))
  refine i_27_95 (x := t) l1 ?_
  refine i_27_96 (v := Value.int (Int32.ofInt (S t 1))) (hR.k2 ht) rfl ?_
  refine i_27_99 ?_
  refine i_27_100 (b_ne (a := S t 1) (b := 3) ⟨by omega, by omega⟩ ⟨by decide, by decide⟩ fun c2 => absurd c2 (by omega)) (b_eq (a := S t 1) (b := 3) ⟨by omega, by omega⟩ ⟨by decide, by decide⟩ fun c2 => ?_)
  refine i_27_103 (x := g) l0 ?_
  refine i_27_104 (v := Value.int (Int32.ofInt (S g 2))) (hR.k1 hg) rfl ?_
  refine i_27_107 (z_ne (a := S g 2) ⟨by omega, by omega⟩ fun c3 => absurd c3 (by omega)) (z_eq (a := S g 2) ⟨by omega, by omega⟩ fun c3 => ?_)
  refine i_27_110 (x := t) l1 ?_
  refine i_27_111 (v := Value.int (Int32.ofInt (S t 3))) (hR.k2 ht) rfl ?_
  refine i_27_114 (x := g) l0 ?_
  refine i_27_115 (v := Value.int (Int32.ofInt (S g 0))) (hR.k1 hg) rfl ?_
  refine i_27_118 (b_le (a := S g 0) (b := S t 3) ⟨by omega, by omega⟩ ⟨by omega, by omega⟩ fun c4 => absurd c4 (by omega)) (b_lt (a := S t 3) (b := S g 0) ⟨by omega, by omega⟩ ⟨by omega, by omega⟩ fun c4 => ?_)
  refine i_27_121 (x := g) l0 ?_
  refine i_27_122 (x := t) l1 ?_
  refine i_27_123 (x := h) l2 ?_
  refine i_27_124 (x := Int32.ofInt mode) l3 ?_
  have hobj := hR.k1 hg
  obtain ⟨w, hrun, hR⟩ := x_und0 (d := d + 1) (g := g) (t := t) (h := h) (mode := mode) hR hg ht hk hp hs hm hmo hm0 hmb hsc hl hxl hf
  refine i_27_125 hobj (Nat.le_of_ble_eq_true rfl) hrun ?_
  refine i_27_128 rfl ?_
  refine lgen1 (i := 7) (v := Value.int (Int32.ofInt (-1))) (fun lv lg ls => ?_)
  replace l0 := lg 0 _ rfl rfl l0
  replace l1 := lg 1 _ rfl rfl l1
  replace l2 := lg 2 _ rfl rfl l2
  replace l3 := lg 3 _ rfl rfl l3
  replace l4 := lg 4 _ rfl rfl l4
  have l7 := ls
  refine i_27_130 ?_
  have eh : (u2 (u2 (u2 S g 3 (zor (S g 3) 4)) t 1 2) t 2 (S h 0)) h 0 = S h 0 := by rw [u2_eq, if_neg (fun e => absurd e.2 (by decide)), u2_eq, if_neg (fun e => absurd e.2 (by decide)), u2_eq, if_neg (fun e => absurd e.2 (by decide))]
  have ef : (u2 (u2 (u2 S g 3 (zor (S g 3) 4)) t 1 2) t 2 (S h 0)) g 3 = zor (S g 3) 4 := by rw [u2_eq, if_neg (fun e => absurd e.2 (by decide)), u2_eq, if_neg (fun e => absurd e.2 (by decide)), u2_eq, if_pos ⟨rfl, rfl⟩]
  refine st_164 (ch := (-1)) hR hg hk n3 (by rw [eh]; exact hs) (by decide) l0 l2 l7 (fun w' z hX hz => hQ w' z ?_ (by rw [hz, eh]))
  rw [if_neg (by decide), ef] at hX
  exact hX
