/-! Arrays.fill -/
theorem range_run {d c t : Nat} {w : xW} (hc : c < 2147483648) (ht : t ≤ c) : xRun d 280 [.int (Int32.ofNat c), .int 0, .int (Int32.ofNat t)] w (.inl none) w := by
  have ec := xof_i hc
  have et := xof_i (k := t) (by omega)
  have z0 : (0 : Int32).toInt = 0 := rfl
  refine xRun.of ?_
  refine i_280_0 (x := 0) rfl ?_
  refine i_280_1 (x := Int32.ofNat t) rfl ?_
  refine i_280_2 (fun c0 => ?_) (fun c0 => absurd c0 (by omega))
  refine i_280_46 (x := 0) rfl ?_
  refine i_280_47 (fun c1 => ?_) (fun c1 => absurd c1 (by decide))
  refine i_280_59 (x := Int32.ofNat t) rfl ?_
  refine i_280_60 (x := Int32.ofNat c) rfl ?_
  refine i_280_61 (fun c2 => ?_) (fun c2 => absurd c2 (by omega))
  exact i_280_73 ⟨rfl, rfl⟩
theorem fill_loop {d a c t : Nat} {v : Int32} {w : xW} {g : Nat → Value} {Q : Option Value ⊕ Nat → xW → Prop} (hc : c < 2147483648) (a7 : 7 ≤ a) (ha : w[a]? = some (.inl (0, c, g))) (ht : t ≤ c)
    (hQ : ∀ g' : Nat → Value, (∀ j, j < t → g' j = .int v) → (∀ j, t ≤ j → g' j = g j) → Q (.inl none) (w.set a (.inl (0, c, g')))) (m : Nat) :
    ∀ (k : Nat) (lv : xLv) (G : Nat → Value), k + m = t → xld lv 0 = some (.ref a) → xld lv 2 = some (.int (Int32.ofNat t)) → xld lv 3 = some (.int v) → xld lv 4 = some (.int (Int32.ofNat k)) → (∀ j, j < k → G j = .int v) → (∀ j, k ≤ j → G j = g j) → xEv d 279 10 lv [] (w.set a (.inl (0, c, G))) Q := by
  induction m with
  | zero =>
    intro k lv G hk l0 l2 l3 l4 h1 h2
    have e : k = t := by omega
    subst e
    refine i_279_10 (x := Int32.ofNat k) l4 ?_
    refine i_279_12 (x := Int32.ofNat k) l2 ?_
    exact i_279_13 (fun _ => i_279_27 (hQ G h1 h2)) (fun e => absurd e (by omega))
  | succ m ih =>
    intro k lv G hk l0 l2 l3 l4 h1 h2
    have ek := xof_i (k := k) (by omega)
    have et := xof_i (k := t) (by omega)
    refine i_279_10 (x := Int32.ofNat k) l4 ?_
    refine i_279_12 (x := Int32.ofNat t) l2 ?_
    refine i_279_13 (fun c0 => absurd c0 (by omega)) (fun c0 => ?_)
    refine i_279_16 (x := a) l0 ?_
    refine i_279_17 (x := Int32.ofNat k) l4 ?_
    refine i_279_19 (x := v) l3 ?_
    refine i_279_20 (v := Value.int v) (xgs ha) (by omega) (by omega) a7 rfl ?_
    rw [xset_set, show (Int32.ofNat k).toInt.toNat = k by omega]
    refine i_279_21 (x := Int32.ofNat k) (c := Int32.ofNat (k + 1)) l4 xof_succ rfl ?_
    refine i_279_24 ?_
    refine ih (k + 1) _ _ (by omega) (xld_n1 rfl rfl l0) (xld_n1 rfl rfl l2) (xld_n1 rfl rfl l3) xld_s1 (fun j hj => ?_) (fun j hj => (xup_ne (by omega)).trans (h2 j (by omega)))
    by_cases e : j = k
    · subst e; exact xup_eq
    · rw [xup_ne e]; exact h1 j (by omega)
/-- fill from the beginning on -/
theorem fill_ev {d a c t : Nat} {v : Int32} {w : xW} {g : Nat → Value} {Q : Option Value ⊕ Nat → xW → Prop} (hc : c < 2147483648) (a7 : 7 ≤ a) (ha : w[a]? = some (.inl (0, c, g))) (ht : t ≤ c)
    (hQ : ∀ g' : Nat → Value, (∀ j, j < t → g' j = .int v) → (∀ j, t ≤ j → g' j = g j) → Q (.inl none) (w.set a (.inl (0, c, g')))) : xEv (d + 1) 279 0 (lv_args 0 [.ref a, .int 0, .int (Int32.ofNat t), .int v]) [] w Q := by
  refine i_279_0 (x := a) rfl ?_
  refine i_279_1 ha rfl ?_
  refine i_279_2 (x := 0) rfl ?_
  refine i_279_3 (x := Int32.ofNat t) rfl ?_
  refine i_279_4 (Nat.le_of_ble_eq_true rfl) (range_run hc ht) ?_
  refine i_279_7 (x := 0) rfl ?_
  refine i_279_8 rfl ?_
  refine xEv.world (xset_self ha).symm ?_
  exact fill_loop hc a7 ha ht hQ t 0 _ g (by omega) rfl rfl rfl rfl (fun j hj => absurd hj (by omega)) (fun _ _ => rfl)
