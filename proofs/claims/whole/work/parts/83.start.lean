set_option maxRecDepth 8000 in
theorem W0_szL {L : Nat} {xs : Nat → Int32} : xsz (W0 L xs) = L + 76984 := by
  simp only [W0, xscr, xsz, List.cons_append, List.nil_append, List.map_cons, List.map_nil, List.sum_cons, List.sum_nil, xcs]
  refine congrArg (fun z => L + z) ?_
  rfl
/-! the fresh objects are in the relations -/
/-- the class's fields at the start -/
def Sf (h : Nat) : Nat → Int := bif Nat.beq (kd h) 3 || Nat.ble 12 (kd h) then (fun _ => 0) else bif Nat.beq h 9 then (fun j => [-1021, 1024, 1, 0].getD j 0) else bif Nat.beq h 10 then (fun j => [53, 0, 0, 0].getD j 0) else bif Nat.beq h 78 then (fun j => [-16384, 16384, 0, 0].getD j 0) else bif Nat.beq h 79 then (fun j => [80, 82].getD j 0) else bif Nat.beq h 101 then (fun j => [0, 0, 0, 0, 0, 104].getD j 0) else bif Nat.beq h 113 then (fun j => [0, 0, 0, 0, 0, 0, 0, 0, 0, 125].getD j 0) else bif Nat.beq (kd h) 2 then (fun j => [64, 0, 0, 0].getD j 0) else (fun _ => 0)
/-- the reference's -/
def Smf (a : Nat) : Nat → Int := bif Nat.beq a 128 then (fun j => bif Nat.beq j 17 then -16384 else bif Nat.beq j 18 then 16384 else 0) else bif Nat.beq a 153 then (fun j => bif Nat.blt j 17 then 64 else 0) else (fun _ => 0)
theorem Sf_0 {h : Nat} (hk : kd h = 3 ∨ 12 ≤ kd h) : Sf h = fun _ => 0 := by
  unfold Sf
  have e : (Nat.beq (kd h) 3 || Nat.ble 12 (kd h)) = true := by
    rcases hk with c | c
    · exact (congrArg (fun z => Nat.beq z 3 || Nat.ble 12 z) c).trans rfl
    · rw [Nat.ble_eq_true_of_le c, Bool.or_true]
  rw [e]
  all_goals rfl
theorem mr0 : mrow (fun _ => 0) = fun _ => Value.int 0 := rfl
theorem mrS {h : Nat} (hk : kd h = 3 ∨ 12 ≤ kd h) : mrow (Sf h) = fun _ => Value.int 0 := (congrArg mrow (Sf_0 hk)).trans mr0
theorem kd_nx : ∀ h, h < 128 → (!(Nat.beq (kd h) 3) || Nat.ble 12 (kd (h + 1))) = true := by decide +kernel
theorem kd_n {h : Nat} (hk : kd h = 3) : 12 ≤ kd (h + 1) := by
  have hh := kd3_lt hk
  have e := kd_nx h (by omega)
  rw [hk] at e
  exact Nat.le_of_ble_eq_true e
set_option maxRecDepth 4000 in
theorem fo_0 {L : Nat} {xs : Nat → Int32} {b : Nat} (hb : b < 8) (hk : kd (0 + b) < 12) : (W0 L xs)[(0 + b)]? = some (.inr (kd (0 + b), cF ((0 + b) + 1) (0 + b) (Sf (0 + b)))) := by
  match b, hb, hk with
  | 0, _, hk => exact absurd hk (by decide)
  | 1, _, hk => exact absurd hk (by decide)
  | 2, _, hk => exact absurd hk (by decide)
  | 3, _, hk => exact absurd hk (by decide)
  | 4, _, hk => exact absurd hk (by decide)
  | 5, _, hk => exact absurd hk (by decide)
  | 6, _, hk => exact absurd hk (by decide)
  | 7, _, hk => exact W0_7
  | b + 8, h, _ => exact absurd h (by omega)
set_option maxRecDepth 4000 in
theorem fo_1 {L : Nat} {xs : Nat → Int32} {b : Nat} (hb : b < 8) (hk : kd (8 + b) < 12) : (W0 L xs)[(8 + b)]? = some (.inr (kd (8 + b), cF ((8 + b) + 1) (8 + b) (Sf (8 + b)))) := by
  match b, hb, hk with
  | 0, _, hk => exact absurd hk (by decide)
  | 1, _, hk => exact W0_9
  | 2, _, hk => exact W0_10
  | 3, _, hk => exact W0_11
  | 4, _, hk => exact absurd hk (by decide)
  | 5, _, hk => exact W0_13
  | 6, _, hk => exact W0_14
  | 7, _, hk => exact absurd hk (by decide)
  | b + 8, h, _ => exact absurd h (by omega)
set_option maxRecDepth 4000 in
theorem fo_2 {L : Nat} {xs : Nat → Int32} {b : Nat} (hb : b < 8) (hk : kd (16 + b) < 12) : (W0 L xs)[(16 + b)]? = some (.inr (kd (16 + b), cF ((16 + b) + 1) (16 + b) (Sf (16 + b)))) := by
  match b, hb, hk with
  | 0, _, hk => exact W0_16
  | 1, _, hk => exact W0_17
  | 2, _, hk => exact absurd hk (by decide)
  | 3, _, hk => exact W0_19
  | 4, _, hk => exact W0_20
  | 5, _, hk => exact absurd hk (by decide)
  | 6, _, hk => exact W0_22
  | 7, _, hk => exact absurd hk (by decide)
  | b + 8, h, _ => exact absurd h (by omega)
set_option maxRecDepth 4000 in
theorem fo_3 {L : Nat} {xs : Nat → Int32} {b : Nat} (hb : b < 8) (hk : kd (24 + b) < 12) : (W0 L xs)[(24 + b)]? = some (.inr (kd (24 + b), cF ((24 + b) + 1) (24 + b) (Sf (24 + b)))) := by
  match b, hb, hk with
  | 0, _, hk => exact W0_24
  | 1, _, hk => exact absurd hk (by decide)
  | 2, _, hk => exact W0_26
  | 3, _, hk => exact W0_27
  | 4, _, hk => exact absurd hk (by decide)
  | 5, _, hk => exact absurd hk (by decide)
  | 6, _, hk => exact W0_30
  | 7, _, hk => exact W0_31
  | b + 8, h, _ => exact absurd h (by omega)
set_option maxRecDepth 4000 in
theorem fo_4 {L : Nat} {xs : Nat → Int32} {b : Nat} (hb : b < 8) (hk : kd (32 + b) < 12) : (W0 L xs)[(32 + b)]? = some (.inr (kd (32 + b), cF ((32 + b) + 1) (32 + b) (Sf (32 + b)))) := by
  match b, hb, hk with
  | 0, _, hk => exact absurd hk (by decide)
  | 1, _, hk => exact W0_33
  | 2, _, hk => exact W0_34
  | 3, _, hk => exact absurd hk (by decide)
  | 4, _, hk => exact W0_36
  | 5, _, hk => exact W0_37
  | 6, _, hk => exact absurd hk (by decide)
  | 7, _, hk => exact W0_39
  | b + 8, h, _ => exact absurd h (by omega)
set_option maxRecDepth 4000 in
theorem fo_5 {L : Nat} {xs : Nat → Int32} {b : Nat} (hb : b < 8) (hk : kd (40 + b) < 12) : (W0 L xs)[(40 + b)]? = some (.inr (kd (40 + b), cF ((40 + b) + 1) (40 + b) (Sf (40 + b)))) := by
  match b, hb, hk with
  | 0, _, hk => exact W0_40
  | 1, _, hk => exact absurd hk (by decide)
  | 2, _, hk => exact W0_42
  | 3, _, hk => exact W0_43
  | 4, _, hk => exact absurd hk (by decide)
  | 5, _, hk => exact W0_45
  | 6, _, hk => exact W0_46
  | 7, _, hk => exact absurd hk (by decide)
  | b + 8, h, _ => exact absurd h (by omega)
set_option maxRecDepth 4000 in
theorem fo_6 {L : Nat} {xs : Nat → Int32} {b : Nat} (hb : b < 8) (hk : kd (48 + b) < 12) : (W0 L xs)[(48 + b)]? = some (.inr (kd (48 + b), cF ((48 + b) + 1) (48 + b) (Sf (48 + b)))) := by
  match b, hb, hk with
  | 0, _, hk => exact W0_48
  | 1, _, hk => exact W0_49
  | 2, _, hk => exact absurd hk (by decide)
  | 3, _, hk => exact W0_51
  | 4, _, hk => exact W0_52
  | 5, _, hk => exact absurd hk (by decide)
  | 6, _, hk => exact W0_54
  | 7, _, hk => exact W0_55
  | b + 8, h, _ => exact absurd h (by omega)
set_option maxRecDepth 4000 in
theorem fo_7 {L : Nat} {xs : Nat → Int32} {b : Nat} (hb : b < 8) (hk : kd (56 + b) < 12) : (W0 L xs)[(56 + b)]? = some (.inr (kd (56 + b), cF ((56 + b) + 1) (56 + b) (Sf (56 + b)))) := by
  match b, hb, hk with
  | 0, _, hk => exact absurd hk (by decide)
  | 1, _, hk => exact W0_57
  | 2, _, hk => exact W0_58
  | 3, _, hk => exact absurd hk (by decide)
  | 4, _, hk => exact W0_60
  | 5, _, hk => exact W0_61
  | 6, _, hk => exact absurd hk (by decide)
  | 7, _, hk => exact W0_63
  | b + 8, h, _ => exact absurd h (by omega)
set_option maxRecDepth 4000 in
theorem fo_8 {L : Nat} {xs : Nat → Int32} {b : Nat} (hb : b < 8) (hk : kd (64 + b) < 12) : (W0 L xs)[(64 + b)]? = some (.inr (kd (64 + b), cF ((64 + b) + 1) (64 + b) (Sf (64 + b)))) := by
  match b, hb, hk with
  | 0, _, hk => exact W0_64
  | 1, _, hk => exact absurd hk (by decide)
  | 2, _, hk => exact W0_66
  | 3, _, hk => exact W0_67
  | 4, _, hk => exact absurd hk (by decide)
  | 5, _, hk => exact W0_69
  | 6, _, hk => exact W0_70
  | 7, _, hk => exact absurd hk (by decide)
  | b + 8, h, _ => exact absurd h (by omega)
set_option maxRecDepth 4000 in
theorem fo_9 {L : Nat} {xs : Nat → Int32} {b : Nat} (hb : b < 8) (hk : kd (72 + b) < 12) : (W0 L xs)[(72 + b)]? = some (.inr (kd (72 + b), cF ((72 + b) + 1) (72 + b) (Sf (72 + b)))) := by
  match b, hb, hk with
  | 0, _, hk => exact W0_72
  | 1, _, hk => exact W0_73
  | 2, _, hk => exact absurd hk (by decide)
  | 3, _, hk => exact W0_75
  | 4, _, hk => exact W0_76
  | 5, _, hk => exact absurd hk (by decide)
  | 6, _, hk => exact W0_78
  | 7, _, hk => exact W0_79
  | b + 8, h, _ => exact absurd h (by omega)
set_option maxRecDepth 4000 in
theorem fo_10 {L : Nat} {xs : Nat → Int32} {b : Nat} (hb : b < 8) (hk : kd (80 + b) < 12) : (W0 L xs)[(80 + b)]? = some (.inr (kd (80 + b), cF ((80 + b) + 1) (80 + b) (Sf (80 + b)))) := by
  match b, hb, hk with
  | 0, _, hk => exact W0_80
  | 1, _, hk => exact absurd hk (by decide)
  | 2, _, hk => exact W0_82
  | 3, _, hk => exact absurd hk (by decide)
  | 4, _, hk => exact W0_84
  | 5, _, hk => exact absurd hk (by decide)
  | 6, _, hk => exact W0_86
  | 7, _, hk => exact W0_87
  | b + 8, h, _ => exact absurd h (by omega)
set_option maxRecDepth 4000 in
theorem fo_11 {L : Nat} {xs : Nat → Int32} {b : Nat} (hb : b < 8) (hk : kd (88 + b) < 12) : (W0 L xs)[(88 + b)]? = some (.inr (kd (88 + b), cF ((88 + b) + 1) (88 + b) (Sf (88 + b)))) := by
  match b, hb, hk with
  | 0, _, hk => exact absurd hk (by decide)
  | 1, _, hk => exact W0_89
  | 2, _, hk => exact absurd hk (by decide)
  | 3, _, hk => exact W0_91
  | 4, _, hk => exact absurd hk (by decide)
  | 5, _, hk => exact W0_93
  | 6, _, hk => exact W0_94
  | 7, _, hk => exact W0_95
  | b + 8, h, _ => exact absurd h (by omega)
set_option maxRecDepth 4000 in
theorem fo_12 {L : Nat} {xs : Nat → Int32} {b : Nat} (hb : b < 8) (hk : kd (96 + b) < 12) : (W0 L xs)[(96 + b)]? = some (.inr (kd (96 + b), cF ((96 + b) + 1) (96 + b) (Sf (96 + b)))) := by
  match b, hb, hk with
  | 0, _, hk => exact absurd hk (by decide)
  | 1, _, hk => exact W0_97
  | 2, _, hk => exact absurd hk (by decide)
  | 3, _, hk => exact W0_99
  | 4, _, hk => exact absurd hk (by decide)
  | 5, _, hk => exact W0_101
  | 6, _, hk => exact W0_102
  | 7, _, hk => exact absurd hk (by decide)
  | b + 8, h, _ => exact absurd h (by omega)
set_option maxRecDepth 4000 in
theorem fo_13 {L : Nat} {xs : Nat → Int32} {b : Nat} (hb : b < 8) (hk : kd (104 + b) < 12) : (W0 L xs)[(104 + b)]? = some (.inr (kd (104 + b), cF ((104 + b) + 1) (104 + b) (Sf (104 + b)))) := by
  match b, hb, hk with
  | 0, _, hk => exact W0_104
  | 1, _, hk => exact absurd hk (by decide)
  | 2, _, hk => exact W0_106
  | 3, _, hk => exact absurd hk (by decide)
  | 4, _, hk => exact W0_108
  | 5, _, hk => exact W0_109
  | 6, _, hk => exact absurd hk (by decide)
  | 7, _, hk => exact W0_111
  | b + 8, h, _ => exact absurd h (by omega)
set_option maxRecDepth 4000 in
theorem fo_14 {L : Nat} {xs : Nat → Int32} {b : Nat} (hb : b < 8) (hk : kd (112 + b) < 12) : (W0 L xs)[(112 + b)]? = some (.inr (kd (112 + b), cF ((112 + b) + 1) (112 + b) (Sf (112 + b)))) := by
  match b, hb, hk with
  | 0, _, hk => exact absurd hk (by decide)
  | 1, _, hk => exact W0_113
  | 2, _, hk => exact absurd hk (by decide)
  | 3, _, hk => exact W0_115
  | 4, _, hk => exact absurd hk (by decide)
  | 5, _, hk => exact W0_117
  | 6, _, hk => exact absurd hk (by decide)
  | 7, _, hk => exact W0_119
  | b + 8, h, _ => exact absurd h (by omega)
set_option maxRecDepth 4000 in
theorem fo_15 {L : Nat} {xs : Nat → Int32} {b : Nat} (hb : b < 8) (hk : kd (120 + b) < 12) : (W0 L xs)[(120 + b)]? = some (.inr (kd (120 + b), cF ((120 + b) + 1) (120 + b) (Sf (120 + b)))) := by
  match b, hb, hk with
  | 0, _, hk => exact absurd hk (by decide)
  | 1, _, hk => exact W0_121
  | 2, _, hk => exact absurd hk (by decide)
  | 3, _, hk => exact W0_123
  | 4, _, hk => exact absurd hk (by decide)
  | 5, _, hk => exact W0_125
  | 6, _, hk => exact W0_126
  | 7, _, hk => exact absurd hk (by decide)
  | b + 8, h, _ => exact absurd h (by omega)
theorem fo {L : Nat} {xs : Nat → Int32} {h : Nat} (hk : kd h < 12) : (W0 L xs)[h]? = some (.inr (kd h, cF (h + 1) h (Sf h))) := by
  have h128 : h < 128 := by
    rcases Nat.lt_or_ge h 128 with c | c
    · exact c
    · rw [kd_ge c] at hk
      exact absurd hk (by decide)
  obtain ⟨a, b, rfl, hb, ha⟩ : ∃ a b, h = 8 * a + b ∧ b < 8 ∧ a < 16 := ⟨h / 8, h % 8, by omega, by omega, by omega⟩
  match a, ha, hk with
  | 0, _, hk => exact fo_0 hb hk
  | 1, _, hk => exact fo_1 hb hk
  | 2, _, hk => exact fo_2 hb hk
  | 3, _, hk => exact fo_3 hb hk
  | 4, _, hk => exact fo_4 hb hk
  | 5, _, hk => exact fo_5 hb hk
  | 6, _, hk => exact fo_6 hb hk
  | 7, _, hk => exact fo_7 hb hk
  | 8, _, hk => exact fo_8 hb hk
  | 9, _, hk => exact fo_9 hb hk
  | 10, _, hk => exact fo_10 hb hk
  | 11, _, hk => exact fo_11 hb hk
  | 12, _, hk => exact fo_12 hb hk
  | 13, _, hk => exact fo_13 hb hk
  | 14, _, hk => exact fo_14 hb hk
  | 15, _, hk => exact fo_15 hb hk
  | a + 16, h, _ => exact absurd h (by omega)
set_option maxRecDepth 4000 in
theorem fn_0 {L : Nat} {xs : Nat → Int32} {b : Nat} (hb : b < 8) (hk : kd (0 + b) = 3) : (W0 L xs)[(0 + b) + 1]? = some (.inl (0, 8, fun _ => Value.int 0)) := by
  match b, hb, hk with
  | 0, _, hk => exact absurd hk (by decide)
  | 1, _, hk => exact absurd hk (by decide)
  | 2, _, hk => exact absurd hk (by decide)
  | 3, _, hk => exact absurd hk (by decide)
  | 4, _, hk => exact absurd hk (by decide)
  | 5, _, hk => exact absurd hk (by decide)
  | 6, _, hk => exact absurd hk (by decide)
  | 7, _, hk => exact absurd hk (by decide)
  | b + 8, h, _ => exact absurd h (by omega)
set_option maxRecDepth 4000 in
theorem fn_1 {L : Nat} {xs : Nat → Int32} {b : Nat} (hb : b < 8) (hk : kd (8 + b) = 3) : (W0 L xs)[(8 + b) + 1]? = some (.inl (0, 8, fun _ => Value.int 0)) := by
  match b, hb, hk with
  | 0, _, hk => exact absurd hk (by decide)
  | 1, _, hk => exact absurd hk (by decide)
  | 2, _, hk => exact absurd hk (by decide)
  | 3, _, hk => exact W0_12
  | 4, _, hk => exact absurd hk (by decide)
  | 5, _, hk => exact absurd hk (by decide)
  | 6, _, hk => exact W0_15
  | 7, _, hk => exact absurd hk (by decide)
  | b + 8, h, _ => exact absurd h (by omega)
set_option maxRecDepth 4000 in
theorem fn_2 {L : Nat} {xs : Nat → Int32} {b : Nat} (hb : b < 8) (hk : kd (16 + b) = 3) : (W0 L xs)[(16 + b) + 1]? = some (.inl (0, 8, fun _ => Value.int 0)) := by
  match b, hb, hk with
  | 0, _, hk => exact absurd hk (by decide)
  | 1, _, hk => exact W0_18
  | 2, _, hk => exact absurd hk (by decide)
  | 3, _, hk => exact absurd hk (by decide)
  | 4, _, hk => exact W0_21
  | 5, _, hk => exact absurd hk (by decide)
  | 6, _, hk => exact W0_23
  | 7, _, hk => exact absurd hk (by decide)
  | b + 8, h, _ => exact absurd h (by omega)
set_option maxRecDepth 4000 in
theorem fn_3 {L : Nat} {xs : Nat → Int32} {b : Nat} (hb : b < 8) (hk : kd (24 + b) = 3) : (W0 L xs)[(24 + b) + 1]? = some (.inl (0, 8, fun _ => Value.int 0)) := by
  match b, hb, hk with
  | 0, _, hk => exact W0_25
  | 1, _, hk => exact absurd hk (by decide)
  | 2, _, hk => exact absurd hk (by decide)
  | 3, _, hk => exact W0_28
  | 4, _, hk => exact absurd hk (by decide)
  | 5, _, hk => exact absurd hk (by decide)
  | 6, _, hk => exact absurd hk (by decide)
  | 7, _, hk => exact W0_32
  | b + 8, h, _ => exact absurd h (by omega)
set_option maxRecDepth 4000 in
theorem fn_4 {L : Nat} {xs : Nat → Int32} {b : Nat} (hb : b < 8) (hk : kd (32 + b) = 3) : (W0 L xs)[(32 + b) + 1]? = some (.inl (0, 8, fun _ => Value.int 0)) := by
  match b, hb, hk with
  | 0, _, hk => exact absurd hk (by decide)
  | 1, _, hk => exact absurd hk (by decide)
  | 2, _, hk => exact W0_35
  | 3, _, hk => exact absurd hk (by decide)
  | 4, _, hk => exact absurd hk (by decide)
  | 5, _, hk => exact W0_38
  | 6, _, hk => exact absurd hk (by decide)
  | 7, _, hk => exact absurd hk (by decide)
  | b + 8, h, _ => exact absurd h (by omega)
set_option maxRecDepth 4000 in
theorem fn_5 {L : Nat} {xs : Nat → Int32} {b : Nat} (hb : b < 8) (hk : kd (40 + b) = 3) : (W0 L xs)[(40 + b) + 1]? = some (.inl (0, 8, fun _ => Value.int 0)) := by
  match b, hb, hk with
  | 0, _, hk => exact W0_41
  | 1, _, hk => exact absurd hk (by decide)
  | 2, _, hk => exact absurd hk (by decide)
  | 3, _, hk => exact W0_44
  | 4, _, hk => exact absurd hk (by decide)
  | 5, _, hk => exact absurd hk (by decide)
  | 6, _, hk => exact W0_47
  | 7, _, hk => exact absurd hk (by decide)
  | b + 8, h, _ => exact absurd h (by omega)
set_option maxRecDepth 4000 in
theorem fn_6 {L : Nat} {xs : Nat → Int32} {b : Nat} (hb : b < 8) (hk : kd (48 + b) = 3) : (W0 L xs)[(48 + b) + 1]? = some (.inl (0, 8, fun _ => Value.int 0)) := by
  match b, hb, hk with
  | 0, _, hk => exact absurd hk (by decide)
  | 1, _, hk => exact W0_50
  | 2, _, hk => exact absurd hk (by decide)
  | 3, _, hk => exact absurd hk (by decide)
  | 4, _, hk => exact W0_53
  | 5, _, hk => exact absurd hk (by decide)
  | 6, _, hk => exact absurd hk (by decide)
  | 7, _, hk => exact W0_56
  | b + 8, h, _ => exact absurd h (by omega)
set_option maxRecDepth 4000 in
theorem fn_7 {L : Nat} {xs : Nat → Int32} {b : Nat} (hb : b < 8) (hk : kd (56 + b) = 3) : (W0 L xs)[(56 + b) + 1]? = some (.inl (0, 8, fun _ => Value.int 0)) := by
  match b, hb, hk with
  | 0, _, hk => exact absurd hk (by decide)
  | 1, _, hk => exact absurd hk (by decide)
  | 2, _, hk => exact W0_59
  | 3, _, hk => exact absurd hk (by decide)
  | 4, _, hk => exact absurd hk (by decide)
  | 5, _, hk => exact W0_62
  | 6, _, hk => exact absurd hk (by decide)
  | 7, _, hk => exact absurd hk (by decide)
  | b + 8, h, _ => exact absurd h (by omega)
set_option maxRecDepth 4000 in
theorem fn_8 {L : Nat} {xs : Nat → Int32} {b : Nat} (hb : b < 8) (hk : kd (64 + b) = 3) : (W0 L xs)[(64 + b) + 1]? = some (.inl (0, 8, fun _ => Value.int 0)) := by
  match b, hb, hk with
  | 0, _, hk => exact W0_65
  | 1, _, hk => exact absurd hk (by decide)
  | 2, _, hk => exact absurd hk (by decide)
  | 3, _, hk => exact W0_68
  | 4, _, hk => exact absurd hk (by decide)
  | 5, _, hk => exact absurd hk (by decide)
  | 6, _, hk => exact W0_71
  | 7, _, hk => exact absurd hk (by decide)
  | b + 8, h, _ => exact absurd h (by omega)
set_option maxRecDepth 4000 in
theorem fn_9 {L : Nat} {xs : Nat → Int32} {b : Nat} (hb : b < 8) (hk : kd (72 + b) = 3) : (W0 L xs)[(72 + b) + 1]? = some (.inl (0, 8, fun _ => Value.int 0)) := by
  match b, hb, hk with
  | 0, _, hk => exact absurd hk (by decide)
  | 1, _, hk => exact W0_74
  | 2, _, hk => exact absurd hk (by decide)
  | 3, _, hk => exact absurd hk (by decide)
  | 4, _, hk => exact W0_77
  | 5, _, hk => exact absurd hk (by decide)
  | 6, _, hk => exact absurd hk (by decide)
  | 7, _, hk => exact absurd hk (by decide)
  | b + 8, h, _ => exact absurd h (by omega)
set_option maxRecDepth 4000 in
theorem fn_10 {L : Nat} {xs : Nat → Int32} {b : Nat} (hb : b < 8) (hk : kd (80 + b) = 3) : (W0 L xs)[(80 + b) + 1]? = some (.inl (0, 8, fun _ => Value.int 0)) := by
  match b, hb, hk with
  | 0, _, hk => exact W0_81
  | 1, _, hk => exact absurd hk (by decide)
  | 2, _, hk => exact W0_83
  | 3, _, hk => exact absurd hk (by decide)
  | 4, _, hk => exact W0_85
  | 5, _, hk => exact absurd hk (by decide)
  | 6, _, hk => exact absurd hk (by decide)
  | 7, _, hk => exact W0_88
  | b + 8, h, _ => exact absurd h (by omega)
set_option maxRecDepth 4000 in
theorem fn_11 {L : Nat} {xs : Nat → Int32} {b : Nat} (hb : b < 8) (hk : kd (88 + b) = 3) : (W0 L xs)[(88 + b) + 1]? = some (.inl (0, 8, fun _ => Value.int 0)) := by
  match b, hb, hk with
  | 0, _, hk => exact absurd hk (by decide)
  | 1, _, hk => exact W0_90
  | 2, _, hk => exact absurd hk (by decide)
  | 3, _, hk => exact W0_92
  | 4, _, hk => exact absurd hk (by decide)
  | 5, _, hk => exact absurd hk (by decide)
  | 6, _, hk => exact absurd hk (by decide)
  | 7, _, hk => exact W0_96
  | b + 8, h, _ => exact absurd h (by omega)
set_option maxRecDepth 4000 in
theorem fn_12 {L : Nat} {xs : Nat → Int32} {b : Nat} (hb : b < 8) (hk : kd (96 + b) = 3) : (W0 L xs)[(96 + b) + 1]? = some (.inl (0, 8, fun _ => Value.int 0)) := by
  match b, hb, hk with
  | 0, _, hk => exact absurd hk (by decide)
  | 1, _, hk => exact W0_98
  | 2, _, hk => exact absurd hk (by decide)
  | 3, _, hk => exact W0_100
  | 4, _, hk => exact absurd hk (by decide)
  | 5, _, hk => exact absurd hk (by decide)
  | 6, _, hk => exact W0_103
  | 7, _, hk => exact absurd hk (by decide)
  | b + 8, h, _ => exact absurd h (by omega)
set_option maxRecDepth 4000 in
theorem fn_13 {L : Nat} {xs : Nat → Int32} {b : Nat} (hb : b < 8) (hk : kd (104 + b) = 3) : (W0 L xs)[(104 + b) + 1]? = some (.inl (0, 8, fun _ => Value.int 0)) := by
  match b, hb, hk with
  | 0, _, hk => exact W0_105
  | 1, _, hk => exact absurd hk (by decide)
  | 2, _, hk => exact W0_107
  | 3, _, hk => exact absurd hk (by decide)
  | 4, _, hk => exact absurd hk (by decide)
  | 5, _, hk => exact W0_110
  | 6, _, hk => exact absurd hk (by decide)
  | 7, _, hk => exact W0_112
  | b + 8, h, _ => exact absurd h (by omega)
set_option maxRecDepth 4000 in
theorem fn_14 {L : Nat} {xs : Nat → Int32} {b : Nat} (hb : b < 8) (hk : kd (112 + b) = 3) : (W0 L xs)[(112 + b) + 1]? = some (.inl (0, 8, fun _ => Value.int 0)) := by
  match b, hb, hk with
  | 0, _, hk => exact absurd hk (by decide)
  | 1, _, hk => exact absurd hk (by decide)
  | 2, _, hk => exact absurd hk (by decide)
  | 3, _, hk => exact W0_116
  | 4, _, hk => exact absurd hk (by decide)
  | 5, _, hk => exact W0_118
  | 6, _, hk => exact absurd hk (by decide)
  | 7, _, hk => exact W0_120
  | b + 8, h, _ => exact absurd h (by omega)
set_option maxRecDepth 4000 in
theorem fn_15 {L : Nat} {xs : Nat → Int32} {b : Nat} (hb : b < 8) (hk : kd (120 + b) = 3) : (W0 L xs)[(120 + b) + 1]? = some (.inl (0, 8, fun _ => Value.int 0)) := by
  match b, hb, hk with
  | 0, _, hk => exact absurd hk (by decide)
  | 1, _, hk => exact W0_122
  | 2, _, hk => exact absurd hk (by decide)
  | 3, _, hk => exact W0_124
  | 4, _, hk => exact absurd hk (by decide)
  | 5, _, hk => exact absurd hk (by decide)
  | 6, _, hk => exact W0_127
  | 7, _, hk => exact absurd hk (by decide)
  | b + 8, h, _ => exact absurd h (by omega)
theorem fn {L : Nat} {xs : Nat → Int32} {h : Nat} (hk : kd h = 3) : (W0 L xs)[h + 1]? = some (.inl (0, 8, fun _ => Value.int 0)) := by
  have h128 : h < 128 := by
    rcases Nat.lt_or_ge h 128 with c | c
    · exact c
    · rw [kd_ge c] at hk
      exact absurd hk (by decide)
  obtain ⟨a, b, rfl, hb, ha⟩ : ∃ a b, h = 8 * a + b ∧ b < 8 ∧ a < 16 := ⟨h / 8, h % 8, by omega, by omega, by omega⟩
  match a, ha, hk with
  | 0, _, hk => exact fn_0 hb hk
  | 1, _, hk => exact fn_1 hb hk
  | 2, _, hk => exact fn_2 hb hk
  | 3, _, hk => exact fn_3 hb hk
  | 4, _, hk => exact fn_4 hb hk
  | 5, _, hk => exact fn_5 hb hk
  | 6, _, hk => exact fn_6 hb hk
  | 7, _, hk => exact fn_7 hb hk
  | 8, _, hk => exact fn_8 hb hk
  | 9, _, hk => exact fn_9 hb hk
  | 10, _, hk => exact fn_10 hb hk
  | 11, _, hk => exact fn_11 hb hk
  | 12, _, hk => exact fn_12 hb hk
  | 13, _, hk => exact fn_13 hb hk
  | 14, _, hk => exact fn_14 hb hk
  | 15, _, hk => exact fn_15 hb hk
  | a + 16, h, _ => exact absurd h (by omega)
theorem Sf_r {r : Nat} (h : r < 16) : Sf (30 + 3 * r) 0 = 64 ∧ Sf (30 + 3 * r) 1 = 0 ∧ Sf (30 + 3 * r) 2 = 0 ∧ Sf (30 + 3 * r) 3 = 0 := by
  match r, h with
  | 0, _ => exact ⟨rfl, rfl, rfl, rfl⟩
  | 1, _ => exact ⟨rfl, rfl, rfl, rfl⟩
  | 2, _ => exact ⟨rfl, rfl, rfl, rfl⟩
  | 3, _ => exact ⟨rfl, rfl, rfl, rfl⟩
  | 4, _ => exact ⟨rfl, rfl, rfl, rfl⟩
  | 5, _ => exact ⟨rfl, rfl, rfl, rfl⟩
  | 6, _ => exact ⟨rfl, rfl, rfl, rfl⟩
  | 7, _ => exact ⟨rfl, rfl, rfl, rfl⟩
  | 8, _ => exact ⟨rfl, rfl, rfl, rfl⟩
  | 9, _ => exact ⟨rfl, rfl, rfl, rfl⟩
  | 10, _ => exact ⟨rfl, rfl, rfl, rfl⟩
  | 11, _ => exact ⟨rfl, rfl, rfl, rfl⟩
  | 12, _ => exact ⟨rfl, rfl, rfl, rfl⟩
  | 13, _ => exact ⟨rfl, rfl, rfl, rfl⟩
  | 14, _ => exact ⟨rfl, rfl, rfl, rfl⟩
  | 15, _ => exact ⟨rfl, rfl, rfl, rfl⟩
  | k + 16, h => exact absurd h (by omega)
theorem gprec_e : gprec = mrow (Smf 153) := by
  funext j
  by_cases c : j < 17
  · rw [gprec_at c]
    show Value.int 64 = Value.int (Int32.ofInt (bif Nat.blt j 17 then 64 else 0))
    rw [show Nat.blt j 17 = true from Nat.ble_eq_true_of_le c]
    all_goals rfl
  · obtain ⟨k, rfl⟩ : ∃ k, j = k + 17 := ⟨j - 17, by omega⟩
    show _ = Value.int (Int32.ofInt (bif Nat.blt (k + 17) 17 then 64 else 0))
    rw [show Nat.blt (k + 17) 17 = false from Bool.eq_false_iff.mpr (fun h => c (Nat.le_of_ble_eq_true h))]
    all_goals rfl
theorem W0_c {L : Nat} {xs : Nat → Int32} : cX (W0 L xs) 195 (L + 76984) Sf (fun _ => 0) (W0 L xs) := by
  refine ⟨fun h => h + 1, fun _ => 8, fun _ => 0, Sf, ⟨fun _ _ => rfl, fun h hk => fo hk, fun h hk => ⟨?_, (by show 8 * 2 ^ 0 ≤ 8; decide), (by show 8 ≤ 40000; decide)⟩, fun h _ => Or.inl rfl, fun h k _ _ e => Nat.succ.inj e, ⟨greg, W0_8, fun j hj => greg_at hj⟩, ⟨by rw [mrS (h := 29) (Or.inr (by decide))]; exact W0_29, by rw [mrS (h := 114) (Or.inr (by decide))]; exact W0_114⟩, by rw [W0_len]; exact Nat.le_refl _, by rw [W0_len]; rfl, ?_⟩, fun h hk => ⟨0, (congrFun (Sf_0 (Or.inl hk)) 1).trans rfl, Nat.zero_le _, rfl, Or.inl rfl⟩, fun _ _ => rfl⟩
  · rw [mrS (h := h + 1) (Or.inr (kd_n hk))]
    exact fn hk
  · rw [W0_szL]
    exact Nat.le_add_right _ _
theorem W0_m {L : Nat} {xs : Nat → Int32} : mR (W0 L xs) Smf (fun _ => 0) (W0 L xs) := by
  refine ⟨⟨rfl, rfl, fun _ _ => rfl⟩, W0_128, fun a t n h => ?_, ⟨gpart, W0_157, fun j hj => gpart_at hj⟩, fun h hh => ?_⟩
  · unfold isA at h
    rcases h with ⟨rfl, rfl, rfl⟩ | ⟨rfl, rfl, rfl⟩ | ⟨rfl, rfl, rfl⟩ | ⟨rfl, rfl, rfl⟩ | ⟨rfl, rfl, rfl⟩ | ⟨rfl, rfl, rfl⟩
    · rw [← gprec_e]; exact W0_153
    · rw [show mrow (Smf 154) = fun _ => Value.int 0 from rfl]; exact W0_154
    · rw [show mrow (Smf 155) = fun _ => Value.int 0 from rfl]; exact W0_155
    · rw [show mrow (Smf 156) = fun _ => Value.int 0 from rfl]; exact W0_156
    · rw [show mrow (Smf 158) = fun _ => Value.int 0 from rfl]; exact W0_158
    · rw [show mrow (Smf 159) = fun _ => Value.int 0 from rfl]; exact W0_159
  · unfold isN at hh
    rcases hh with ⟨h1, h2, h3⟩ | ⟨h1, h2, h3⟩
    · obtain ⟨k, rfl, hk⟩ : ∃ k, h = 129 + 2 * k ∧ k < 12 := ⟨(h - 129) / 2, by omega, by omega⟩
      match k, hk with
      | 0, _ => exact ⟨0, _, W0_129, W0_130, Nat.zero_le _, fun j hj => absurd hj (Nat.not_lt_zero _), rfl, Or.inl rfl⟩
      | 1, _ => exact ⟨0, _, W0_131, W0_132, Nat.zero_le _, fun j hj => absurd hj (Nat.not_lt_zero _), rfl, Or.inl rfl⟩
      | 2, _ => exact ⟨0, _, W0_133, W0_134, Nat.zero_le _, fun j hj => absurd hj (Nat.not_lt_zero _), rfl, Or.inl rfl⟩
      | 3, _ => exact ⟨0, _, W0_135, W0_136, Nat.zero_le _, fun j hj => absurd hj (Nat.not_lt_zero _), rfl, Or.inl rfl⟩
      | 4, _ => exact ⟨0, _, W0_137, W0_138, Nat.zero_le _, fun j hj => absurd hj (Nat.not_lt_zero _), rfl, Or.inl rfl⟩
      | 5, _ => exact ⟨0, _, W0_139, W0_140, Nat.zero_le _, fun j hj => absurd hj (Nat.not_lt_zero _), rfl, Or.inl rfl⟩
      | 6, _ => exact ⟨0, _, W0_141, W0_142, Nat.zero_le _, fun j hj => absurd hj (Nat.not_lt_zero _), rfl, Or.inl rfl⟩
      | 7, _ => exact ⟨0, _, W0_143, W0_144, Nat.zero_le _, fun j hj => absurd hj (Nat.not_lt_zero _), rfl, Or.inl rfl⟩
      | 8, _ => exact ⟨0, _, W0_145, W0_146, Nat.zero_le _, fun j hj => absurd hj (Nat.not_lt_zero _), rfl, Or.inl rfl⟩
      | 9, _ => exact ⟨0, _, W0_147, W0_148, Nat.zero_le _, fun j hj => absurd hj (Nat.not_lt_zero _), rfl, Or.inl rfl⟩
      | 10, _ => exact ⟨0, _, W0_149, W0_150, Nat.zero_le _, fun j hj => absurd hj (Nat.not_lt_zero _), rfl, Or.inl rfl⟩
      | 11, _ => exact ⟨0, _, W0_151, W0_152, Nat.zero_le _, fun j hj => absurd hj (Nat.not_lt_zero _), rfl, Or.inl rfl⟩
      | k + 12, h => exact absurd h (by omega)
    · obtain ⟨k, rfl, hk⟩ : ∃ k, h = 160 + 2 * k ∧ k < 17 := ⟨(h - 160) / 2, by omega, by omega⟩
      have e1 : (W0 L xs)[160 + 2 * k + 1]? = some (.inl (0, 140, fun _ => Value.int 0)) := by
        rw [show 160 + 2 * k + 1 = 161 + 2 * k by omega]
        exact W0_pw hk
      have e0 : (W0 L xs)[160 + 2 * k]? = some (.inr (13, [Value.ref (160 + 2 * k + 1), Value.int 0])) := by
        rw [show 160 + 2 * k + 1 = 161 + 2 * k by omega]
        exact W0_part hk
      have e2 : ncap (160 + 2 * k) = 140 := by
        unfold ncap
        rw [if_neg (by omega)]
      refine ⟨0, fun _ => Value.int 0, e0, ?_, Nat.zero_le _, fun j hj => absurd hj (Nat.not_lt_zero _), rfl, Or.inl rfl⟩
      rw [e2]
      exact e1
theorem Smf_p {r : Nat} (h : r < 17) : Smf 153 r = 64 := by
  show (bif Nat.blt r 17 then (64 : Int) else 0) = 64
  rw [show Nat.blt r 17 = true from Nat.ble_eq_true_of_le h]
  all_goals rfl
theorem W0_I {L : Nat} {xs : Nat → Int32} : IV0 (W0 L xs) 195 (L + 76984) (W0 L xs) := by
  refine ⟨Sf, fun _ => 0, Smf, fun _ => 0, fun _ => Value.long 0, ⟨W0_c, W0_m, W0_194, fun _ _ => rfl⟩, ?_, ?_, ?_, ?_⟩
  · refine ⟨fun r hr => ?_, by decide, Or.inl rfl, Or.inl ⟨rfl, rfl⟩, by decide, ⟨rfl, rfl, rfl, rfl⟩⟩
    obtain ⟨e0, e1, e2, e3⟩ := Sf_r hr
    rw [e0, e1, e2]
    exact ⟨by decide, by decide, Or.inl rfl, Or.inl (by decide), Or.inl (by decide), fun c => absurd c (by decide)⟩
  · refine ⟨fun r hr => ?_, by decide, Or.inl rfl, rfl⟩
    rw [Smf_p (r := r) (by omega)]
    refine ⟨by decide, ?_, Or.inl rfl, ?_, ?_, fun c => absurd c ?_⟩
    · show (0 : Int) ≤ 0 ∧ (0 : Int) ≤ 3
      decide
    · show (-20479 : Int) ≤ 0 ∧ (0 : Int) ≤ 16385
      decide
    · show xbl 0 ≤ 4096
      decide
    · show ¬ (0 : Int) = 3
      decide
  · exact ⟨by decide, fun j => ⟨(by decide : (-128 : Int) ≤ 0), (by decide : (0 : Int) ≤ 127)⟩, by decide⟩
  · refine ⟨fun r hr => ?_, ⟨rfl, rfl, rfl, rfl⟩, ⟨rfl, fun j => rfl⟩, rfl, fun j _ => rfl⟩
    obtain ⟨e0, e1, e2, e3⟩ := Sf_r hr
    have z : vS Sf 154 r = 0 := e1
    exact ⟨(Smf_p (r := r) (by omega)).trans e0.symm, e1.symm, fun c => absurd z c, fun c => absurd (z.symm.trans c) (by decide)⟩
