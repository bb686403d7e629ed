/-! the run of a script of at most six numbers -/
theorem xand31 (x : Int32) : 0 ≤ (x &&& (31 : Int32)).toInt ∧ (x &&& (31 : Int32)).toInt ≤ 31 := by
  have h : xun (x &&& (31 : Int32)) = xun x &&& 31 := rfl
  rw [Nat.and_two_pow_sub_one_eq_mod _ 5] at h
  have h1 := xun_p (x := x &&& (31 : Int32)) (by omega)
  omega
theorem law_6 {d : Nat} {xs : Nat → Int32} : ∃ w1, xEv (d + 20) 287 23 [(4, Value.int 0), (3, Value.ref 194), (2, Value.ref 128), (1, Value.ref 7), (0, Value.ref 0)] [] (W0 6 xs) (fun o' w' => o' = .inl (some (Value.int 1)) ∧ w' = w1) ∧ w1.length ≤ 220 ∧ xsz w1 ≤ 200000 := by
  have hx := xand31 (xs 0)
  have hc : ((xs 0) &&& (31 : Int32)).toInt = 0 ∨ ((xs 0) &&& (31 : Int32)).toInt = 1 ∨ ((xs 0) &&& (31 : Int32)).toInt = 2 ∨ ((xs 0) &&& (31 : Int32)).toInt = 3 ∨ ((xs 0) &&& (31 : Int32)).toInt = 4 ∨ ((xs 0) &&& (31 : Int32)).toInt = 5 ∨ ((xs 0) &&& (31 : Int32)).toInt = 6 ∨ ((xs 0) &&& (31 : Int32)).toInt = 7 ∨ ((xs 0) &&& (31 : Int32)).toInt = 8 ∨ ((xs 0) &&& (31 : Int32)).toInt = 9 ∨ ((xs 0) &&& (31 : Int32)).toInt = 10 ∨ ((xs 0) &&& (31 : Int32)).toInt = 11 ∨ ((xs 0) &&& (31 : Int32)).toInt = 12 ∨ ((xs 0) &&& (31 : Int32)).toInt = 13 ∨ ((xs 0) &&& (31 : Int32)).toInt = 14 ∨ ((xs 0) &&& (31 : Int32)).toInt = 15 ∨ ((xs 0) &&& (31 : Int32)).toInt = 16 ∨ ((xs 0) &&& (31 : Int32)).toInt = 17 ∨ ((xs 0) &&& (31 : Int32)).toInt = 18 ∨ ((xs 0) &&& (31 : Int32)).toInt = 19 ∨ ((xs 0) &&& (31 : Int32)).toInt = 20 ∨ ((xs 0) &&& (31 : Int32)).toInt = 21 ∨ ((xs 0) &&& (31 : Int32)).toInt = 22 ∨ ((xs 0) &&& (31 : Int32)).toInt = 23 ∨ (24 ≤ ((xs 0) &&& (31 : Int32)).toInt ∧ ((xs 0) &&& (31 : Int32)).toInt ≤ 31) := by omega
  rcases hc with h | h | h | h | h | h | h | h | h | h | h | h | h | h | h | h | h | h | h | h | h | h | h | h | h
  · exact op_0 h
  · exact op_1 h
  · exact op_2 h
  · exact op_3 h
  · exact op_4 h
  · exact op_5 h
  · exact op_6 h
  · exact op_7 h
  · exact op_8 h
  · exact op_9 h
  · exact op_10 h
  · exact op_11 h
  · exact op_12 h
  · exact op_13 h
  · exact op_14 h
  · exact op_15 h
  · exact op_16 h
  · exact op_17 h
  · exact op_18 h
  · exact op_19 h
  · exact op_20 h
  · exact op_21 h
  · exact op_22 h
  · exact op_23 h
  · exact op_24 h
set_option maxRecDepth 8000 in
theorem W0_sz0 {xs : Nat → Int32} : xsz (W0 0 xs) = 76984 := by
  simp only [W0, xscr, xsz, List.cons_append, List.nil_append, List.map_cons, List.map_nil, List.sum_cons, List.sum_nil, xcs]
  rfl
theorem law_0 {d : Nat} {xs : Nat → Int32} : ∃ w1, xEv (d + 20) 287 23 [(4, Value.int 0), (3, Value.ref 194), (2, Value.ref 128), (1, Value.ref 7), (0, Value.ref 0)] [] (W0 0 xs) (fun o' w' => o' = .inl (some (Value.int 1)) ∧ w' = w1) ∧ w1.length ≤ 220 ∧ xsz w1 ≤ 200000 := by
  refine ⟨(W0 0 xs), ?_, Nat.le_trans (Nat.le_of_eq W0_len) (by decide), by rw [W0_sz0]; decide⟩
  refine i_287_23 (x := 0) rfl ?_
  refine i_287_25 (x := 0) rfl ?_
  refine i_287_26 (c := 0) W0_0 (by decide) ?_
  refine i_287_27 ?_
  refine i_287_29 (c := (-6)) (by decide) ?_
  refine i_287_30 (fun _ => ?_) (fun h => absurd h (by decide))
  refine i_287_2160 ?_
  exact i_287_2161 rfl ⟨rfl, rfl⟩
set_option maxRecDepth 8000 in
theorem W0_sz1 {xs : Nat → Int32} : xsz (W0 1 xs) = 76985 := by
  simp only [W0, xscr, xsz, List.cons_append, List.nil_append, List.map_cons, List.map_nil, List.sum_cons, List.sum_nil, xcs]
  rfl
theorem law_1 {d : Nat} {xs : Nat → Int32} : ∃ w1, xEv (d + 20) 287 23 [(4, Value.int 0), (3, Value.ref 194), (2, Value.ref 128), (1, Value.ref 7), (0, Value.ref 0)] [] (W0 1 xs) (fun o' w' => o' = .inl (some (Value.int 1)) ∧ w' = w1) ∧ w1.length ≤ 220 ∧ xsz w1 ≤ 200000 := by
  refine ⟨(W0 1 xs), ?_, Nat.le_trans (Nat.le_of_eq W0_len) (by decide), by rw [W0_sz1]; decide⟩
  refine i_287_23 (x := 0) rfl ?_
  refine i_287_25 (x := 0) rfl ?_
  refine i_287_26 (c := 1) W0_0 (by decide) ?_
  refine i_287_27 ?_
  refine i_287_29 (c := (-5)) (by decide) ?_
  refine i_287_30 (fun _ => ?_) (fun h => absurd h (by decide))
  refine i_287_2160 ?_
  exact i_287_2161 rfl ⟨rfl, rfl⟩
set_option maxRecDepth 8000 in
theorem W0_sz2 {xs : Nat → Int32} : xsz (W0 2 xs) = 76986 := by
  simp only [W0, xscr, xsz, List.cons_append, List.nil_append, List.map_cons, List.map_nil, List.sum_cons, List.sum_nil, xcs]
  rfl
theorem law_2 {d : Nat} {xs : Nat → Int32} : ∃ w1, xEv (d + 20) 287 23 [(4, Value.int 0), (3, Value.ref 194), (2, Value.ref 128), (1, Value.ref 7), (0, Value.ref 0)] [] (W0 2 xs) (fun o' w' => o' = .inl (some (Value.int 1)) ∧ w' = w1) ∧ w1.length ≤ 220 ∧ xsz w1 ≤ 200000 := by
  refine ⟨(W0 2 xs), ?_, Nat.le_trans (Nat.le_of_eq W0_len) (by decide), by rw [W0_sz2]; decide⟩
  refine i_287_23 (x := 0) rfl ?_
  refine i_287_25 (x := 0) rfl ?_
  refine i_287_26 (c := 2) W0_0 (by decide) ?_
  refine i_287_27 ?_
  refine i_287_29 (c := (-4)) (by decide) ?_
  refine i_287_30 (fun _ => ?_) (fun h => absurd h (by decide))
  refine i_287_2160 ?_
  exact i_287_2161 rfl ⟨rfl, rfl⟩
set_option maxRecDepth 8000 in
theorem W0_sz3 {xs : Nat → Int32} : xsz (W0 3 xs) = 76987 := by
  simp only [W0, xscr, xsz, List.cons_append, List.nil_append, List.map_cons, List.map_nil, List.sum_cons, List.sum_nil, xcs]
  rfl
theorem law_3 {d : Nat} {xs : Nat → Int32} : ∃ w1, xEv (d + 20) 287 23 [(4, Value.int 0), (3, Value.ref 194), (2, Value.ref 128), (1, Value.ref 7), (0, Value.ref 0)] [] (W0 3 xs) (fun o' w' => o' = .inl (some (Value.int 1)) ∧ w' = w1) ∧ w1.length ≤ 220 ∧ xsz w1 ≤ 200000 := by
  refine ⟨(W0 3 xs), ?_, Nat.le_trans (Nat.le_of_eq W0_len) (by decide), by rw [W0_sz3]; decide⟩
  refine i_287_23 (x := 0) rfl ?_
  refine i_287_25 (x := 0) rfl ?_
  refine i_287_26 (c := 3) W0_0 (by decide) ?_
  refine i_287_27 ?_
  refine i_287_29 (c := (-3)) (by decide) ?_
  refine i_287_30 (fun _ => ?_) (fun h => absurd h (by decide))
  refine i_287_2160 ?_
  exact i_287_2161 rfl ⟨rfl, rfl⟩
set_option maxRecDepth 8000 in
theorem W0_sz4 {xs : Nat → Int32} : xsz (W0 4 xs) = 76988 := by
  simp only [W0, xscr, xsz, List.cons_append, List.nil_append, List.map_cons, List.map_nil, List.sum_cons, List.sum_nil, xcs]
  rfl
theorem law_4 {d : Nat} {xs : Nat → Int32} : ∃ w1, xEv (d + 20) 287 23 [(4, Value.int 0), (3, Value.ref 194), (2, Value.ref 128), (1, Value.ref 7), (0, Value.ref 0)] [] (W0 4 xs) (fun o' w' => o' = .inl (some (Value.int 1)) ∧ w' = w1) ∧ w1.length ≤ 220 ∧ xsz w1 ≤ 200000 := by
  refine ⟨(W0 4 xs), ?_, Nat.le_trans (Nat.le_of_eq W0_len) (by decide), by rw [W0_sz4]; decide⟩
  refine i_287_23 (x := 0) rfl ?_
  refine i_287_25 (x := 0) rfl ?_
  refine i_287_26 (c := 4) W0_0 (by decide) ?_
  refine i_287_27 ?_
  refine i_287_29 (c := (-2)) (by decide) ?_
  refine i_287_30 (fun _ => ?_) (fun h => absurd h (by decide))
  refine i_287_2160 ?_
  exact i_287_2161 rfl ⟨rfl, rfl⟩
set_option maxRecDepth 8000 in
theorem W0_sz5 {xs : Nat → Int32} : xsz (W0 5 xs) = 76989 := by
  simp only [W0, xscr, xsz, List.cons_append, List.nil_append, List.map_cons, List.map_nil, List.sum_cons, List.sum_nil, xcs]
  rfl
theorem law_5 {d : Nat} {xs : Nat → Int32} : ∃ w1, xEv (d + 20) 287 23 [(4, Value.int 0), (3, Value.ref 194), (2, Value.ref 128), (1, Value.ref 7), (0, Value.ref 0)] [] (W0 5 xs) (fun o' w' => o' = .inl (some (Value.int 1)) ∧ w' = w1) ∧ w1.length ≤ 220 ∧ xsz w1 ≤ 200000 := by
  refine ⟨(W0 5 xs), ?_, Nat.le_trans (Nat.le_of_eq W0_len) (by decide), by rw [W0_sz5]; decide⟩
  refine i_287_23 (x := 0) rfl ?_
  refine i_287_25 (x := 0) rfl ?_
  refine i_287_26 (c := 5) W0_0 (by decide) ?_
  refine i_287_27 ?_
  refine i_287_29 (c := (-1)) (by decide) ?_
  refine i_287_30 (fun _ => ?_) (fun h => absurd h (by decide))
  refine i_287_2160 ?_
  exact i_287_2161 rfl ⟨rfl, rfl⟩
theorem law_all {d L : Nat} {xs : Nat → Int32} (hL : L ≤ 6) : ∃ w1, xEv (d + 20) 287 23 [(4, Value.int 0), (3, Value.ref 194), (2, Value.ref 128), (1, Value.ref 7), (0, Value.ref 0)] [] (W0 L xs) (fun o' w' => o' = .inl (some (Value.int 1)) ∧ w' = w1) ∧ w1.length ≤ 220 ∧ xsz w1 ≤ 200000 := by
  match L, hL with
  | 0, _ => exact law_0
  | 1, _ => exact law_1
  | 2, _ => exact law_2
  | 3, _ => exact law_3
  | 4, _ => exact law_4
  | 5, _ => exact law_5
  | 6, _ => exact law_6
  | k + 7, h => exact absurd h (by omega)
theorem p1_run (L : Nat) (xs : Nat → Int32) (hL : L ≤ 6) : ∃ n w, xev 7 n 1000 287 0 [(0, .ref 0)] [] (xscr L xs) = some (.inl (some (.int 1)), w) ∧ w.length ≤ 600002 ∧ xsz w ≤ 7302232 := by
  obtain ⟨w1, he, hl, hs⟩ := law_all (d := 980) (xs := xs) hL
  have h0 := law_start (d := 995) (L := L) (xs := xs) (i_287_20 (i_287_21 (lv2 := [(4, Value.int 0), (3, Value.ref 194), (2, Value.ref 128), (1, Value.ref 7), (0, Value.ref 0)]) rfl he))
  rw [List.append_nil] at h0
  obtain ⟨n, o, w2, h1, h2, h3⟩ := h0
  subst h2; subst h3
  exact ⟨n, _, h1, Nat.le_trans hl (by decide), Nat.le_trans hs (by decide)⟩
