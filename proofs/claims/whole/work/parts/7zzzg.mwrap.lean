/-! the wrappers of the reference -/
section
variable {d : Nat} {w0 w : xW} {S : Nat → Nat → Int} {V : Nat → Nat}
theorem w_166 {a0 : Int32} {a1 : Int32} {P : Int32 → xW → Prop} (hR : mR w0 S V w) (h : ∀ w1, mR w0 (u2 S 128 31 0) V w1 → ∃ v w2, xRun d 167 [Value.ref 128, Value.int a0, Value.int a1] w1 (.inl (some (.int v))) w2 ∧ P v w2) : ∃ v w2, xRun (d + 1) 166 [Value.ref 128, Value.int a0, Value.int a1] w (.inl (some (.int v))) w2 ∧ P v w2 := by
  have key : xEv (d + 1) 166 0 (lv_args 0 [Value.ref 128, Value.int a0, Value.int a1]) [] w (fun o w2 => ∃ v, o = .inl (some (.int v)) ∧ P v w2) := by
    refine i_166_0 (x := 128) rfl ?_
    refine i_166_1 ?_
    refine i_166_2 (fs2 := mf (u1 (S 128) 31 0)) hR.c128 (Nat.le_of_ble_eq_true rfl) (mfs_31 (v := 0)) (by decide) ?_
    refine xgen (P := mR w0 (u2 S 128 31 0) V) hR.fld2 (fun w hR => ?_)
    refine i_166_5 rfl ?_
    refine i_166_6 rfl ?_
    refine i_166_7 rfl ?_
    obtain ⟨v, w2, hrun, hP⟩ := h w hR
    refine i_166_8 hR.c128 (Nat.le_of_ble_eq_true rfl) hrun ?_
    exact i_166_11 ⟨v, rfl, hP⟩
  obtain ⟨o, w2, h1, v, rfl, h2⟩ := key.run
  exact ⟨v, w2, h1, h2⟩
theorem t_166_1 {a0 : Int32} {a1 : Int32} {P : (Nat → Nat → Int) → (Nat → Nat) → Prop} (hR : mR w0 S V w) (hl : 194 ≤ w0.length) (h : ∀ w1, mR w0 (u2 S 128 31 0) V w1 → ∃ w2 S' V', xRun d 167 [Value.ref 128, Value.int a0, Value.int a1] w1 (.inr w2.length) (w2 ++ [.inr (14, [])]) ∧ mR w0 S' V' w2 ∧ P S' V') : ∃ w2, xRun (d + 1) 166 [Value.ref 128, Value.int a0, Value.int a1] w (.inl (some (.int 0))) w2 ∧ ∃ S' V', mR (w0 ++ [.inr (14, [])]) (u2 S' 128 31 1) V' w2 ∧ P S' V' := by
  have key : xEv (d + 1) 166 0 (lv_args 0 [Value.ref 128, Value.int a0, Value.int a1]) [] w (fun o w2 => o = .inl (some (.int 0)) ∧ ∃ S' V', mR (w0 ++ [.inr (14, [])]) (u2 S' 128 31 1) V' w2 ∧ P S' V') := by
    refine i_166_0 (x := 128) rfl ?_
    refine i_166_1 ?_
    refine i_166_2 (fs2 := mf (u1 (S 128) 31 0)) hR.c128 (Nat.le_of_ble_eq_true rfl) (mfs_31 (v := 0)) (by decide) ?_
    refine xgen (P := mR w0 (u2 S 128 31 0) V) hR.fld2 (fun w hR => ?_)
    refine i_166_5 rfl ?_
    refine i_166_6 rfl ?_
    refine i_166_7 rfl ?_
    obtain ⟨w2, S', V', hrun, hR2, hP⟩ := h w hR
    refine j_166_8 hR.c128 (Nat.le_of_ble_eq_true rfl) hrun (xDone.c (ci := 14) (hp := 12) xgl rfl rfl ?_)
    have hR := hR2.app (c := .inr (14, [])) (by rw [hR2.1.1]; exact hl)
    refine i_166_12 rfl ?_
    refine i_166_13 (x := 128) rfl ?_
    refine i_166_14 ?_
    refine i_166_15 (fs2 := mf (u1 (S' 128) 31 1)) hR.c128 (Nat.le_of_ble_eq_true rfl) (mfs_31 (v := 1)) (by decide) ?_
    refine xgen (P := mR (w0 ++ [.inr (14, [])]) (u2 S' 128 31 1) V') hR.fld2 (fun w hR => ?_)
    refine i_166_18 ?_
    exact i_166_19 ⟨rfl, S', V', hR, hP⟩
  obtain ⟨o, w2, h1, rfl, h2⟩ := key.run
  exact ⟨w2, h1, h2⟩
theorem w_172 {a0 : Int32} {a1 : Int32} {a2 : Int32} {P : Int32 → xW → Prop} (hR : mR w0 S V w) (h : ∀ w1, mR w0 (u2 S 128 31 0) V w1 → ∃ v w2, xRun d 173 [Value.ref 128, Value.int a0, Value.int a1, Value.int a2] w1 (.inl (some (.int v))) w2 ∧ P v w2) : ∃ v w2, xRun (d + 1) 172 [Value.ref 128, Value.int a0, Value.int a1, Value.int a2] w (.inl (some (.int v))) w2 ∧ P v w2 := by
  have key : xEv (d + 1) 172 0 (lv_args 0 [Value.ref 128, Value.int a0, Value.int a1, Value.int a2]) [] w (fun o w2 => ∃ v, o = .inl (some (.int v)) ∧ P v w2) := by
    refine i_172_0 (x := 128) rfl ?_
    refine i_172_1 ?_
    refine i_172_2 (fs2 := mf (u1 (S 128) 31 0)) hR.c128 (Nat.le_of_ble_eq_true rfl) (mfs_31 (v := 0)) (by decide) ?_
    refine xgen (P := mR w0 (u2 S 128 31 0) V) hR.fld2 (fun w hR => ?_)
    refine i_172_5 rfl ?_
    refine i_172_6 rfl ?_
    refine i_172_7 rfl ?_
    refine i_172_8 rfl ?_
    obtain ⟨v, w2, hrun, hP⟩ := h w hR
    refine i_172_9 hR.c128 (Nat.le_of_ble_eq_true rfl) hrun ?_
    exact i_172_12 ⟨v, rfl, hP⟩
  obtain ⟨o, w2, h1, v, rfl, h2⟩ := key.run
  exact ⟨v, w2, h1, h2⟩
theorem t_172_1 {a0 : Int32} {a1 : Int32} {a2 : Int32} {P : (Nat → Nat → Int) → (Nat → Nat) → Prop} (hR : mR w0 S V w) (hl : 194 ≤ w0.length) (h : ∀ w1, mR w0 (u2 S 128 31 0) V w1 → ∃ w2 S' V', xRun d 173 [Value.ref 128, Value.int a0, Value.int a1, Value.int a2] w1 (.inr w2.length) (w2 ++ [.inr (14, [])]) ∧ mR w0 S' V' w2 ∧ P S' V') : ∃ w2, xRun (d + 1) 172 [Value.ref 128, Value.int a0, Value.int a1, Value.int a2] w (.inl (some (.int 0))) w2 ∧ ∃ S' V', mR (w0 ++ [.inr (14, [])]) (u2 S' 128 31 1) V' w2 ∧ P S' V' := by
  have key : xEv (d + 1) 172 0 (lv_args 0 [Value.ref 128, Value.int a0, Value.int a1, Value.int a2]) [] w (fun o w2 => o = .inl (some (.int 0)) ∧ ∃ S' V', mR (w0 ++ [.inr (14, [])]) (u2 S' 128 31 1) V' w2 ∧ P S' V') := by
    refine i_172_0 (x := 128) rfl ?_
    refine i_172_1 ?_
    refine i_172_2 (fs2 := mf (u1 (S 128) 31 0)) hR.c128 (Nat.le_of_ble_eq_true rfl) (mfs_31 (v := 0)) (by decide) ?_
    refine xgen (P := mR w0 (u2 S 128 31 0) V) hR.fld2 (fun w hR => ?_)
    refine i_172_5 rfl ?_
    refine i_172_6 rfl ?_
    refine i_172_7 rfl ?_
    refine i_172_8 rfl ?_
    obtain ⟨w2, S', V', hrun, hR2, hP⟩ := h w hR
    refine j_172_9 hR.c128 (Nat.le_of_ble_eq_true rfl) hrun (xDone.c (ci := 14) (hp := 13) xgl rfl rfl ?_)
    have hR := hR2.app (c := .inr (14, [])) (by rw [hR2.1.1]; exact hl)
    refine i_172_13 rfl ?_
    refine i_172_15 (x := 128) rfl ?_
    refine i_172_16 ?_
    refine i_172_17 (fs2 := mf (u1 (S' 128) 31 1)) hR.c128 (Nat.le_of_ble_eq_true rfl) (mfs_31 (v := 1)) (by decide) ?_
    refine xgen (P := mR (w0 ++ [.inr (14, [])]) (u2 S' 128 31 1) V') hR.fld2 (fun w hR => ?_)
    refine i_172_20 ?_
    exact i_172_21 ⟨rfl, S', V', hR, hP⟩
  obtain ⟨o, w2, h1, rfl, h2⟩ := key.run
  exact ⟨w2, h1, h2⟩
theorem w_174 {a0 : Int32} {P : Int32 → xW → Prop} (hR : mR w0 S V w) (h : ∀ w1, mR w0 (u2 S 128 31 0) V w1 → ∃ v w2, xRun d 175 [Value.ref 128, Value.int a0] w1 (.inl (some (.int v))) w2 ∧ P v w2) : ∃ v w2, xRun (d + 1) 174 [Value.ref 128, Value.int a0] w (.inl (some (.int v))) w2 ∧ P v w2 := by
  have key : xEv (d + 1) 174 0 (lv_args 0 [Value.ref 128, Value.int a0]) [] w (fun o w2 => ∃ v, o = .inl (some (.int v)) ∧ P v w2) := by
    refine i_174_0 (x := 128) rfl ?_
    refine i_174_1 ?_
    refine i_174_2 (fs2 := mf (u1 (S 128) 31 0)) hR.c128 (Nat.le_of_ble_eq_true rfl) (mfs_31 (v := 0)) (by decide) ?_
    refine xgen (P := mR w0 (u2 S 128 31 0) V) hR.fld2 (fun w hR => ?_)
    refine i_174_5 rfl ?_
    refine i_174_6 rfl ?_
    obtain ⟨v, w2, hrun, hP⟩ := h w hR
    refine i_174_7 hR.c128 (Nat.le_of_ble_eq_true rfl) hrun ?_
    exact i_174_10 ⟨v, rfl, hP⟩
  obtain ⟨o, w2, h1, v, rfl, h2⟩ := key.run
  exact ⟨v, w2, h1, h2⟩
theorem w_176 {a0 : Int32} {a1 : Int64} {a2 : Int32} {a3 : Int32} {P : Int32 → xW → Prop} (hR : mR w0 S V w) (h : ∀ w1, mR w0 (u2 S 128 31 0) V w1 → ∃ v w2, xRun d 177 [Value.ref 128, Value.int a0, Value.long a1, Value.int a2, Value.int a3] w1 (.inl (some (.int v))) w2 ∧ P v w2) : ∃ v w2, xRun (d + 1) 176 [Value.ref 128, Value.int a0, Value.long a1, Value.int a2, Value.int a3] w (.inl (some (.int v))) w2 ∧ P v w2 := by
  have key : xEv (d + 1) 176 0 (lv_args 0 [Value.ref 128, Value.int a0, Value.long a1, Value.int a2, Value.int a3]) [] w (fun o w2 => ∃ v, o = .inl (some (.int v)) ∧ P v w2) := by
    refine i_176_0 (x := 128) rfl ?_
    refine i_176_1 ?_
    refine i_176_2 (fs2 := mf (u1 (S 128) 31 0)) hR.c128 (Nat.le_of_ble_eq_true rfl) (mfs_31 (v := 0)) (by decide) ?_
    refine xgen (P := mR w0 (u2 S 128 31 0) V) hR.fld2 (fun w hR => ?_)
    refine i_176_5 rfl ?_
    refine i_176_6 rfl ?_
    refine i_176_7 rfl ?_
    refine i_176_8 rfl ?_
    refine i_176_10 rfl ?_
    obtain ⟨v, w2, hrun, hP⟩ := h w hR
    refine i_176_12 hR.c128 (Nat.le_of_ble_eq_true rfl) hrun ?_
    exact i_176_15 ⟨v, rfl, hP⟩
  obtain ⟨o, w2, h1, v, rfl, h2⟩ := key.run
  exact ⟨v, w2, h1, h2⟩
theorem t_176_1 {a0 : Int32} {a1 : Int64} {a2 : Int32} {a3 : Int32} {P : (Nat → Nat → Int) → (Nat → Nat) → Prop} (hR : mR w0 S V w) (hl : 194 ≤ w0.length) (h : ∀ w1, mR w0 (u2 S 128 31 0) V w1 → ∃ w2 S' V', xRun d 177 [Value.ref 128, Value.int a0, Value.long a1, Value.int a2, Value.int a3] w1 (.inr w2.length) (w2 ++ [.inr (14, [])]) ∧ mR w0 S' V' w2 ∧ P S' V') : ∃ w2, xRun (d + 1) 176 [Value.ref 128, Value.int a0, Value.long a1, Value.int a2, Value.int a3] w (.inl (some (.int 0))) w2 ∧ ∃ S' V', mR (w0 ++ [.inr (14, [])]) (u2 S' 128 31 1) V' w2 ∧ P S' V' := by
  have key : xEv (d + 1) 176 0 (lv_args 0 [Value.ref 128, Value.int a0, Value.long a1, Value.int a2, Value.int a3]) [] w (fun o w2 => o = .inl (some (.int 0)) ∧ ∃ S' V', mR (w0 ++ [.inr (14, [])]) (u2 S' 128 31 1) V' w2 ∧ P S' V') := by
    refine i_176_0 (x := 128) rfl ?_
    refine i_176_1 ?_
    refine i_176_2 (fs2 := mf (u1 (S 128) 31 0)) hR.c128 (Nat.le_of_ble_eq_true rfl) (mfs_31 (v := 0)) (by decide) ?_
    refine xgen (P := mR w0 (u2 S 128 31 0) V) hR.fld2 (fun w hR => ?_)
    refine i_176_5 rfl ?_
    refine i_176_6 rfl ?_
    refine i_176_7 rfl ?_
    refine i_176_8 rfl ?_
    refine i_176_10 rfl ?_
    obtain ⟨w2, S', V', hrun, hR2, hP⟩ := h w hR
    refine j_176_12 hR.c128 (Nat.le_of_ble_eq_true rfl) hrun (xDone.c (ci := 14) (hp := 16) xgl rfl rfl ?_)
    have hR := hR2.app (c := .inr (14, [])) (by rw [hR2.1.1]; exact hl)
    refine i_176_16 rfl ?_
    refine i_176_18 (x := 128) rfl ?_
    refine i_176_19 ?_
    refine i_176_20 (fs2 := mf (u1 (S' 128) 31 1)) hR.c128 (Nat.le_of_ble_eq_true rfl) (mfs_31 (v := 1)) (by decide) ?_
    refine xgen (P := mR (w0 ++ [.inr (14, [])]) (u2 S' 128 31 1) V') hR.fld2 (fun w hR => ?_)
    refine i_176_23 ?_
    exact i_176_24 ⟨rfl, S', V', hR, hP⟩
  obtain ⟨o, w2, h1, rfl, h2⟩ := key.run
  exact ⟨w2, h1, h2⟩
theorem w_193 {a0 : Int32} {a1 : Int32} {a2 : Int32} {a3 : Int32} {P : Int32 → xW → Prop} (hR : mR w0 S V w) (h : ∀ w1, mR w0 (u2 S 128 31 0) V w1 → ∃ v w2, xRun d 194 [Value.ref 128, Value.int a0, Value.int a1, Value.int a2, Value.int a3] w1 (.inl (some (.int v))) w2 ∧ P v w2) : ∃ v w2, xRun (d + 1) 193 [Value.ref 128, Value.int a0, Value.int a1, Value.int a2, Value.int a3] w (.inl (some (.int v))) w2 ∧ P v w2 := by
  have key : xEv (d + 1) 193 0 (lv_args 0 [Value.ref 128, Value.int a0, Value.int a1, Value.int a2, Value.int a3]) [] w (fun o w2 => ∃ v, o = .inl (some (.int v)) ∧ P v w2) := by
    refine i_193_0 (x := 128) rfl ?_
    refine i_193_1 ?_
    refine i_193_2 (fs2 := mf (u1 (S 128) 31 0)) hR.c128 (Nat.le_of_ble_eq_true rfl) (mfs_31 (v := 0)) (by decide) ?_
    refine xgen (P := mR w0 (u2 S 128 31 0) V) hR.fld2 (fun w hR => ?_)
    refine i_193_5 rfl ?_
    refine i_193_6 rfl ?_
    refine i_193_7 rfl ?_
    refine i_193_8 rfl ?_
    refine i_193_9 rfl ?_
    obtain ⟨v, w2, hrun, hP⟩ := h w hR
    refine i_193_11 hR.c128 (Nat.le_of_ble_eq_true rfl) hrun ?_
    exact i_193_14 ⟨v, rfl, hP⟩
  obtain ⟨o, w2, h1, v, rfl, h2⟩ := key.run
  exact ⟨v, w2, h1, h2⟩
theorem t_193_1 {a0 : Int32} {a1 : Int32} {a2 : Int32} {a3 : Int32} {P : (Nat → Nat → Int) → (Nat → Nat) → Prop} (hR : mR w0 S V w) (hl : 194 ≤ w0.length) (h : ∀ w1, mR w0 (u2 S 128 31 0) V w1 → ∃ w2 S' V', xRun d 194 [Value.ref 128, Value.int a0, Value.int a1, Value.int a2, Value.int a3] w1 (.inr w2.length) (w2 ++ [.inr (14, [])]) ∧ mR w0 S' V' w2 ∧ P S' V') : ∃ w2, xRun (d + 1) 193 [Value.ref 128, Value.int a0, Value.int a1, Value.int a2, Value.int a3] w (.inl (some (.int 0))) w2 ∧ ∃ S' V', mR (w0 ++ [.inr (14, [])]) (u2 S' 128 31 1) V' w2 ∧ P S' V' := by
  have key : xEv (d + 1) 193 0 (lv_args 0 [Value.ref 128, Value.int a0, Value.int a1, Value.int a2, Value.int a3]) [] w (fun o w2 => o = .inl (some (.int 0)) ∧ ∃ S' V', mR (w0 ++ [.inr (14, [])]) (u2 S' 128 31 1) V' w2 ∧ P S' V') := by
    refine i_193_0 (x := 128) rfl ?_
    refine i_193_1 ?_
    refine i_193_2 (fs2 := mf (u1 (S 128) 31 0)) hR.c128 (Nat.le_of_ble_eq_true rfl) (mfs_31 (v := 0)) (by decide) ?_
    refine xgen (P := mR w0 (u2 S 128 31 0) V) hR.fld2 (fun w hR => ?_)
    refine i_193_5 rfl ?_
    refine i_193_6 rfl ?_
    refine i_193_7 rfl ?_
    refine i_193_8 rfl ?_
    refine i_193_9 rfl ?_
    obtain ⟨w2, S', V', hrun, hR2, hP⟩ := h w hR
    refine j_193_11 hR.c128 (Nat.le_of_ble_eq_true rfl) hrun (xDone.c (ci := 14) (hp := 15) xgl rfl rfl ?_)
    have hR := hR2.app (c := .inr (14, [])) (by rw [hR2.1.1]; exact hl)
    refine i_193_15 rfl ?_
    refine i_193_17 (x := 128) rfl ?_
    refine i_193_18 ?_
    refine i_193_19 (fs2 := mf (u1 (S' 128) 31 1)) hR.c128 (Nat.le_of_ble_eq_true rfl) (mfs_31 (v := 1)) (by decide) ?_
    refine xgen (P := mR (w0 ++ [.inr (14, [])]) (u2 S' 128 31 1) V') hR.fld2 (fun w hR => ?_)
    refine i_193_22 ?_
    exact i_193_23 ⟨rfl, S', V', hR, hP⟩
  obtain ⟨o, w2, h1, rfl, h2⟩ := key.run
  exact ⟨w2, h1, h2⟩
theorem w_197 {a0 : Int32} {a1 : Int32} {a2 : Int32} {a3 : Int32} {a4 : Int32} {P : Int32 → xW → Prop} (hR : mR w0 S V w) (h : ∀ w1, mR w0 (u2 S 128 31 0) V w1 → ∃ v w2, xRun d 198 [Value.ref 128, Value.int a0, Value.int a1, Value.int a2, Value.int a3, Value.int a4] w1 (.inl (some (.int v))) w2 ∧ P v w2) : ∃ v w2, xRun (d + 1) 197 [Value.ref 128, Value.int a0, Value.int a1, Value.int a2, Value.int a3, Value.int a4] w (.inl (some (.int v))) w2 ∧ P v w2 := by
  have key : xEv (d + 1) 197 0 (lv_args 0 [Value.ref 128, Value.int a0, Value.int a1, Value.int a2, Value.int a3, Value.int a4]) [] w (fun o w2 => ∃ v, o = .inl (some (.int v)) ∧ P v w2) := by
    refine i_197_0 (x := 128) rfl ?_
    refine i_197_1 ?_
    refine i_197_2 (fs2 := mf (u1 (S 128) 31 0)) hR.c128 (Nat.le_of_ble_eq_true rfl) (mfs_31 (v := 0)) (by decide) ?_
    refine xgen (P := mR w0 (u2 S 128 31 0) V) hR.fld2 (fun w hR => ?_)
    refine i_197_5 rfl ?_
    refine i_197_6 rfl ?_
    refine i_197_7 rfl ?_
    refine i_197_8 rfl ?_
    refine i_197_9 rfl ?_
    refine i_197_11 rfl ?_
    obtain ⟨v, w2, hrun, hP⟩ := h w hR
    refine i_197_13 hR.c128 (Nat.le_of_ble_eq_true rfl) hrun ?_
    exact i_197_16 ⟨v, rfl, hP⟩
  obtain ⟨o, w2, h1, v, rfl, h2⟩ := key.run
  exact ⟨v, w2, h1, h2⟩
theorem t_197_1 {a0 : Int32} {a1 : Int32} {a2 : Int32} {a3 : Int32} {a4 : Int32} {P : (Nat → Nat → Int) → (Nat → Nat) → Prop} (hR : mR w0 S V w) (hl : 194 ≤ w0.length) (h : ∀ w1, mR w0 (u2 S 128 31 0) V w1 → ∃ w2 S' V', xRun d 198 [Value.ref 128, Value.int a0, Value.int a1, Value.int a2, Value.int a3, Value.int a4] w1 (.inr w2.length) (w2 ++ [.inr (14, [])]) ∧ mR w0 S' V' w2 ∧ P S' V') : ∃ w2, xRun (d + 1) 197 [Value.ref 128, Value.int a0, Value.int a1, Value.int a2, Value.int a3, Value.int a4] w (.inl (some (.int 0))) w2 ∧ ∃ S' V', mR (w0 ++ [.inr (14, [])]) (u2 S' 128 31 1) V' w2 ∧ P S' V' := by
  have key : xEv (d + 1) 197 0 (lv_args 0 [Value.ref 128, Value.int a0, Value.int a1, Value.int a2, Value.int a3, Value.int a4]) [] w (fun o w2 => o = .inl (some (.int 0)) ∧ ∃ S' V', mR (w0 ++ [.inr (14, [])]) (u2 S' 128 31 1) V' w2 ∧ P S' V') := by
    refine i_197_0 (x := 128) rfl ?_
    refine i_197_1 ?_
    refine i_197_2 (fs2 := mf (u1 (S 128) 31 0)) hR.c128 (Nat.le_of_ble_eq_true rfl) (mfs_31 (v := 0)) (by decide) ?_
    refine xgen (P := mR w0 (u2 S 128 31 0) V) hR.fld2 (fun w hR => ?_)
    refine i_197_5 rfl ?_
    refine i_197_6 rfl ?_
    refine i_197_7 rfl ?_
    refine i_197_8 rfl ?_
    refine i_197_9 rfl ?_
    refine i_197_11 rfl ?_
    obtain ⟨w2, S', V', hrun, hR2, hP⟩ := h w hR
    refine j_197_13 hR.c128 (Nat.le_of_ble_eq_true rfl) hrun (xDone.c (ci := 14) (hp := 17) xgl rfl rfl ?_)
    have hR := hR2.app (c := .inr (14, [])) (by rw [hR2.1.1]; exact hl)
    refine i_197_17 rfl ?_
    refine i_197_19 (x := 128) rfl ?_
    refine i_197_20 ?_
    refine i_197_21 (fs2 := mf (u1 (S' 128) 31 1)) hR.c128 (Nat.le_of_ble_eq_true rfl) (mfs_31 (v := 1)) (by decide) ?_
    refine xgen (P := mR (w0 ++ [.inr (14, [])]) (u2 S' 128 31 1) V') hR.fld2 (fun w hR => ?_)
    refine i_197_24 ?_
    exact i_197_25 ⟨rfl, S', V', hR, hP⟩
  obtain ⟨o, w2, h1, rfl, h2⟩ := key.run
  exact ⟨w2, h1, h2⟩
theorem w_220 {a0 : Int32} {a1 : Int32} {a2 : Int32} {a3 : Int32} {a4 : Int32} {P : Int32 → xW → Prop} (hR : mR w0 S V w) (h : ∀ w1, mR w0 (u2 S 128 31 0) V w1 → ∃ v w2, xRun d 221 [Value.ref 128, Value.int a0, Value.int a1, Value.int a2, Value.int a3, Value.int a4] w1 (.inl (some (.int v))) w2 ∧ P v w2) : ∃ v w2, xRun (d + 1) 220 [Value.ref 128, Value.int a0, Value.int a1, Value.int a2, Value.int a3, Value.int a4] w (.inl (some (.int v))) w2 ∧ P v w2 := by
  have key : xEv (d + 1) 220 0 (lv_args 0 [Value.ref 128, Value.int a0, Value.int a1, Value.int a2, Value.int a3, Value.int a4]) [] w (fun o w2 => ∃ v, o = .inl (some (.int v)) ∧ P v w2) := by
    refine i_220_0 (x := 128) rfl ?_
    refine i_220_1 ?_
    refine i_220_2 (fs2 := mf (u1 (S 128) 31 0)) hR.c128 (Nat.le_of_ble_eq_true rfl) (mfs_31 (v := 0)) (by decide) ?_
    refine xgen (P := mR w0 (u2 S 128 31 0) V) hR.fld2 (fun w hR => ?_)
    refine i_220_5 rfl ?_
    refine i_220_6 rfl ?_
    refine i_220_7 rfl ?_
    refine i_220_8 rfl ?_
    refine i_220_9 rfl ?_
    refine i_220_11 rfl ?_
    obtain ⟨v, w2, hrun, hP⟩ := h w hR
    refine i_220_13 hR.c128 (Nat.le_of_ble_eq_true rfl) hrun ?_
    exact i_220_16 ⟨v, rfl, hP⟩
  obtain ⟨o, w2, h1, v, rfl, h2⟩ := key.run
  exact ⟨v, w2, h1, h2⟩
theorem t_220_1 {a0 : Int32} {a1 : Int32} {a2 : Int32} {a3 : Int32} {a4 : Int32} {P : (Nat → Nat → Int) → (Nat → Nat) → Prop} (hR : mR w0 S V w) (hl : 194 ≤ w0.length) (h : ∀ w1, mR w0 (u2 S 128 31 0) V w1 → ∃ w2 S' V', xRun d 221 [Value.ref 128, Value.int a0, Value.int a1, Value.int a2, Value.int a3, Value.int a4] w1 (.inr w2.length) (w2 ++ [.inr (14, [])]) ∧ mR w0 S' V' w2 ∧ P S' V') : ∃ w2, xRun (d + 1) 220 [Value.ref 128, Value.int a0, Value.int a1, Value.int a2, Value.int a3, Value.int a4] w (.inl (some (.int 0))) w2 ∧ ∃ S' V', mR (w0 ++ [.inr (14, [])]) (u2 S' 128 31 1) V' w2 ∧ P S' V' := by
  have key : xEv (d + 1) 220 0 (lv_args 0 [Value.ref 128, Value.int a0, Value.int a1, Value.int a2, Value.int a3, Value.int a4]) [] w (fun o w2 => o = .inl (some (.int 0)) ∧ ∃ S' V', mR (w0 ++ [.inr (14, [])]) (u2 S' 128 31 1) V' w2 ∧ P S' V') := by
    refine i_220_0 (x := 128) rfl ?_
    refine i_220_1 ?_
    refine i_220_2 (fs2 := mf (u1 (S 128) 31 0)) hR.c128 (Nat.le_of_ble_eq_true rfl) (mfs_31 (v := 0)) (by decide) ?_
    refine xgen (P := mR w0 (u2 S 128 31 0) V) hR.fld2 (fun w hR => ?_)
    refine i_220_5 rfl ?_
    refine i_220_6 rfl ?_
    refine i_220_7 rfl ?_
    refine i_220_8 rfl ?_
    refine i_220_9 rfl ?_
    refine i_220_11 rfl ?_
    obtain ⟨w2, S', V', hrun, hR2, hP⟩ := h w hR
    refine j_220_13 hR.c128 (Nat.le_of_ble_eq_true rfl) hrun (xDone.c (ci := 14) (hp := 17) xgl rfl rfl ?_)
    have hR := hR2.app (c := .inr (14, [])) (by rw [hR2.1.1]; exact hl)
    refine i_220_17 rfl ?_
    refine i_220_19 (x := 128) rfl ?_
    refine i_220_20 ?_
    refine i_220_21 (fs2 := mf (u1 (S' 128) 31 1)) hR.c128 (Nat.le_of_ble_eq_true rfl) (mfs_31 (v := 1)) (by decide) ?_
    refine xgen (P := mR (w0 ++ [.inr (14, [])]) (u2 S' 128 31 1) V') hR.fld2 (fun w hR => ?_)
    refine i_220_24 ?_
    exact i_220_25 ⟨rfl, S', V', hR, hP⟩
  obtain ⟨o, w2, h1, rfl, h2⟩ := key.run
  exact ⟨w2, h1, h2⟩
theorem w_222 {a0 : Int32} {a1 : Int32} {a2 : Int32} {a3 : Int32} {P : Int32 → xW → Prop} (hR : mR w0 S V w) (h : ∀ w1, mR w0 (u2 S 128 31 0) V w1 → ∃ v w2, xRun d 223 [Value.ref 128, Value.int a0, Value.int a1, Value.int a2, Value.int a3] w1 (.inl (some (.int v))) w2 ∧ P v w2) : ∃ v w2, xRun (d + 1) 222 [Value.ref 128, Value.int a0, Value.int a1, Value.int a2, Value.int a3] w (.inl (some (.int v))) w2 ∧ P v w2 := by
  have key : xEv (d + 1) 222 0 (lv_args 0 [Value.ref 128, Value.int a0, Value.int a1, Value.int a2, Value.int a3]) [] w (fun o w2 => ∃ v, o = .inl (some (.int v)) ∧ P v w2) := by
    refine i_222_0 (x := 128) rfl ?_
    refine i_222_1 ?_
    refine i_222_2 (fs2 := mf (u1 (S 128) 31 0)) hR.c128 (Nat.le_of_ble_eq_true rfl) (mfs_31 (v := 0)) (by decide) ?_
    refine xgen (P := mR w0 (u2 S 128 31 0) V) hR.fld2 (fun w hR => ?_)
    refine i_222_5 rfl ?_
    refine i_222_6 rfl ?_
    refine i_222_7 rfl ?_
    refine i_222_8 rfl ?_
    refine i_222_9 rfl ?_
    obtain ⟨v, w2, hrun, hP⟩ := h w hR
    refine i_222_11 hR.c128 (Nat.le_of_ble_eq_true rfl) hrun ?_
    exact i_222_14 ⟨v, rfl, hP⟩
  obtain ⟨o, w2, h1, v, rfl, h2⟩ := key.run
  exact ⟨v, w2, h1, h2⟩
theorem t_222_1 {a0 : Int32} {a1 : Int32} {a2 : Int32} {a3 : Int32} {P : (Nat → Nat → Int) → (Nat → Nat) → Prop} (hR : mR w0 S V w) (hl : 194 ≤ w0.length) (h : ∀ w1, mR w0 (u2 S 128 31 0) V w1 → ∃ w2 S' V', xRun d 223 [Value.ref 128, Value.int a0, Value.int a1, Value.int a2, Value.int a3] w1 (.inr w2.length) (w2 ++ [.inr (14, [])]) ∧ mR w0 S' V' w2 ∧ P S' V') : ∃ w2, xRun (d + 1) 222 [Value.ref 128, Value.int a0, Value.int a1, Value.int a2, Value.int a3] w (.inl (some (.int 0))) w2 ∧ ∃ S' V', mR (w0 ++ [.inr (14, [])]) (u2 S' 128 31 1) V' w2 ∧ P S' V' := by
  have key : xEv (d + 1) 222 0 (lv_args 0 [Value.ref 128, Value.int a0, Value.int a1, Value.int a2, Value.int a3]) [] w (fun o w2 => o = .inl (some (.int 0)) ∧ ∃ S' V', mR (w0 ++ [.inr (14, [])]) (u2 S' 128 31 1) V' w2 ∧ P S' V') := by
    refine i_222_0 (x := 128) rfl ?_
    refine i_222_1 ?_
    refine i_222_2 (fs2 := mf (u1 (S 128) 31 0)) hR.c128 (Nat.le_of_ble_eq_true rfl) (mfs_31 (v := 0)) (by decide) ?_
    refine xgen (P := mR w0 (u2 S 128 31 0) V) hR.fld2 (fun w hR => ?_)
    refine i_222_5 rfl ?_
    refine i_222_6 rfl ?_
    refine i_222_7 rfl ?_
    refine i_222_8 rfl ?_
    refine i_222_9 rfl ?_
    obtain ⟨w2, S', V', hrun, hR2, hP⟩ := h w hR
    refine j_222_11 hR.c128 (Nat.le_of_ble_eq_true rfl) hrun (xDone.c (ci := 14) (hp := 15) xgl rfl rfl ?_)
    have hR := hR2.app (c := .inr (14, [])) (by rw [hR2.1.1]; exact hl)
    refine i_222_15 rfl ?_
    refine i_222_17 (x := 128) rfl ?_
    refine i_222_18 ?_
    refine i_222_19 (fs2 := mf (u1 (S' 128) 31 1)) hR.c128 (Nat.le_of_ble_eq_true rfl) (mfs_31 (v := 1)) (by decide) ?_
    refine xgen (P := mR (w0 ++ [.inr (14, [])]) (u2 S' 128 31 1) V') hR.fld2 (fun w hR => ?_)
    refine i_222_22 ?_
    exact i_222_23 ⟨rfl, S', V', hR, hP⟩
  obtain ⟨o, w2, h1, rfl, h2⟩ := key.run
  exact ⟨w2, h1, h2⟩
theorem w_224 {a0 : Int32} {a1 : Int32} {a2 : Int32} {a3 : Int32} {P : Int32 → xW → Prop} (hR : mR w0 S V w) (h : ∀ w1, mR w0 (u2 S 128 31 0) V w1 → ∃ v w2, xRun d 225 [Value.ref 128, Value.int a0, Value.int a1, Value.int a2, Value.int a3] w1 (.inl (some (.int v))) w2 ∧ P v w2) : ∃ v w2, xRun (d + 1) 224 [Value.ref 128, Value.int a0, Value.int a1, Value.int a2, Value.int a3] w (.inl (some (.int v))) w2 ∧ P v w2 := by
  have key : xEv (d + 1) 224 0 (lv_args 0 [Value.ref 128, Value.int a0, Value.int a1, Value.int a2, Value.int a3]) [] w (fun o w2 => ∃ v, o = .inl (some (.int v)) ∧ P v w2) := by
    refine i_224_0 (x := 128) rfl ?_
    refine i_224_1 ?_
    refine i_224_2 (fs2 := mf (u1 (S 128) 31 0)) hR.c128 (Nat.le_of_ble_eq_true rfl) (mfs_31 (v := 0)) (by decide) ?_
    refine xgen (P := mR w0 (u2 S 128 31 0) V) hR.fld2 (fun w hR => ?_)
    refine i_224_5 rfl ?_
    refine i_224_6 rfl ?_
    refine i_224_7 rfl ?_
    refine i_224_8 rfl ?_
    refine i_224_9 rfl ?_
    obtain ⟨v, w2, hrun, hP⟩ := h w hR
    refine i_224_11 hR.c128 (Nat.le_of_ble_eq_true rfl) hrun ?_
    exact i_224_14 ⟨v, rfl, hP⟩
  obtain ⟨o, w2, h1, v, rfl, h2⟩ := key.run
  exact ⟨v, w2, h1, h2⟩
theorem t_224_1 {a0 : Int32} {a1 : Int32} {a2 : Int32} {a3 : Int32} {P : (Nat → Nat → Int) → (Nat → Nat) → Prop} (hR : mR w0 S V w) (hl : 194 ≤ w0.length) (h : ∀ w1, mR w0 (u2 S 128 31 0) V w1 → ∃ w2 S' V', xRun d 225 [Value.ref 128, Value.int a0, Value.int a1, Value.int a2, Value.int a3] w1 (.inr w2.length) (w2 ++ [.inr (14, [])]) ∧ mR w0 S' V' w2 ∧ P S' V') : ∃ w2, xRun (d + 1) 224 [Value.ref 128, Value.int a0, Value.int a1, Value.int a2, Value.int a3] w (.inl (some (.int 0))) w2 ∧ ∃ S' V', mR (w0 ++ [.inr (14, [])]) (u2 S' 128 31 1) V' w2 ∧ P S' V' := by
  have key : xEv (d + 1) 224 0 (lv_args 0 [Value.ref 128, Value.int a0, Value.int a1, Value.int a2, Value.int a3]) [] w (fun o w2 => o = .inl (some (.int 0)) ∧ ∃ S' V', mR (w0 ++ [.inr (14, [])]) (u2 S' 128 31 1) V' w2 ∧ P S' V') := by
    refine i_224_0 (x := 128) rfl ?_
    refine i_224_1 ?_
    refine i_224_2 (fs2 := mf (u1 (S 128) 31 0)) hR.c128 (Nat.le_of_ble_eq_true rfl) (mfs_31 (v := 0)) (by decide) ?_
    refine xgen (P := mR w0 (u2 S 128 31 0) V) hR.fld2 (fun w hR => ?_)
    refine i_224_5 rfl ?_
    refine i_224_6 rfl ?_
    refine i_224_7 rfl ?_
    refine i_224_8 rfl ?_
    refine i_224_9 rfl ?_
    obtain ⟨w2, S', V', hrun, hR2, hP⟩ := h w hR
    refine j_224_11 hR.c128 (Nat.le_of_ble_eq_true rfl) hrun (xDone.c (ci := 14) (hp := 15) xgl rfl rfl ?_)
    have hR := hR2.app (c := .inr (14, [])) (by rw [hR2.1.1]; exact hl)
    refine i_224_15 rfl ?_
    refine i_224_17 (x := 128) rfl ?_
    refine i_224_18 ?_
    refine i_224_19 (fs2 := mf (u1 (S' 128) 31 1)) hR.c128 (Nat.le_of_ble_eq_true rfl) (mfs_31 (v := 1)) (by decide) ?_
    refine xgen (P := mR (w0 ++ [.inr (14, [])]) (u2 S' 128 31 1) V') hR.fld2 (fun w hR => ?_)
    refine i_224_22 ?_
    exact i_224_23 ⟨rfl, S', V', hR, hP⟩
  obtain ⟨o, w2, h1, rfl, h2⟩ := key.run
  exact ⟨w2, h1, h2⟩
theorem w_226 {a0 : Int32} {a1 : Int32} {a2 : Int32} {a3 : Int32} {P : Int32 → xW → Prop} (hR : mR w0 S V w) (h : ∀ w1, mR w0 (u2 S 128 31 0) V w1 → ∃ v w2, xRun d 227 [Value.ref 128, Value.int a0, Value.int a1, Value.int a2, Value.int a3] w1 (.inl (some (.int v))) w2 ∧ P v w2) : ∃ v w2, xRun (d + 1) 226 [Value.ref 128, Value.int a0, Value.int a1, Value.int a2, Value.int a3] w (.inl (some (.int v))) w2 ∧ P v w2 := by
  have key : xEv (d + 1) 226 0 (lv_args 0 [Value.ref 128, Value.int a0, Value.int a1, Value.int a2, Value.int a3]) [] w (fun o w2 => ∃ v, o = .inl (some (.int v)) ∧ P v w2) := by
    refine i_226_0 (x := 128) rfl ?_
    refine i_226_1 ?_
    refine i_226_2 (fs2 := mf (u1 (S 128) 31 0)) hR.c128 (Nat.le_of_ble_eq_true rfl) (mfs_31 (v := 0)) (by decide) ?_
    refine xgen (P := mR w0 (u2 S 128 31 0) V) hR.fld2 (fun w hR => ?_)
    refine i_226_5 rfl ?_
    refine i_226_6 rfl ?_
    refine i_226_7 rfl ?_
    refine i_226_8 rfl ?_
    refine i_226_9 rfl ?_
    obtain ⟨v, w2, hrun, hP⟩ := h w hR
    refine i_226_11 hR.c128 (Nat.le_of_ble_eq_true rfl) hrun ?_
    exact i_226_14 ⟨v, rfl, hP⟩
  obtain ⟨o, w2, h1, v, rfl, h2⟩ := key.run
  exact ⟨v, w2, h1, h2⟩
theorem t_226_1 {a0 : Int32} {a1 : Int32} {a2 : Int32} {a3 : Int32} {P : (Nat → Nat → Int) → (Nat → Nat) → Prop} (hR : mR w0 S V w) (hl : 194 ≤ w0.length) (h : ∀ w1, mR w0 (u2 S 128 31 0) V w1 → ∃ w2 S' V', xRun d 227 [Value.ref 128, Value.int a0, Value.int a1, Value.int a2, Value.int a3] w1 (.inr w2.length) (w2 ++ [.inr (14, [])]) ∧ mR w0 S' V' w2 ∧ P S' V') : ∃ w2, xRun (d + 1) 226 [Value.ref 128, Value.int a0, Value.int a1, Value.int a2, Value.int a3] w (.inl (some (.int 0))) w2 ∧ ∃ S' V', mR (w0 ++ [.inr (14, [])]) (u2 S' 128 31 1) V' w2 ∧ P S' V' := by
  have key : xEv (d + 1) 226 0 (lv_args 0 [Value.ref 128, Value.int a0, Value.int a1, Value.int a2, Value.int a3]) [] w (fun o w2 => o = .inl (some (.int 0)) ∧ ∃ S' V', mR (w0 ++ [.inr (14, [])]) (u2 S' 128 31 1) V' w2 ∧ P S' V') := by
    refine i_226_0 (x := 128) rfl ?_
    refine i_226_1 ?_
    refine i_226_2 (fs2 := mf (u1 (S 128) 31 0)) hR.c128 (Nat.le_of_ble_eq_true rfl) (mfs_31 (v := 0)) (by decide) ?_
    refine xgen (P := mR w0 (u2 S 128 31 0) V) hR.fld2 (fun w hR => ?_)
    refine i_226_5 rfl ?_
    refine i_226_6 rfl ?_
    refine i_226_7 rfl ?_
    refine i_226_8 rfl ?_
    refine i_226_9 rfl ?_
    obtain ⟨w2, S', V', hrun, hR2, hP⟩ := h w hR
    refine j_226_11 hR.c128 (Nat.le_of_ble_eq_true rfl) hrun (xDone.c (ci := 14) (hp := 15) xgl rfl rfl ?_)
    have hR := hR2.app (c := .inr (14, [])) (by rw [hR2.1.1]; exact hl)
    refine i_226_15 rfl ?_
    refine i_226_17 (x := 128) rfl ?_
    refine i_226_18 ?_
    refine i_226_19 (fs2 := mf (u1 (S' 128) 31 1)) hR.c128 (Nat.le_of_ble_eq_true rfl) (mfs_31 (v := 1)) (by decide) ?_
    refine xgen (P := mR (w0 ++ [.inr (14, [])]) (u2 S' 128 31 1) V') hR.fld2 (fun w hR => ?_)
    refine i_226_22 ?_
    exact i_226_23 ⟨rfl, S', V', hR, hP⟩
  obtain ⟨o, w2, h1, rfl, h2⟩ := key.run
  exact ⟨w2, h1, h2⟩
theorem w_228 {a0 : Int32} {a1 : Int32} {a2 : Int32} {a3 : Int32} {P : Int32 → xW → Prop} (hR : mR w0 S V w) (h : ∀ w1, mR w0 (u2 S 128 31 0) V w1 → ∃ v w2, xRun d 229 [Value.ref 128, Value.int a0, Value.int a1, Value.int a2, Value.int a3] w1 (.inl (some (.int v))) w2 ∧ P v w2) : ∃ v w2, xRun (d + 1) 228 [Value.ref 128, Value.int a0, Value.int a1, Value.int a2, Value.int a3] w (.inl (some (.int v))) w2 ∧ P v w2 := by
  have key : xEv (d + 1) 228 0 (lv_args 0 [Value.ref 128, Value.int a0, Value.int a1, Value.int a2, Value.int a3]) [] w (fun o w2 => ∃ v, o = .inl (some (.int v)) ∧ P v w2) := by
    refine i_228_0 (x := 128) rfl ?_
    refine i_228_1 ?_
    refine i_228_2 (fs2 := mf (u1 (S 128) 31 0)) hR.c128 (Nat.le_of_ble_eq_true rfl) (mfs_31 (v := 0)) (by decide) ?_
    refine xgen (P := mR w0 (u2 S 128 31 0) V) hR.fld2 (fun w hR => ?_)
    refine i_228_5 rfl ?_
    refine i_228_6 rfl ?_
    refine i_228_7 rfl ?_
    refine i_228_8 rfl ?_
    refine i_228_9 rfl ?_
    obtain ⟨v, w2, hrun, hP⟩ := h w hR
    refine i_228_11 hR.c128 (Nat.le_of_ble_eq_true rfl) hrun ?_
    exact i_228_14 ⟨v, rfl, hP⟩
  obtain ⟨o, w2, h1, v, rfl, h2⟩ := key.run
  exact ⟨v, w2, h1, h2⟩
theorem t_228_1 {a0 : Int32} {a1 : Int32} {a2 : Int32} {a3 : Int32} {P : (Nat → Nat → Int) → (Nat → Nat) → Prop} (hR : mR w0 S V w) (hl : 194 ≤ w0.length) (h : ∀ w1, mR w0 (u2 S 128 31 0) V w1 → ∃ w2 S' V', xRun d 229 [Value.ref 128, Value.int a0, Value.int a1, Value.int a2, Value.int a3] w1 (.inr w2.length) (w2 ++ [.inr (14, [])]) ∧ mR w0 S' V' w2 ∧ P S' V') : ∃ w2, xRun (d + 1) 228 [Value.ref 128, Value.int a0, Value.int a1, Value.int a2, Value.int a3] w (.inl (some (.int 0))) w2 ∧ ∃ S' V', mR (w0 ++ [.inr (14, [])]) (u2 S' 128 31 1) V' w2 ∧ P S' V' := by
  have key : xEv (d + 1) 228 0 (lv_args 0 [Value.ref 128, Value.int a0, Value.int a1, Value.int a2, Value.int a3]) [] w (fun o w2 => o = .inl (some (.int 0)) ∧ ∃ S' V', mR (w0 ++ [.inr (14, [])]) (u2 S' 128 31 1) V' w2 ∧ P S' V') := by
    refine i_228_0 (x := 128) rfl ?_
    refine i_228_1 ?_
    refine i_228_2 (fs2 := mf (u1 (S 128) 31 0)) hR.c128 (Nat.le_of_ble_eq_true rfl) (mfs_31 (v := 0)) (by decide) ?_
    refine xgen (P := mR w0 (u2 S 128 31 0) V) hR.fld2 (fun w hR => ?_)
    refine i_228_5 rfl ?_
    refine i_228_6 rfl ?_
    refine i_228_7 rfl ?_
    refine i_228_8 rfl ?_
    refine i_228_9 rfl ?_
    obtain ⟨w2, S', V', hrun, hR2, hP⟩ := h w hR
    refine j_228_11 hR.c128 (Nat.le_of_ble_eq_true rfl) hrun (xDone.c (ci := 14) (hp := 15) xgl rfl rfl ?_)
    have hR := hR2.app (c := .inr (14, [])) (by rw [hR2.1.1]; exact hl)
    refine i_228_15 rfl ?_
    refine i_228_17 (x := 128) rfl ?_
    refine i_228_18 ?_
    refine i_228_19 (fs2 := mf (u1 (S' 128) 31 1)) hR.c128 (Nat.le_of_ble_eq_true rfl) (mfs_31 (v := 1)) (by decide) ?_
    refine xgen (P := mR (w0 ++ [.inr (14, [])]) (u2 S' 128 31 1) V') hR.fld2 (fun w hR => ?_)
    refine i_228_22 ?_
    exact i_228_23 ⟨rfl, S', V', hR, hP⟩
  obtain ⟨o, w2, h1, rfl, h2⟩ := key.run
  exact ⟨w2, h1, h2⟩
theorem w_230 {a0 : Int32} {a1 : Int32} {a2 : Int32} {a3 : Int32} {a4 : Int32} {P : Int32 → xW → Prop} (hR : mR w0 S V w) (h : ∀ w1, mR w0 (u2 S 128 31 0) V w1 → ∃ v w2, xRun d 231 [Value.ref 128, Value.int a0, Value.int a1, Value.int a2, Value.int a3, Value.int a4] w1 (.inl (some (.int v))) w2 ∧ P v w2) : ∃ v w2, xRun (d + 1) 230 [Value.ref 128, Value.int a0, Value.int a1, Value.int a2, Value.int a3, Value.int a4] w (.inl (some (.int v))) w2 ∧ P v w2 := by
  have key : xEv (d + 1) 230 0 (lv_args 0 [Value.ref 128, Value.int a0, Value.int a1, Value.int a2, Value.int a3, Value.int a4]) [] w (fun o w2 => ∃ v, o = .inl (some (.int v)) ∧ P v w2) := by
    refine i_230_0 (x := 128) rfl ?_
    refine i_230_1 ?_
    refine i_230_2 (fs2 := mf (u1 (S 128) 31 0)) hR.c128 (Nat.le_of_ble_eq_true rfl) (mfs_31 (v := 0)) (by decide) ?_
    refine xgen (P := mR w0 (u2 S 128 31 0) V) hR.fld2 (fun w hR => ?_)
    refine i_230_5 rfl ?_
    refine i_230_6 rfl ?_
    refine i_230_7 rfl ?_
    refine i_230_8 rfl ?_
    refine i_230_9 rfl ?_
    refine i_230_11 rfl ?_
    obtain ⟨v, w2, hrun, hP⟩ := h w hR
    refine i_230_13 hR.c128 (Nat.le_of_ble_eq_true rfl) hrun ?_
    exact i_230_16 ⟨v, rfl, hP⟩
  obtain ⟨o, w2, h1, v, rfl, h2⟩ := key.run
  exact ⟨v, w2, h1, h2⟩
theorem t_230_1 {a0 : Int32} {a1 : Int32} {a2 : Int32} {a3 : Int32} {a4 : Int32} {P : (Nat → Nat → Int) → (Nat → Nat) → Prop} (hR : mR w0 S V w) (hl : 194 ≤ w0.length) (h : ∀ w1, mR w0 (u2 S 128 31 0) V w1 → ∃ w2 S' V', xRun d 231 [Value.ref 128, Value.int a0, Value.int a1, Value.int a2, Value.int a3, Value.int a4] w1 (.inr w2.length) (w2 ++ [.inr (14, [])]) ∧ mR w0 S' V' w2 ∧ P S' V') : ∃ w2, xRun (d + 1) 230 [Value.ref 128, Value.int a0, Value.int a1, Value.int a2, Value.int a3, Value.int a4] w (.inl (some (.int 0))) w2 ∧ ∃ S' V', mR (w0 ++ [.inr (14, [])]) (u2 S' 128 31 1) V' w2 ∧ P S' V' := by
  have key : xEv (d + 1) 230 0 (lv_args 0 [Value.ref 128, Value.int a0, Value.int a1, Value.int a2, Value.int a3, Value.int a4]) [] w (fun o w2 => o = .inl (some (.int 0)) ∧ ∃ S' V', mR (w0 ++ [.inr (14, [])]) (u2 S' 128 31 1) V' w2 ∧ P S' V') := by
    refine i_230_0 (x := 128) rfl ?_
    refine i_230_1 ?_
    refine i_230_2 (fs2 := mf (u1 (S 128) 31 0)) hR.c128 (Nat.le_of_ble_eq_true rfl) (mfs_31 (v := 0)) (by decide) ?_
    refine xgen (P := mR w0 (u2 S 128 31 0) V) hR.fld2 (fun w hR => ?_)
    refine i_230_5 rfl ?_
    refine i_230_6 rfl ?_
    refine i_230_7 rfl ?_
    refine i_230_8 rfl ?_
    refine i_230_9 rfl ?_
    refine i_230_11 rfl ?_
    obtain ⟨w2, S', V', hrun, hR2, hP⟩ := h w hR
    refine j_230_13 hR.c128 (Nat.le_of_ble_eq_true rfl) hrun (xDone.c (ci := 14) (hp := 17) xgl rfl rfl ?_)
    have hR := hR2.app (c := .inr (14, [])) (by rw [hR2.1.1]; exact hl)
    refine i_230_17 rfl ?_
    refine i_230_19 (x := 128) rfl ?_
    refine i_230_20 ?_
    refine i_230_21 (fs2 := mf (u1 (S' 128) 31 1)) hR.c128 (Nat.le_of_ble_eq_true rfl) (mfs_31 (v := 1)) (by decide) ?_
    refine xgen (P := mR (w0 ++ [.inr (14, [])]) (u2 S' 128 31 1) V') hR.fld2 (fun w hR => ?_)
    refine i_230_24 ?_
    exact i_230_25 ⟨rfl, S', V', hR, hP⟩
  obtain ⟨o, w2, h1, rfl, h2⟩ := key.run
  exact ⟨w2, h1, h2⟩
theorem w_232 {a0 : Int32} {a1 : Int32} {P : Int32 → xW → Prop} (hR : mR w0 S V w) (h : ∀ w1, mR w0 (u2 S 128 31 0) V w1 → ∃ v w2, xRun d 233 [Value.ref 128, Value.int a0, Value.int a1] w1 (.inl (some (.int v))) w2 ∧ P v w2) : ∃ v w2, xRun (d + 1) 232 [Value.ref 128, Value.int a0, Value.int a1] w (.inl (some (.int v))) w2 ∧ P v w2 := by
  have key : xEv (d + 1) 232 0 (lv_args 0 [Value.ref 128, Value.int a0, Value.int a1]) [] w (fun o w2 => ∃ v, o = .inl (some (.int v)) ∧ P v w2) := by
    refine i_232_0 (x := 128) rfl ?_
    refine i_232_1 ?_
    refine i_232_2 (fs2 := mf (u1 (S 128) 31 0)) hR.c128 (Nat.le_of_ble_eq_true rfl) (mfs_31 (v := 0)) (by decide) ?_
    refine xgen (P := mR w0 (u2 S 128 31 0) V) hR.fld2 (fun w hR => ?_)
    refine i_232_5 rfl ?_
    refine i_232_6 rfl ?_
    refine i_232_7 rfl ?_
    obtain ⟨v, w2, hrun, hP⟩ := h w hR
    refine i_232_8 hR.c128 (Nat.le_of_ble_eq_true rfl) hrun ?_
    exact i_232_11 ⟨v, rfl, hP⟩
  obtain ⟨o, w2, h1, v, rfl, h2⟩ := key.run
  exact ⟨v, w2, h1, h2⟩
theorem t_232_1 {a0 : Int32} {a1 : Int32} {P : (Nat → Nat → Int) → (Nat → Nat) → Prop} (hR : mR w0 S V w) (hl : 194 ≤ w0.length) (h : ∀ w1, mR w0 (u2 S 128 31 0) V w1 → ∃ w2 S' V', xRun d 233 [Value.ref 128, Value.int a0, Value.int a1] w1 (.inr w2.length) (w2 ++ [.inr (14, [])]) ∧ mR w0 S' V' w2 ∧ P S' V') : ∃ w2, xRun (d + 1) 232 [Value.ref 128, Value.int a0, Value.int a1] w (.inl (some (.int 0))) w2 ∧ ∃ S' V', mR (w0 ++ [.inr (14, [])]) (u2 S' 128 31 1) V' w2 ∧ P S' V' := by
  have key : xEv (d + 1) 232 0 (lv_args 0 [Value.ref 128, Value.int a0, Value.int a1]) [] w (fun o w2 => o = .inl (some (.int 0)) ∧ ∃ S' V', mR (w0 ++ [.inr (14, [])]) (u2 S' 128 31 1) V' w2 ∧ P S' V') := by
    refine i_232_0 (x := 128) rfl ?_
    refine i_232_1 ?_
    refine i_232_2 (fs2 := mf (u1 (S 128) 31 0)) hR.c128 (Nat.le_of_ble_eq_true rfl) (mfs_31 (v := 0)) (by decide) ?_
    refine xgen (P := mR w0 (u2 S 128 31 0) V) hR.fld2 (fun w hR => ?_)
    refine i_232_5 rfl ?_
    refine i_232_6 rfl ?_
    refine i_232_7 rfl ?_
    obtain ⟨w2, S', V', hrun, hR2, hP⟩ := h w hR
    refine j_232_8 hR.c128 (Nat.le_of_ble_eq_true rfl) hrun (xDone.c (ci := 14) (hp := 12) xgl rfl rfl ?_)
    have hR := hR2.app (c := .inr (14, [])) (by rw [hR2.1.1]; exact hl)
    refine i_232_12 rfl ?_
    refine i_232_13 (x := 128) rfl ?_
    refine i_232_14 ?_
    refine i_232_15 (fs2 := mf (u1 (S' 128) 31 1)) hR.c128 (Nat.le_of_ble_eq_true rfl) (mfs_31 (v := 1)) (by decide) ?_
    refine xgen (P := mR (w0 ++ [.inr (14, [])]) (u2 S' 128 31 1) V') hR.fld2 (fun w hR => ?_)
    refine i_232_18 ?_
    exact i_232_19 ⟨rfl, S', V', hR, hP⟩
  obtain ⟨o, w2, h1, rfl, h2⟩ := key.run
  exact ⟨w2, h1, h2⟩
theorem w_237 {a0 : Int32} {a1 : Int32} {P : Int32 → xW → Prop} (hR : mR w0 S V w) (h : ∀ w1, mR w0 (u2 S 128 31 0) V w1 → ∃ v w2, xRun d 238 [Value.ref 128, Value.int a0, Value.int a1] w1 (.inl (some (.int v))) w2 ∧ P v w2) : ∃ v w2, xRun (d + 1) 237 [Value.ref 128, Value.int a0, Value.int a1] w (.inl (some (.int v))) w2 ∧ P v w2 := by
  have key : xEv (d + 1) 237 0 (lv_args 0 [Value.ref 128, Value.int a0, Value.int a1]) [] w (fun o w2 => ∃ v, o = .inl (some (.int v)) ∧ P v w2) := by
    refine i_237_0 (x := 128) rfl ?_
    refine i_237_1 ?_
    refine i_237_2 (fs2 := mf (u1 (S 128) 31 0)) hR.c128 (Nat.le_of_ble_eq_true rfl) (mfs_31 (v := 0)) (by decide) ?_
    refine xgen (P := mR w0 (u2 S 128 31 0) V) hR.fld2 (fun w hR => ?_)
    refine i_237_5 rfl ?_
    refine i_237_6 rfl ?_
    refine i_237_7 rfl ?_
    obtain ⟨v, w2, hrun, hP⟩ := h w hR
    refine i_237_8 hR.c128 (Nat.le_of_ble_eq_true rfl) hrun ?_
    exact i_237_11 ⟨v, rfl, hP⟩
  obtain ⟨o, w2, h1, v, rfl, h2⟩ := key.run
  exact ⟨v, w2, h1, h2⟩
theorem t_237_1 {a0 : Int32} {a1 : Int32} {P : (Nat → Nat → Int) → (Nat → Nat) → Prop} (hR : mR w0 S V w) (hl : 194 ≤ w0.length) (h : ∀ w1, mR w0 (u2 S 128 31 0) V w1 → ∃ w2 S' V', xRun d 238 [Value.ref 128, Value.int a0, Value.int a1] w1 (.inr w2.length) (w2 ++ [.inr (14, [])]) ∧ mR w0 S' V' w2 ∧ P S' V') : ∃ w2, xRun (d + 1) 237 [Value.ref 128, Value.int a0, Value.int a1] w (.inl (some (.int 0))) w2 ∧ ∃ S' V', mR (w0 ++ [.inr (14, [])]) (u2 S' 128 31 1) V' w2 ∧ P S' V' := by
  have key : xEv (d + 1) 237 0 (lv_args 0 [Value.ref 128, Value.int a0, Value.int a1]) [] w (fun o w2 => o = .inl (some (.int 0)) ∧ ∃ S' V', mR (w0 ++ [.inr (14, [])]) (u2 S' 128 31 1) V' w2 ∧ P S' V') := by
    refine i_237_0 (x := 128) rfl ?_
    refine i_237_1 ?_
    refine i_237_2 (fs2 := mf (u1 (S 128) 31 0)) hR.c128 (Nat.le_of_ble_eq_true rfl) (mfs_31 (v := 0)) (by decide) ?_
    refine xgen (P := mR w0 (u2 S 128 31 0) V) hR.fld2 (fun w hR => ?_)
    refine i_237_5 rfl ?_
    refine i_237_6 rfl ?_
    refine i_237_7 rfl ?_
    obtain ⟨w2, S', V', hrun, hR2, hP⟩ := h w hR
    refine j_237_8 hR.c128 (Nat.le_of_ble_eq_true rfl) hrun (xDone.c (ci := 14) (hp := 12) xgl rfl rfl ?_)
    have hR := hR2.app (c := .inr (14, [])) (by rw [hR2.1.1]; exact hl)
    refine i_237_12 rfl ?_
    refine i_237_13 (x := 128) rfl ?_
    refine i_237_14 ?_
    refine i_237_15 (fs2 := mf (u1 (S' 128) 31 1)) hR.c128 (Nat.le_of_ble_eq_true rfl) (mfs_31 (v := 1)) (by decide) ?_
    refine xgen (P := mR (w0 ++ [.inr (14, [])]) (u2 S' 128 31 1) V') hR.fld2 (fun w hR => ?_)
    refine i_237_18 ?_
    refine i_237_27 ?_
    exact i_237_28 ⟨rfl, S', V', hR, hP⟩
  obtain ⟨o, w2, h1, rfl, h2⟩ := key.run
  exact ⟨w2, h1, h2⟩
theorem t_237_2 {a0 : Int32} {a1 : Int32} {P : (Nat → Nat → Int) → (Nat → Nat) → Prop} (hR : mR w0 S V w) (hl : 194 ≤ w0.length) (h : ∀ w1, mR w0 (u2 S 128 31 0) V w1 → ∃ w2 S' V', xRun d 238 [Value.ref 128, Value.int a0, Value.int a1] w1 (.inr w2.length) (w2 ++ [.inr (15, [])]) ∧ mR w0 S' V' w2 ∧ P S' V') : ∃ w2, xRun (d + 1) 237 [Value.ref 128, Value.int a0, Value.int a1] w (.inl (some (.int 0))) w2 ∧ ∃ S' V', mR (w0 ++ [.inr (15, [])]) (u2 S' 128 31 2) V' w2 ∧ P S' V' := by
  have key : xEv (d + 1) 237 0 (lv_args 0 [Value.ref 128, Value.int a0, Value.int a1]) [] w (fun o w2 => o = .inl (some (.int 0)) ∧ ∃ S' V', mR (w0 ++ [.inr (15, [])]) (u2 S' 128 31 2) V' w2 ∧ P S' V') := by
    refine i_237_0 (x := 128) rfl ?_
    refine i_237_1 ?_
    refine i_237_2 (fs2 := mf (u1 (S 128) 31 0)) hR.c128 (Nat.le_of_ble_eq_true rfl) (mfs_31 (v := 0)) (by decide) ?_
    refine xgen (P := mR w0 (u2 S 128 31 0) V) hR.fld2 (fun w hR => ?_)
    refine i_237_5 rfl ?_
    refine i_237_6 rfl ?_
    refine i_237_7 rfl ?_
    obtain ⟨w2, S', V', hrun, hR2, hP⟩ := h w hR
    refine j_237_8 hR.c128 (Nat.le_of_ble_eq_true rfl) hrun (xDone.c (ci := 15) (hp := 21) xgl rfl rfl ?_)
    have hR := hR2.app (c := .inr (15, [])) (by rw [hR2.1.1]; exact hl)
    refine i_237_21 rfl ?_
    refine i_237_22 (x := 128) rfl ?_
    refine i_237_23 ?_
    refine i_237_24 (fs2 := mf (u1 (S' 128) 31 2)) hR.c128 (Nat.le_of_ble_eq_true rfl) (mfs_31 (v := 2)) (by decide) ?_
    refine xgen (P := mR (w0 ++ [.inr (15, [])]) (u2 S' 128 31 2) V') hR.fld2 (fun w hR => ?_)
    refine i_237_27 ?_
    exact i_237_28 ⟨rfl, S', V', hR, hP⟩
  obtain ⟨o, w2, h1, rfl, h2⟩ := key.run
  exact ⟨w2, h1, h2⟩
theorem w_242 {a0 : Int32} {a1 : Int32} {P : Int32 → xW → Prop} (hR : mR w0 S V w) (h : ∀ w1, mR w0 (u2 S 128 31 0) V w1 → ∃ v w2, xRun d 243 [Value.ref 128, Value.int a0, Value.int a1] w1 (.inl (some (.int v))) w2 ∧ P v w2) : ∃ v w2, xRun (d + 1) 242 [Value.ref 128, Value.int a0, Value.int a1] w (.inl (some (.int v))) w2 ∧ P v w2 := by
  have key : xEv (d + 1) 242 0 (lv_args 0 [Value.ref 128, Value.int a0, Value.int a1]) [] w (fun o w2 => ∃ v, o = .inl (some (.int v)) ∧ P v w2) := by
    refine i_242_0 (x := 128) rfl ?_
    refine i_242_1 ?_
    refine i_242_2 (fs2 := mf (u1 (S 128) 31 0)) hR.c128 (Nat.le_of_ble_eq_true rfl) (mfs_31 (v := 0)) (by decide) ?_
    refine xgen (P := mR w0 (u2 S 128 31 0) V) hR.fld2 (fun w hR => ?_)
    refine i_242_5 rfl ?_
    refine i_242_6 rfl ?_
    refine i_242_7 rfl ?_
    obtain ⟨v, w2, hrun, hP⟩ := h w hR
    refine i_242_8 hR.c128 (Nat.le_of_ble_eq_true rfl) hrun ?_
    exact i_242_11 ⟨v, rfl, hP⟩
  obtain ⟨o, w2, h1, v, rfl, h2⟩ := key.run
  exact ⟨v, w2, h1, h2⟩
theorem t_242_1 {a0 : Int32} {a1 : Int32} {P : (Nat → Nat → Int) → (Nat → Nat) → Prop} (hR : mR w0 S V w) (hl : 194 ≤ w0.length) (h : ∀ w1, mR w0 (u2 S 128 31 0) V w1 → ∃ w2 S' V', xRun d 243 [Value.ref 128, Value.int a0, Value.int a1] w1 (.inr w2.length) (w2 ++ [.inr (14, [])]) ∧ mR w0 S' V' w2 ∧ P S' V') : ∃ w2, xRun (d + 1) 242 [Value.ref 128, Value.int a0, Value.int a1] w (.inl (some (.int 0))) w2 ∧ ∃ S' V', mR (w0 ++ [.inr (14, [])]) (u2 S' 128 31 1) V' w2 ∧ P S' V' := by
  have key : xEv (d + 1) 242 0 (lv_args 0 [Value.ref 128, Value.int a0, Value.int a1]) [] w (fun o w2 => o = .inl (some (.int 0)) ∧ ∃ S' V', mR (w0 ++ [.inr (14, [])]) (u2 S' 128 31 1) V' w2 ∧ P S' V') := by
    refine i_242_0 (x := 128) rfl ?_
    refine i_242_1 ?_
    refine i_242_2 (fs2 := mf (u1 (S 128) 31 0)) hR.c128 (Nat.le_of_ble_eq_true rfl) (mfs_31 (v := 0)) (by decide) ?_
    refine xgen (P := mR w0 (u2 S 128 31 0) V) hR.fld2 (fun w hR => ?_)
    refine i_242_5 rfl ?_
    refine i_242_6 rfl ?_
    refine i_242_7 rfl ?_
    obtain ⟨w2, S', V', hrun, hR2, hP⟩ := h w hR
    refine j_242_8 hR.c128 (Nat.le_of_ble_eq_true rfl) hrun (xDone.c (ci := 14) (hp := 12) xgl rfl rfl ?_)
    have hR := hR2.app (c := .inr (14, [])) (by rw [hR2.1.1]; exact hl)
    refine i_242_12 rfl ?_
    refine i_242_13 (x := 128) rfl ?_
    refine i_242_14 ?_
    refine i_242_15 (fs2 := mf (u1 (S' 128) 31 1)) hR.c128 (Nat.le_of_ble_eq_true rfl) (mfs_31 (v := 1)) (by decide) ?_
    refine xgen (P := mR (w0 ++ [.inr (14, [])]) (u2 S' 128 31 1) V') hR.fld2 (fun w hR => ?_)
    refine i_242_18 ?_
    refine i_242_27 ?_
    exact i_242_28 ⟨rfl, S', V', hR, hP⟩
  obtain ⟨o, w2, h1, rfl, h2⟩ := key.run
  exact ⟨w2, h1, h2⟩
theorem t_242_2 {a0 : Int32} {a1 : Int32} {P : (Nat → Nat → Int) → (Nat → Nat) → Prop} (hR : mR w0 S V w) (hl : 194 ≤ w0.length) (h : ∀ w1, mR w0 (u2 S 128 31 0) V w1 → ∃ w2 S' V', xRun d 243 [Value.ref 128, Value.int a0, Value.int a1] w1 (.inr w2.length) (w2 ++ [.inr (16, [])]) ∧ mR w0 S' V' w2 ∧ P S' V') : ∃ w2, xRun (d + 1) 242 [Value.ref 128, Value.int a0, Value.int a1] w (.inl (some (.int 0))) w2 ∧ ∃ S' V', mR (w0 ++ [.inr (16, [])]) (u2 S' 128 31 2) V' w2 ∧ P S' V' := by
  have key : xEv (d + 1) 242 0 (lv_args 0 [Value.ref 128, Value.int a0, Value.int a1]) [] w (fun o w2 => o = .inl (some (.int 0)) ∧ ∃ S' V', mR (w0 ++ [.inr (16, [])]) (u2 S' 128 31 2) V' w2 ∧ P S' V') := by
    refine i_242_0 (x := 128) rfl ?_
    refine i_242_1 ?_
    refine i_242_2 (fs2 := mf (u1 (S 128) 31 0)) hR.c128 (Nat.le_of_ble_eq_true rfl) (mfs_31 (v := 0)) (by decide) ?_
    refine xgen (P := mR w0 (u2 S 128 31 0) V) hR.fld2 (fun w hR => ?_)
    refine i_242_5 rfl ?_
    refine i_242_6 rfl ?_
    refine i_242_7 rfl ?_
    obtain ⟨w2, S', V', hrun, hR2, hP⟩ := h w hR
    refine j_242_8 hR.c128 (Nat.le_of_ble_eq_true rfl) hrun (xDone.c (ci := 16) (hp := 21) xgl rfl rfl ?_)
    have hR := hR2.app (c := .inr (16, [])) (by rw [hR2.1.1]; exact hl)
    refine i_242_21 rfl ?_
    refine i_242_22 (x := 128) rfl ?_
    refine i_242_23 ?_
    refine i_242_24 (fs2 := mf (u1 (S' 128) 31 2)) hR.c128 (Nat.le_of_ble_eq_true rfl) (mfs_31 (v := 2)) (by decide) ?_
    refine xgen (P := mR (w0 ++ [.inr (16, [])]) (u2 S' 128 31 2) V') hR.fld2 (fun w hR => ?_)
    refine i_242_27 ?_
    exact i_242_28 ⟨rfl, S', V', hR, hP⟩
  obtain ⟨o, w2, h1, rfl, h2⟩ := key.run
  exact ⟨w2, h1, h2⟩
theorem w_245 {a0 : Int32} {a1 : Int32} {P : Int64 → xW → Prop} (hR : mR w0 S V w) (h : ∀ w1, mR w0 (u2 S 128 31 0) V w1 → ∃ v w2, xRun d 246 [Value.ref 128, Value.int a0, Value.int a1] w1 (.inl (some (.long v))) w2 ∧ P v w2) : ∃ v w2, xRun (d + 1) 245 [Value.ref 128, Value.int a0, Value.int a1] w (.inl (some (.long v))) w2 ∧ P v w2 := by
  have key : xEv (d + 1) 245 0 (lv_args 0 [Value.ref 128, Value.int a0, Value.int a1]) [] w (fun o w2 => ∃ v, o = .inl (some (.long v)) ∧ P v w2) := by
    refine i_245_0 (x := 128) rfl ?_
    refine i_245_1 ?_
    refine i_245_2 (fs2 := mf (u1 (S 128) 31 0)) hR.c128 (Nat.le_of_ble_eq_true rfl) (mfs_31 (v := 0)) (by decide) ?_
    refine xgen (P := mR w0 (u2 S 128 31 0) V) hR.fld2 (fun w hR => ?_)
    refine i_245_5 rfl ?_
    refine i_245_6 rfl ?_
    refine i_245_7 rfl ?_
    obtain ⟨v, w2, hrun, hP⟩ := h w hR
    refine i_245_8 hR.c128 (Nat.le_of_ble_eq_true rfl) hrun ?_
    exact i_245_11 ⟨v, rfl, hP⟩
  obtain ⟨o, w2, h1, v, rfl, h2⟩ := key.run
  exact ⟨v, w2, h1, h2⟩
theorem t_245_1 {a0 : Int32} {a1 : Int32} {P : (Nat → Nat → Int) → (Nat → Nat) → Prop} (hR : mR w0 S V w) (hl : 194 ≤ w0.length) (h : ∀ w1, mR w0 (u2 S 128 31 0) V w1 → ∃ w2 S' V', xRun d 246 [Value.ref 128, Value.int a0, Value.int a1] w1 (.inr w2.length) (w2 ++ [.inr (14, [])]) ∧ mR w0 S' V' w2 ∧ P S' V') : ∃ w2, xRun (d + 1) 245 [Value.ref 128, Value.int a0, Value.int a1] w (.inl (some (.long 0))) w2 ∧ ∃ S' V', mR (w0 ++ [.inr (14, [])]) (u2 S' 128 31 1) V' w2 ∧ P S' V' := by
  have key : xEv (d + 1) 245 0 (lv_args 0 [Value.ref 128, Value.int a0, Value.int a1]) [] w (fun o w2 => o = .inl (some (.long 0)) ∧ ∃ S' V', mR (w0 ++ [.inr (14, [])]) (u2 S' 128 31 1) V' w2 ∧ P S' V') := by
    refine i_245_0 (x := 128) rfl ?_
    refine i_245_1 ?_
    refine i_245_2 (fs2 := mf (u1 (S 128) 31 0)) hR.c128 (Nat.le_of_ble_eq_true rfl) (mfs_31 (v := 0)) (by decide) ?_
    refine xgen (P := mR w0 (u2 S 128 31 0) V) hR.fld2 (fun w hR => ?_)
    refine i_245_5 rfl ?_
    refine i_245_6 rfl ?_
    refine i_245_7 rfl ?_
    obtain ⟨w2, S', V', hrun, hR2, hP⟩ := h w hR
    refine j_245_8 hR.c128 (Nat.le_of_ble_eq_true rfl) hrun (xDone.c (ci := 14) (hp := 12) xgl rfl rfl ?_)
    have hR := hR2.app (c := .inr (14, [])) (by rw [hR2.1.1]; exact hl)
    refine i_245_12 rfl ?_
    refine i_245_13 (x := 128) rfl ?_
    refine i_245_14 ?_
    refine i_245_15 (fs2 := mf (u1 (S' 128) 31 1)) hR.c128 (Nat.le_of_ble_eq_true rfl) (mfs_31 (v := 1)) (by decide) ?_
    refine xgen (P := mR (w0 ++ [.inr (14, [])]) (u2 S' 128 31 1) V') hR.fld2 (fun w hR => ?_)
    refine i_245_18 ?_
    refine i_245_27 ?_
    exact i_245_28 ⟨rfl, S', V', hR, hP⟩
  obtain ⟨o, w2, h1, rfl, h2⟩ := key.run
  exact ⟨w2, h1, h2⟩
theorem t_245_2 {a0 : Int32} {a1 : Int32} {P : (Nat → Nat → Int) → (Nat → Nat) → Prop} (hR : mR w0 S V w) (hl : 194 ≤ w0.length) (h : ∀ w1, mR w0 (u2 S 128 31 0) V w1 → ∃ w2 S' V', xRun d 246 [Value.ref 128, Value.int a0, Value.int a1] w1 (.inr w2.length) (w2 ++ [.inr (16, [])]) ∧ mR w0 S' V' w2 ∧ P S' V') : ∃ w2, xRun (d + 1) 245 [Value.ref 128, Value.int a0, Value.int a1] w (.inl (some (.long 0))) w2 ∧ ∃ S' V', mR (w0 ++ [.inr (16, [])]) (u2 S' 128 31 2) V' w2 ∧ P S' V' := by
  have key : xEv (d + 1) 245 0 (lv_args 0 [Value.ref 128, Value.int a0, Value.int a1]) [] w (fun o w2 => o = .inl (some (.long 0)) ∧ ∃ S' V', mR (w0 ++ [.inr (16, [])]) (u2 S' 128 31 2) V' w2 ∧ P S' V') := by
    refine i_245_0 (x := 128) rfl ?_
    refine i_245_1 ?_
    refine i_245_2 (fs2 := mf (u1 (S 128) 31 0)) hR.c128 (Nat.le_of_ble_eq_true rfl) (mfs_31 (v := 0)) (by decide) ?_
    refine xgen (P := mR w0 (u2 S 128 31 0) V) hR.fld2 (fun w hR => ?_)
    refine i_245_5 rfl ?_
    refine i_245_6 rfl ?_
    refine i_245_7 rfl ?_
    obtain ⟨w2, S', V', hrun, hR2, hP⟩ := h w hR
    refine j_245_8 hR.c128 (Nat.le_of_ble_eq_true rfl) hrun (xDone.c (ci := 16) (hp := 21) xgl rfl rfl ?_)
    have hR := hR2.app (c := .inr (16, [])) (by rw [hR2.1.1]; exact hl)
    refine i_245_21 rfl ?_
    refine i_245_22 (x := 128) rfl ?_
    refine i_245_23 ?_
    refine i_245_24 (fs2 := mf (u1 (S' 128) 31 2)) hR.c128 (Nat.le_of_ble_eq_true rfl) (mfs_31 (v := 2)) (by decide) ?_
    refine xgen (P := mR (w0 ++ [.inr (16, [])]) (u2 S' 128 31 2) V') hR.fld2 (fun w hR => ?_)
    refine i_245_27 ?_
    exact i_245_28 ⟨rfl, S', V', hR, hP⟩
  obtain ⟨o, w2, h1, rfl, h2⟩ := key.run
  exact ⟨w2, h1, h2⟩
theorem w_247 {a0 : Int32} {a1 : Int64} {a2 : Int32} {P : Int32 → xW → Prop} (hR : mR w0 S V w) (h : ∀ w1, mR w0 (u2 S 128 31 0) V w1 → ∃ v w2, xRun d 248 [Value.ref 128, Value.int a0, Value.long a1, Value.int a2] w1 (.inl (some (.int v))) w2 ∧ P v w2) : ∃ v w2, xRun (d + 1) 247 [Value.ref 128, Value.int a0, Value.long a1, Value.int a2] w (.inl (some (.int v))) w2 ∧ P v w2 := by
  have key : xEv (d + 1) 247 0 (lv_args 0 [Value.ref 128, Value.int a0, Value.long a1, Value.int a2]) [] w (fun o w2 => ∃ v, o = .inl (some (.int v)) ∧ P v w2) := by
    refine i_247_0 (x := 128) rfl ?_
    refine i_247_1 ?_
    refine i_247_2 (fs2 := mf (u1 (S 128) 31 0)) hR.c128 (Nat.le_of_ble_eq_true rfl) (mfs_31 (v := 0)) (by decide) ?_
    refine xgen (P := mR w0 (u2 S 128 31 0) V) hR.fld2 (fun w hR => ?_)
    refine i_247_5 rfl ?_
    refine i_247_6 rfl ?_
    refine i_247_7 rfl ?_
    refine i_247_8 rfl ?_
    obtain ⟨v, w2, hrun, hP⟩ := h w hR
    refine i_247_10 hR.c128 (Nat.le_of_ble_eq_true rfl) hrun ?_
    exact i_247_13 ⟨v, rfl, hP⟩
  obtain ⟨o, w2, h1, v, rfl, h2⟩ := key.run
  exact ⟨v, w2, h1, h2⟩
theorem t_247_1 {a0 : Int32} {a1 : Int64} {a2 : Int32} {P : (Nat → Nat → Int) → (Nat → Nat) → Prop} (hR : mR w0 S V w) (hl : 194 ≤ w0.length) (h : ∀ w1, mR w0 (u2 S 128 31 0) V w1 → ∃ w2 S' V', xRun d 248 [Value.ref 128, Value.int a0, Value.long a1, Value.int a2] w1 (.inr w2.length) (w2 ++ [.inr (14, [])]) ∧ mR w0 S' V' w2 ∧ P S' V') : ∃ w2, xRun (d + 1) 247 [Value.ref 128, Value.int a0, Value.long a1, Value.int a2] w (.inl (some (.int 0))) w2 ∧ ∃ S' V', mR (w0 ++ [.inr (14, [])]) (u2 S' 128 31 1) V' w2 ∧ P S' V' := by
  have key : xEv (d + 1) 247 0 (lv_args 0 [Value.ref 128, Value.int a0, Value.long a1, Value.int a2]) [] w (fun o w2 => o = .inl (some (.int 0)) ∧ ∃ S' V', mR (w0 ++ [.inr (14, [])]) (u2 S' 128 31 1) V' w2 ∧ P S' V') := by
    refine i_247_0 (x := 128) rfl ?_
    refine i_247_1 ?_
    refine i_247_2 (fs2 := mf (u1 (S 128) 31 0)) hR.c128 (Nat.le_of_ble_eq_true rfl) (mfs_31 (v := 0)) (by decide) ?_
    refine xgen (P := mR w0 (u2 S 128 31 0) V) hR.fld2 (fun w hR => ?_)
    refine i_247_5 rfl ?_
    refine i_247_6 rfl ?_
    refine i_247_7 rfl ?_
    refine i_247_8 rfl ?_
    obtain ⟨w2, S', V', hrun, hR2, hP⟩ := h w hR
    refine j_247_10 hR.c128 (Nat.le_of_ble_eq_true rfl) hrun (xDone.c (ci := 14) (hp := 14) xgl rfl rfl ?_)
    have hR := hR2.app (c := .inr (14, [])) (by rw [hR2.1.1]; exact hl)
    refine i_247_14 rfl ?_
    refine i_247_16 (x := 128) rfl ?_
    refine i_247_17 ?_
    refine i_247_18 (fs2 := mf (u1 (S' 128) 31 1)) hR.c128 (Nat.le_of_ble_eq_true rfl) (mfs_31 (v := 1)) (by decide) ?_
    refine xgen (P := mR (w0 ++ [.inr (14, [])]) (u2 S' 128 31 1) V') hR.fld2 (fun w hR => ?_)
    refine i_247_21 ?_
    exact i_247_22 ⟨rfl, S', V', hR, hP⟩
  obtain ⟨o, w2, h1, rfl, h2⟩ := key.run
  exact ⟨w2, h1, h2⟩
theorem w_249 {a0 : Int32} {a1 : Int32} {P : Int64 → xW → Prop} (hR : mR w0 S V w) (h : ∀ w1, mR w0 (u2 S 128 31 0) V w1 → ∃ v w2, xRun d 250 [Value.ref 128, Value.int a0, Value.int a1] w1 (.inl (some (.long v))) w2 ∧ P v w2) : ∃ v w2, xRun (d + 1) 249 [Value.ref 128, Value.int a0, Value.int a1] w (.inl (some (.long v))) w2 ∧ P v w2 := by
  have key : xEv (d + 1) 249 0 (lv_args 0 [Value.ref 128, Value.int a0, Value.int a1]) [] w (fun o w2 => ∃ v, o = .inl (some (.long v)) ∧ P v w2) := by
    refine i_249_0 (x := 128) rfl ?_
    refine i_249_1 ?_
    refine i_249_2 (fs2 := mf (u1 (S 128) 31 0)) hR.c128 (Nat.le_of_ble_eq_true rfl) (mfs_31 (v := 0)) (by decide) ?_
    refine xgen (P := mR w0 (u2 S 128 31 0) V) hR.fld2 (fun w hR => ?_)
    refine i_249_5 rfl ?_
    refine i_249_6 rfl ?_
    refine i_249_7 rfl ?_
    obtain ⟨v, w2, hrun, hP⟩ := h w hR
    refine i_249_8 hR.c128 (Nat.le_of_ble_eq_true rfl) hrun ?_
    exact i_249_11 ⟨v, rfl, hP⟩
  obtain ⟨o, w2, h1, v, rfl, h2⟩ := key.run
  exact ⟨v, w2, h1, h2⟩
theorem t_249_1 {a0 : Int32} {a1 : Int32} {P : (Nat → Nat → Int) → (Nat → Nat) → Prop} (hR : mR w0 S V w) (hl : 194 ≤ w0.length) (h : ∀ w1, mR w0 (u2 S 128 31 0) V w1 → ∃ w2 S' V', xRun d 250 [Value.ref 128, Value.int a0, Value.int a1] w1 (.inr w2.length) (w2 ++ [.inr (14, [])]) ∧ mR w0 S' V' w2 ∧ P S' V') : ∃ w2, xRun (d + 1) 249 [Value.ref 128, Value.int a0, Value.int a1] w (.inl (some (.long 0))) w2 ∧ ∃ S' V', mR (w0 ++ [.inr (14, [])]) (u2 S' 128 31 1) V' w2 ∧ P S' V' := by
  have key : xEv (d + 1) 249 0 (lv_args 0 [Value.ref 128, Value.int a0, Value.int a1]) [] w (fun o w2 => o = .inl (some (.long 0)) ∧ ∃ S' V', mR (w0 ++ [.inr (14, [])]) (u2 S' 128 31 1) V' w2 ∧ P S' V') := by
    refine i_249_0 (x := 128) rfl ?_
    refine i_249_1 ?_
    refine i_249_2 (fs2 := mf (u1 (S 128) 31 0)) hR.c128 (Nat.le_of_ble_eq_true rfl) (mfs_31 (v := 0)) (by decide) ?_
    refine xgen (P := mR w0 (u2 S 128 31 0) V) hR.fld2 (fun w hR => ?_)
    refine i_249_5 rfl ?_
    refine i_249_6 rfl ?_
    refine i_249_7 rfl ?_
    obtain ⟨w2, S', V', hrun, hR2, hP⟩ := h w hR
    refine j_249_8 hR.c128 (Nat.le_of_ble_eq_true rfl) hrun (xDone.c (ci := 14) (hp := 12) xgl rfl rfl ?_)
    have hR := hR2.app (c := .inr (14, [])) (by rw [hR2.1.1]; exact hl)
    refine i_249_12 rfl ?_
    refine i_249_13 (x := 128) rfl ?_
    refine i_249_14 ?_
    refine i_249_15 (fs2 := mf (u1 (S' 128) 31 1)) hR.c128 (Nat.le_of_ble_eq_true rfl) (mfs_31 (v := 1)) (by decide) ?_
    refine xgen (P := mR (w0 ++ [.inr (14, [])]) (u2 S' 128 31 1) V') hR.fld2 (fun w hR => ?_)
    refine i_249_18 ?_
    exact i_249_19 ⟨rfl, S', V', hR, hP⟩
  obtain ⟨o, w2, h1, rfl, h2⟩ := key.run
  exact ⟨w2, h1, h2⟩
theorem w_251 {a0 : Int32} {a1 : Int32} {P : Int64 → xW → Prop} (hR : mR w0 S V w) (h : ∀ w1, mR w0 (u2 S 128 31 0) V w1 → ∃ v w2, xRun d 252 [Value.ref 128, Value.int a0, Value.int a1] w1 (.inl (some (.long v))) w2 ∧ P v w2) : ∃ v w2, xRun (d + 1) 251 [Value.ref 128, Value.int a0, Value.int a1] w (.inl (some (.long v))) w2 ∧ P v w2 := by
  have key : xEv (d + 1) 251 0 (lv_args 0 [Value.ref 128, Value.int a0, Value.int a1]) [] w (fun o w2 => ∃ v, o = .inl (some (.long v)) ∧ P v w2) := by
    refine i_251_0 (x := 128) rfl ?_
    refine i_251_1 ?_
    refine i_251_2 (fs2 := mf (u1 (S 128) 31 0)) hR.c128 (Nat.le_of_ble_eq_true rfl) (mfs_31 (v := 0)) (by decide) ?_
    refine xgen (P := mR w0 (u2 S 128 31 0) V) hR.fld2 (fun w hR => ?_)
    refine i_251_5 rfl ?_
    refine i_251_6 rfl ?_
    refine i_251_7 rfl ?_
    obtain ⟨v, w2, hrun, hP⟩ := h w hR
    refine i_251_8 hR.c128 (Nat.le_of_ble_eq_true rfl) hrun ?_
    exact i_251_11 ⟨v, rfl, hP⟩
  obtain ⟨o, w2, h1, v, rfl, h2⟩ := key.run
  exact ⟨v, w2, h1, h2⟩
theorem t_251_1 {a0 : Int32} {a1 : Int32} {P : (Nat → Nat → Int) → (Nat → Nat) → Prop} (hR : mR w0 S V w) (hl : 194 ≤ w0.length) (h : ∀ w1, mR w0 (u2 S 128 31 0) V w1 → ∃ w2 S' V', xRun d 252 [Value.ref 128, Value.int a0, Value.int a1] w1 (.inr w2.length) (w2 ++ [.inr (14, [])]) ∧ mR w0 S' V' w2 ∧ P S' V') : ∃ w2, xRun (d + 1) 251 [Value.ref 128, Value.int a0, Value.int a1] w (.inl (some (.long 0))) w2 ∧ ∃ S' V', mR (w0 ++ [.inr (14, [])]) (u2 S' 128 31 1) V' w2 ∧ P S' V' := by
  have key : xEv (d + 1) 251 0 (lv_args 0 [Value.ref 128, Value.int a0, Value.int a1]) [] w (fun o w2 => o = .inl (some (.long 0)) ∧ ∃ S' V', mR (w0 ++ [.inr (14, [])]) (u2 S' 128 31 1) V' w2 ∧ P S' V') := by
    refine i_251_0 (x := 128) rfl ?_
    refine i_251_1 ?_
    refine i_251_2 (fs2 := mf (u1 (S 128) 31 0)) hR.c128 (Nat.le_of_ble_eq_true rfl) (mfs_31 (v := 0)) (by decide) ?_
    refine xgen (P := mR w0 (u2 S 128 31 0) V) hR.fld2 (fun w hR => ?_)
    refine i_251_5 rfl ?_
    refine i_251_6 rfl ?_
    refine i_251_7 rfl ?_
    obtain ⟨w2, S', V', hrun, hR2, hP⟩ := h w hR
    refine j_251_8 hR.c128 (Nat.le_of_ble_eq_true rfl) hrun (xDone.c (ci := 14) (hp := 12) xgl rfl rfl ?_)
    have hR := hR2.app (c := .inr (14, [])) (by rw [hR2.1.1]; exact hl)
    refine i_251_12 rfl ?_
    refine i_251_13 (x := 128) rfl ?_
    refine i_251_14 ?_
    refine i_251_15 (fs2 := mf (u1 (S' 128) 31 1)) hR.c128 (Nat.le_of_ble_eq_true rfl) (mfs_31 (v := 1)) (by decide) ?_
    refine xgen (P := mR (w0 ++ [.inr (14, [])]) (u2 S' 128 31 1) V') hR.fld2 (fun w hR => ?_)
    refine i_251_18 ?_
    refine i_251_27 ?_
    exact i_251_28 ⟨rfl, S', V', hR, hP⟩
  obtain ⟨o, w2, h1, rfl, h2⟩ := key.run
  exact ⟨w2, h1, h2⟩
theorem t_251_2 {a0 : Int32} {a1 : Int32} {P : (Nat → Nat → Int) → (Nat → Nat) → Prop} (hR : mR w0 S V w) (hl : 194 ≤ w0.length) (h : ∀ w1, mR w0 (u2 S 128 31 0) V w1 → ∃ w2 S' V', xRun d 252 [Value.ref 128, Value.int a0, Value.int a1] w1 (.inr w2.length) (w2 ++ [.inr (15, [])]) ∧ mR w0 S' V' w2 ∧ P S' V') : ∃ w2, xRun (d + 1) 251 [Value.ref 128, Value.int a0, Value.int a1] w (.inl (some (.long 0))) w2 ∧ ∃ S' V', mR (w0 ++ [.inr (15, [])]) (u2 S' 128 31 2) V' w2 ∧ P S' V' := by
  have key : xEv (d + 1) 251 0 (lv_args 0 [Value.ref 128, Value.int a0, Value.int a1]) [] w (fun o w2 => o = .inl (some (.long 0)) ∧ ∃ S' V', mR (w0 ++ [.inr (15, [])]) (u2 S' 128 31 2) V' w2 ∧ P S' V') := by
    refine i_251_0 (x := 128) rfl ?_
    refine i_251_1 ?_
    refine i_251_2 (fs2 := mf (u1 (S 128) 31 0)) hR.c128 (Nat.le_of_ble_eq_true rfl) (mfs_31 (v := 0)) (by decide) ?_
    refine xgen (P := mR w0 (u2 S 128 31 0) V) hR.fld2 (fun w hR => ?_)
    refine i_251_5 rfl ?_
    refine i_251_6 rfl ?_
    refine i_251_7 rfl ?_
    obtain ⟨w2, S', V', hrun, hR2, hP⟩ := h w hR
    refine j_251_8 hR.c128 (Nat.le_of_ble_eq_true rfl) hrun (xDone.c (ci := 15) (hp := 21) xgl rfl rfl ?_)
    have hR := hR2.app (c := .inr (15, [])) (by rw [hR2.1.1]; exact hl)
    refine i_251_21 rfl ?_
    refine i_251_22 (x := 128) rfl ?_
    refine i_251_23 ?_
    refine i_251_24 (fs2 := mf (u1 (S' 128) 31 2)) hR.c128 (Nat.le_of_ble_eq_true rfl) (mfs_31 (v := 2)) (by decide) ?_
    refine xgen (P := mR (w0 ++ [.inr (15, [])]) (u2 S' 128 31 2) V') hR.fld2 (fun w hR => ?_)
    refine i_251_27 ?_
    exact i_251_28 ⟨rfl, S', V', hR, hP⟩
  obtain ⟨o, w2, h1, rfl, h2⟩ := key.run
  exact ⟨w2, h1, h2⟩
theorem w_253 {a0 : Int32} {a1 : Int32} {a2 : Int32} {a3 : Int32} {a4 : Int32} {P : xW → Prop} (hR : mR w0 S V w) (h : ∀ w1, mR w0 (u2 S 128 31 0) V w1 → ∃ w2, xRun d 254 [Value.ref 128, Value.int a0, Value.int a1, Value.int a2, Value.int a3, Value.int a4] w1 (.inl none) w2 ∧ P w2) : ∃ w2, xRun (d + 1) 253 [Value.ref 128, Value.int a0, Value.int a1, Value.int a2, Value.int a3, Value.int a4] w (.inl none) w2 ∧ P w2 := by
  have key : xEv (d + 1) 253 0 (lv_args 0 [Value.ref 128, Value.int a0, Value.int a1, Value.int a2, Value.int a3, Value.int a4]) [] w (fun o w2 => o = .inl none ∧ P w2) := by
    refine i_253_0 (x := 128) rfl ?_
    refine i_253_1 ?_
    refine i_253_2 (fs2 := mf (u1 (S 128) 31 0)) hR.c128 (Nat.le_of_ble_eq_true rfl) (mfs_31 (v := 0)) (by decide) ?_
    refine xgen (P := mR w0 (u2 S 128 31 0) V) hR.fld2 (fun w hR => ?_)
    refine i_253_5 rfl ?_
    refine i_253_6 rfl ?_
    refine i_253_7 rfl ?_
    refine i_253_8 rfl ?_
    refine i_253_9 rfl ?_
    refine i_253_11 rfl ?_
    obtain ⟨w2, hrun, hP⟩ := h w hR
    refine i_253_13 hR.c128 (Nat.le_of_ble_eq_true rfl) hrun ?_
    refine i_253_16 ?_
    exact i_253_26 ⟨rfl, hP⟩
  obtain ⟨o, w2, h1, rfl, h2⟩ := key.run
  exact ⟨w2, h1, h2⟩
theorem t_253_1 {a0 : Int32} {a1 : Int32} {a2 : Int32} {a3 : Int32} {a4 : Int32} {P : (Nat → Nat → Int) → (Nat → Nat) → Prop} (hR : mR w0 S V w) (hl : 194 ≤ w0.length) (h : ∀ w1, mR w0 (u2 S 128 31 0) V w1 → ∃ w2 S' V', xRun d 254 [Value.ref 128, Value.int a0, Value.int a1, Value.int a2, Value.int a3, Value.int a4] w1 (.inr w2.length) (w2 ++ [.inr (17, [])]) ∧ mR w0 S' V' w2 ∧ P S' V') : ∃ w2, xRun (d + 1) 253 [Value.ref 128, Value.int a0, Value.int a1, Value.int a2, Value.int a3, Value.int a4] w (.inl none) w2 ∧ ∃ S' V', mR (w0 ++ [.inr (17, [])]) (u2 S' 128 31 1) V' w2 ∧ P S' V' := by
  have key : xEv (d + 1) 253 0 (lv_args 0 [Value.ref 128, Value.int a0, Value.int a1, Value.int a2, Value.int a3, Value.int a4]) [] w (fun o w2 => o = .inl none ∧ ∃ S' V', mR (w0 ++ [.inr (17, [])]) (u2 S' 128 31 1) V' w2 ∧ P S' V') := by
    refine i_253_0 (x := 128) rfl ?_
    refine i_253_1 ?_
    refine i_253_2 (fs2 := mf (u1 (S 128) 31 0)) hR.c128 (Nat.le_of_ble_eq_true rfl) (mfs_31 (v := 0)) (by decide) ?_
    refine xgen (P := mR w0 (u2 S 128 31 0) V) hR.fld2 (fun w hR => ?_)
    refine i_253_5 rfl ?_
    refine i_253_6 rfl ?_
    refine i_253_7 rfl ?_
    refine i_253_8 rfl ?_
    refine i_253_9 rfl ?_
    refine i_253_11 rfl ?_
    obtain ⟨w2, S', V', hrun, hR2, hP⟩ := h w hR
    refine j_253_13 hR.c128 (Nat.le_of_ble_eq_true rfl) hrun (xDone.c (ci := 17) (hp := 19) xgl rfl rfl ?_)
    have hR := hR2.app (c := .inr (17, [])) (by rw [hR2.1.1]; exact hl)
    refine i_253_19 rfl ?_
    refine i_253_21 (x := 128) rfl ?_
    refine i_253_22 ?_
    refine i_253_23 (fs2 := mf (u1 (S' 128) 31 1)) hR.c128 (Nat.le_of_ble_eq_true rfl) (mfs_31 (v := 1)) (by decide) ?_
    refine xgen (P := mR (w0 ++ [.inr (17, [])]) (u2 S' 128 31 1) V') hR.fld2 (fun w hR => ?_)
    exact i_253_26 ⟨rfl, S', V', hR, hP⟩
  obtain ⟨o, w2, h1, rfl, h2⟩ := key.run
  exact ⟨w2, h1, h2⟩
theorem w_255 {a0 : Int32} {P : Int32 → xW → Prop} (hR : mR w0 S V w) (h : ∀ w1, mR w0 (u2 S 128 31 0) V w1 → ∃ v w2, xRun d 256 [Value.ref 128, Value.int a0] w1 (.inl (some (.int v))) w2 ∧ P v w2) : ∃ v w2, xRun (d + 1) 255 [Value.ref 128, Value.int a0] w (.inl (some (.int v))) w2 ∧ P v w2 := by
  have key : xEv (d + 1) 255 0 (lv_args 0 [Value.ref 128, Value.int a0]) [] w (fun o w2 => ∃ v, o = .inl (some (.int v)) ∧ P v w2) := by
    refine i_255_0 (x := 128) rfl ?_
    refine i_255_1 ?_
    refine i_255_2 (fs2 := mf (u1 (S 128) 31 0)) hR.c128 (Nat.le_of_ble_eq_true rfl) (mfs_31 (v := 0)) (by decide) ?_
    refine xgen (P := mR w0 (u2 S 128 31 0) V) hR.fld2 (fun w hR => ?_)
    refine i_255_5 rfl ?_
    refine i_255_6 rfl ?_
    obtain ⟨v, w2, hrun, hP⟩ := h w hR
    refine i_255_7 hR.c128 (Nat.le_of_ble_eq_true rfl) hrun ?_
    exact i_255_10 ⟨v, rfl, hP⟩
  obtain ⟨o, w2, h1, v, rfl, h2⟩ := key.run
  exact ⟨v, w2, h1, h2⟩
theorem t_255_1 {a0 : Int32} {P : (Nat → Nat → Int) → (Nat → Nat) → Prop} (hR : mR w0 S V w) (hl : 194 ≤ w0.length) (h : ∀ w1, mR w0 (u2 S 128 31 0) V w1 → ∃ w2 S' V', xRun d 256 [Value.ref 128, Value.int a0] w1 (.inr w2.length) (w2 ++ [.inr (14, [])]) ∧ mR w0 S' V' w2 ∧ P S' V') : ∃ w2, xRun (d + 1) 255 [Value.ref 128, Value.int a0] w (.inl (some (.int 0))) w2 ∧ ∃ S' V', mR (w0 ++ [.inr (14, [])]) (u2 S' 128 31 1) V' w2 ∧ P S' V' := by
  have key : xEv (d + 1) 255 0 (lv_args 0 [Value.ref 128, Value.int a0]) [] w (fun o w2 => o = .inl (some (.int 0)) ∧ ∃ S' V', mR (w0 ++ [.inr (14, [])]) (u2 S' 128 31 1) V' w2 ∧ P S' V') := by
    refine i_255_0 (x := 128) rfl ?_
    refine i_255_1 ?_
    refine i_255_2 (fs2 := mf (u1 (S 128) 31 0)) hR.c128 (Nat.le_of_ble_eq_true rfl) (mfs_31 (v := 0)) (by decide) ?_
    refine xgen (P := mR w0 (u2 S 128 31 0) V) hR.fld2 (fun w hR => ?_)
    refine i_255_5 rfl ?_
    refine i_255_6 rfl ?_
    obtain ⟨w2, S', V', hrun, hR2, hP⟩ := h w hR
    refine j_255_7 hR.c128 (Nat.le_of_ble_eq_true rfl) hrun (xDone.c (ci := 14) (hp := 11) xgl rfl rfl ?_)
    have hR := hR2.app (c := .inr (14, [])) (by rw [hR2.1.1]; exact hl)
    refine i_255_11 rfl ?_
    refine i_255_12 (x := 128) rfl ?_
    refine i_255_13 ?_
    refine i_255_14 (fs2 := mf (u1 (S' 128) 31 1)) hR.c128 (Nat.le_of_ble_eq_true rfl) (mfs_31 (v := 1)) (by decide) ?_
    refine xgen (P := mR (w0 ++ [.inr (14, [])]) (u2 S' 128 31 1) V') hR.fld2 (fun w hR => ?_)
    refine i_255_17 ?_
    exact i_255_18 ⟨rfl, S', V', hR, hP⟩
  obtain ⟨o, w2, h1, rfl, h2⟩ := key.run
  exact ⟨w2, h1, h2⟩
theorem w_257 {a0 : Int32} {a1 : Int32} {a2 : Int32} {P : Int32 → xW → Prop} (hR : mR w0 S V w) (h : ∀ w1, mR w0 (u2 S 128 31 0) V w1 → ∃ v w2, xRun d 258 [Value.ref 128, Value.int a0, Value.int a1, Value.int a2] w1 (.inl (some (.int v))) w2 ∧ P v w2) : ∃ v w2, xRun (d + 1) 257 [Value.ref 128, Value.int a0, Value.int a1, Value.int a2] w (.inl (some (.int v))) w2 ∧ P v w2 := by
  have key : xEv (d + 1) 257 0 (lv_args 0 [Value.ref 128, Value.int a0, Value.int a1, Value.int a2]) [] w (fun o w2 => ∃ v, o = .inl (some (.int v)) ∧ P v w2) := by
    refine i_257_0 (x := 128) rfl ?_
    refine i_257_1 ?_
    refine i_257_2 (fs2 := mf (u1 (S 128) 31 0)) hR.c128 (Nat.le_of_ble_eq_true rfl) (mfs_31 (v := 0)) (by decide) ?_
    refine xgen (P := mR w0 (u2 S 128 31 0) V) hR.fld2 (fun w hR => ?_)
    refine i_257_5 rfl ?_
    refine i_257_6 rfl ?_
    refine i_257_7 rfl ?_
    refine i_257_8 rfl ?_
    obtain ⟨v, w2, hrun, hP⟩ := h w hR
    refine i_257_9 hR.c128 (Nat.le_of_ble_eq_true rfl) hrun ?_
    exact i_257_12 ⟨v, rfl, hP⟩
  obtain ⟨o, w2, h1, v, rfl, h2⟩ := key.run
  exact ⟨v, w2, h1, h2⟩
theorem t_257_1 {a0 : Int32} {a1 : Int32} {a2 : Int32} {P : (Nat → Nat → Int) → (Nat → Nat) → Prop} (hR : mR w0 S V w) (hl : 194 ≤ w0.length) (h : ∀ w1, mR w0 (u2 S 128 31 0) V w1 → ∃ w2 S' V', xRun d 258 [Value.ref 128, Value.int a0, Value.int a1, Value.int a2] w1 (.inr w2.length) (w2 ++ [.inr (14, [])]) ∧ mR w0 S' V' w2 ∧ P S' V') : ∃ w2, xRun (d + 1) 257 [Value.ref 128, Value.int a0, Value.int a1, Value.int a2] w (.inl (some (.int 0))) w2 ∧ ∃ S' V', mR (w0 ++ [.inr (14, [])]) (u2 S' 128 31 1) V' w2 ∧ P S' V' := by
  have key : xEv (d + 1) 257 0 (lv_args 0 [Value.ref 128, Value.int a0, Value.int a1, Value.int a2]) [] w (fun o w2 => o = .inl (some (.int 0)) ∧ ∃ S' V', mR (w0 ++ [.inr (14, [])]) (u2 S' 128 31 1) V' w2 ∧ P S' V') := by
    refine i_257_0 (x := 128) rfl ?_
    refine i_257_1 ?_
    refine i_257_2 (fs2 := mf (u1 (S 128) 31 0)) hR.c128 (Nat.le_of_ble_eq_true rfl) (mfs_31 (v := 0)) (by decide) ?_
    refine xgen (P := mR w0 (u2 S 128 31 0) V) hR.fld2 (fun w hR => ?_)
    refine i_257_5 rfl ?_
    refine i_257_6 rfl ?_
    refine i_257_7 rfl ?_
    refine i_257_8 rfl ?_
    obtain ⟨w2, S', V', hrun, hR2, hP⟩ := h w hR
    refine j_257_9 hR.c128 (Nat.le_of_ble_eq_true rfl) hrun (xDone.c (ci := 14) (hp := 13) xgl rfl rfl ?_)
    have hR := hR2.app (c := .inr (14, [])) (by rw [hR2.1.1]; exact hl)
    refine i_257_13 rfl ?_
    refine i_257_15 (x := 128) rfl ?_
    refine i_257_16 ?_
    refine i_257_17 (fs2 := mf (u1 (S' 128) 31 1)) hR.c128 (Nat.le_of_ble_eq_true rfl) (mfs_31 (v := 1)) (by decide) ?_
    refine xgen (P := mR (w0 ++ [.inr (14, [])]) (u2 S' 128 31 1) V') hR.fld2 (fun w hR => ?_)
    refine i_257_20 ?_
    refine i_257_30 ?_
    exact i_257_31 ⟨rfl, S', V', hR, hP⟩
  obtain ⟨o, w2, h1, rfl, h2⟩ := key.run
  exact ⟨w2, h1, h2⟩
theorem t_257_2 {a0 : Int32} {a1 : Int32} {a2 : Int32} {P : (Nat → Nat → Int) → (Nat → Nat) → Prop} (hR : mR w0 S V w) (hl : 194 ≤ w0.length) (h : ∀ w1, mR w0 (u2 S 128 31 0) V w1 → ∃ w2 S' V', xRun d 258 [Value.ref 128, Value.int a0, Value.int a1, Value.int a2] w1 (.inr w2.length) (w2 ++ [.inr (15, [])]) ∧ mR w0 S' V' w2 ∧ P S' V') : ∃ w2, xRun (d + 1) 257 [Value.ref 128, Value.int a0, Value.int a1, Value.int a2] w (.inl (some (.int 0))) w2 ∧ ∃ S' V', mR (w0 ++ [.inr (15, [])]) (u2 S' 128 31 2) V' w2 ∧ P S' V' := by
  have key : xEv (d + 1) 257 0 (lv_args 0 [Value.ref 128, Value.int a0, Value.int a1, Value.int a2]) [] w (fun o w2 => o = .inl (some (.int 0)) ∧ ∃ S' V', mR (w0 ++ [.inr (15, [])]) (u2 S' 128 31 2) V' w2 ∧ P S' V') := by
    refine i_257_0 (x := 128) rfl ?_
    refine i_257_1 ?_
    refine i_257_2 (fs2 := mf (u1 (S 128) 31 0)) hR.c128 (Nat.le_of_ble_eq_true rfl) (mfs_31 (v := 0)) (by decide) ?_
    refine xgen (P := mR w0 (u2 S 128 31 0) V) hR.fld2 (fun w hR => ?_)
    refine i_257_5 rfl ?_
    refine i_257_6 rfl ?_
    refine i_257_7 rfl ?_
    refine i_257_8 rfl ?_
    obtain ⟨w2, S', V', hrun, hR2, hP⟩ := h w hR
    refine j_257_9 hR.c128 (Nat.le_of_ble_eq_true rfl) hrun (xDone.c (ci := 15) (hp := 23) xgl rfl rfl ?_)
    have hR := hR2.app (c := .inr (15, [])) (by rw [hR2.1.1]; exact hl)
    refine i_257_23 rfl ?_
    refine i_257_25 (x := 128) rfl ?_
    refine i_257_26 ?_
    refine i_257_27 (fs2 := mf (u1 (S' 128) 31 2)) hR.c128 (Nat.le_of_ble_eq_true rfl) (mfs_31 (v := 2)) (by decide) ?_
    refine xgen (P := mR (w0 ++ [.inr (15, [])]) (u2 S' 128 31 2) V') hR.fld2 (fun w hR => ?_)
    refine i_257_30 ?_
    exact i_257_31 ⟨rfl, S', V', hR, hP⟩
  obtain ⟨o, w2, h1, rfl, h2⟩ := key.run
  exact ⟨w2, h1, h2⟩
theorem w_263 {a0 : Int32} {a1 : Int32} {a2 : Int32} {a3 : Int32} {P : Int32 → xW → Prop} (hR : mR w0 S V w) (h : ∀ w1, mR w0 (u2 S 128 31 0) V w1 → ∃ v w2, xRun d 264 [Value.ref 128, Value.int a0, Value.int a1, Value.int a2, Value.int a3] w1 (.inl (some (.int v))) w2 ∧ P v w2) : ∃ v w2, xRun (d + 1) 263 [Value.ref 128, Value.int a0, Value.int a1, Value.int a2, Value.int a3] w (.inl (some (.int v))) w2 ∧ P v w2 := by
  have key : xEv (d + 1) 263 0 (lv_args 0 [Value.ref 128, Value.int a0, Value.int a1, Value.int a2, Value.int a3]) [] w (fun o w2 => ∃ v, o = .inl (some (.int v)) ∧ P v w2) := by
    refine i_263_0 (x := 128) rfl ?_
    refine i_263_1 ?_
    refine i_263_2 (fs2 := mf (u1 (S 128) 31 0)) hR.c128 (Nat.le_of_ble_eq_true rfl) (mfs_31 (v := 0)) (by decide) ?_
    refine xgen (P := mR w0 (u2 S 128 31 0) V) hR.fld2 (fun w hR => ?_)
    refine i_263_5 rfl ?_
    refine i_263_6 rfl ?_
    refine i_263_7 rfl ?_
    refine i_263_8 rfl ?_
    refine i_263_9 rfl ?_
    obtain ⟨v, w2, hrun, hP⟩ := h w hR
    refine i_263_11 hR.c128 (Nat.le_of_ble_eq_true rfl) hrun ?_
    exact i_263_14 ⟨v, rfl, hP⟩
  obtain ⟨o, w2, h1, v, rfl, h2⟩ := key.run
  exact ⟨v, w2, h1, h2⟩
theorem t_263_1 {a0 : Int32} {a1 : Int32} {a2 : Int32} {a3 : Int32} {P : (Nat → Nat → Int) → (Nat → Nat) → Prop} (hR : mR w0 S V w) (hl : 194 ≤ w0.length) (h : ∀ w1, mR w0 (u2 S 128 31 0) V w1 → ∃ w2 S' V', xRun d 264 [Value.ref 128, Value.int a0, Value.int a1, Value.int a2, Value.int a3] w1 (.inr w2.length) (w2 ++ [.inr (14, [])]) ∧ mR w0 S' V' w2 ∧ P S' V') : ∃ w2, xRun (d + 1) 263 [Value.ref 128, Value.int a0, Value.int a1, Value.int a2, Value.int a3] w (.inl (some (.int 0))) w2 ∧ ∃ S' V', mR (w0 ++ [.inr (14, [])]) (u2 S' 128 31 1) V' w2 ∧ P S' V' := by
  have key : xEv (d + 1) 263 0 (lv_args 0 [Value.ref 128, Value.int a0, Value.int a1, Value.int a2, Value.int a3]) [] w (fun o w2 => o = .inl (some (.int 0)) ∧ ∃ S' V', mR (w0 ++ [.inr (14, [])]) (u2 S' 128 31 1) V' w2 ∧ P S' V') := by
    refine i_263_0 (x := 128) rfl ?_
    refine i_263_1 ?_
    refine i_263_2 (fs2 := mf (u1 (S 128) 31 0)) hR.c128 (Nat.le_of_ble_eq_true rfl) (mfs_31 (v := 0)) (by decide) ?_
    refine xgen (P := mR w0 (u2 S 128 31 0) V) hR.fld2 (fun w hR => ?_)
    refine i_263_5 rfl ?_
    refine i_263_6 rfl ?_
    refine i_263_7 rfl ?_
    refine i_263_8 rfl ?_
    refine i_263_9 rfl ?_
    obtain ⟨w2, S', V', hrun, hR2, hP⟩ := h w hR
    refine j_263_11 hR.c128 (Nat.le_of_ble_eq_true rfl) hrun (xDone.c (ci := 14) (hp := 15) xgl rfl rfl ?_)
    have hR := hR2.app (c := .inr (14, [])) (by rw [hR2.1.1]; exact hl)
    refine i_263_15 rfl ?_
    refine i_263_17 (x := 128) rfl ?_
    refine i_263_18 ?_
    refine i_263_19 (fs2 := mf (u1 (S' 128) 31 1)) hR.c128 (Nat.le_of_ble_eq_true rfl) (mfs_31 (v := 1)) (by decide) ?_
    refine xgen (P := mR (w0 ++ [.inr (14, [])]) (u2 S' 128 31 1) V') hR.fld2 (fun w hR => ?_)
    refine i_263_22 ?_
    refine i_263_32 ?_
    exact i_263_33 ⟨rfl, S', V', hR, hP⟩
  obtain ⟨o, w2, h1, rfl, h2⟩ := key.run
  exact ⟨w2, h1, h2⟩
theorem t_263_2 {a0 : Int32} {a1 : Int32} {a2 : Int32} {a3 : Int32} {P : (Nat → Nat → Int) → (Nat → Nat) → Prop} (hR : mR w0 S V w) (hl : 194 ≤ w0.length) (h : ∀ w1, mR w0 (u2 S 128 31 0) V w1 → ∃ w2 S' V', xRun d 264 [Value.ref 128, Value.int a0, Value.int a1, Value.int a2, Value.int a3] w1 (.inr w2.length) (w2 ++ [.inr (16, [])]) ∧ mR w0 S' V' w2 ∧ P S' V') : ∃ w2, xRun (d + 1) 263 [Value.ref 128, Value.int a0, Value.int a1, Value.int a2, Value.int a3] w (.inl (some (.int 0))) w2 ∧ ∃ S' V', mR (w0 ++ [.inr (16, [])]) (u2 S' 128 31 2) V' w2 ∧ P S' V' := by
  have key : xEv (d + 1) 263 0 (lv_args 0 [Value.ref 128, Value.int a0, Value.int a1, Value.int a2, Value.int a3]) [] w (fun o w2 => o = .inl (some (.int 0)) ∧ ∃ S' V', mR (w0 ++ [.inr (16, [])]) (u2 S' 128 31 2) V' w2 ∧ P S' V') := by
    refine i_263_0 (x := 128) rfl ?_
    refine i_263_1 ?_
    refine i_263_2 (fs2 := mf (u1 (S 128) 31 0)) hR.c128 (Nat.le_of_ble_eq_true rfl) (mfs_31 (v := 0)) (by decide) ?_
    refine xgen (P := mR w0 (u2 S 128 31 0) V) hR.fld2 (fun w hR => ?_)
    refine i_263_5 rfl ?_
    refine i_263_6 rfl ?_
    refine i_263_7 rfl ?_
    refine i_263_8 rfl ?_
    refine i_263_9 rfl ?_
    obtain ⟨w2, S', V', hrun, hR2, hP⟩ := h w hR
    refine j_263_11 hR.c128 (Nat.le_of_ble_eq_true rfl) hrun (xDone.c (ci := 16) (hp := 25) xgl rfl rfl ?_)
    have hR := hR2.app (c := .inr (16, [])) (by rw [hR2.1.1]; exact hl)
    refine i_263_25 rfl ?_
    refine i_263_27 (x := 128) rfl ?_
    refine i_263_28 ?_
    refine i_263_29 (fs2 := mf (u1 (S' 128) 31 2)) hR.c128 (Nat.le_of_ble_eq_true rfl) (mfs_31 (v := 2)) (by decide) ?_
    refine xgen (P := mR (w0 ++ [.inr (16, [])]) (u2 S' 128 31 2) V') hR.fld2 (fun w hR => ?_)
    refine i_263_32 ?_
    exact i_263_33 ⟨rfl, S', V', hR, hP⟩
  obtain ⟨o, w2, h1, rfl, h2⟩ := key.run
  exact ⟨w2, h1, h2⟩
theorem w_270 {a0 : Int32} {P : Int32 → xW → Prop} (hR : mR w0 S V w) (h : ∀ w1, mR w0 (u2 S 128 31 0) V w1 → ∃ v w2, xRun d 271 [Value.ref 128, Value.int a0] w1 (.inl (some (.int v))) w2 ∧ P v w2) : ∃ v w2, xRun (d + 1) 270 [Value.ref 128, Value.int a0] w (.inl (some (.int v))) w2 ∧ P v w2 := by
  have key : xEv (d + 1) 270 0 (lv_args 0 [Value.ref 128, Value.int a0]) [] w (fun o w2 => ∃ v, o = .inl (some (.int v)) ∧ P v w2) := by
    refine i_270_0 (x := 128) rfl ?_
    refine i_270_1 ?_
    refine i_270_2 (fs2 := mf (u1 (S 128) 31 0)) hR.c128 (Nat.le_of_ble_eq_true rfl) (mfs_31 (v := 0)) (by decide) ?_
    refine xgen (P := mR w0 (u2 S 128 31 0) V) hR.fld2 (fun w hR => ?_)
    refine i_270_5 rfl ?_
    refine i_270_6 rfl ?_
    obtain ⟨v, w2, hrun, hP⟩ := h w hR
    refine i_270_7 hR.c128 (Nat.le_of_ble_eq_true rfl) hrun ?_
    exact i_270_10 ⟨v, rfl, hP⟩
  obtain ⟨o, w2, h1, v, rfl, h2⟩ := key.run
  exact ⟨v, w2, h1, h2⟩
theorem t_270_1 {a0 : Int32} {P : (Nat → Nat → Int) → (Nat → Nat) → Prop} (hR : mR w0 S V w) (hl : 194 ≤ w0.length) (h : ∀ w1, mR w0 (u2 S 128 31 0) V w1 → ∃ w2 S' V', xRun d 271 [Value.ref 128, Value.int a0] w1 (.inr w2.length) (w2 ++ [.inr (16, [])]) ∧ mR w0 S' V' w2 ∧ P S' V') : ∃ w2, xRun (d + 1) 270 [Value.ref 128, Value.int a0] w (.inl (some (.int 0))) w2 ∧ ∃ S' V', mR (w0 ++ [.inr (16, [])]) (u2 S' 128 31 1) V' w2 ∧ P S' V' := by
  have key : xEv (d + 1) 270 0 (lv_args 0 [Value.ref 128, Value.int a0]) [] w (fun o w2 => o = .inl (some (.int 0)) ∧ ∃ S' V', mR (w0 ++ [.inr (16, [])]) (u2 S' 128 31 1) V' w2 ∧ P S' V') := by
    refine i_270_0 (x := 128) rfl ?_
    refine i_270_1 ?_
    refine i_270_2 (fs2 := mf (u1 (S 128) 31 0)) hR.c128 (Nat.le_of_ble_eq_true rfl) (mfs_31 (v := 0)) (by decide) ?_
    refine xgen (P := mR w0 (u2 S 128 31 0) V) hR.fld2 (fun w hR => ?_)
    refine i_270_5 rfl ?_
    refine i_270_6 rfl ?_
    obtain ⟨w2, S', V', hrun, hR2, hP⟩ := h w hR
    refine j_270_7 hR.c128 (Nat.le_of_ble_eq_true rfl) hrun (xDone.c (ci := 16) (hp := 11) xgl rfl rfl ?_)
    have hR := hR2.app (c := .inr (16, [])) (by rw [hR2.1.1]; exact hl)
    refine i_270_11 rfl ?_
    refine i_270_12 (x := 128) rfl ?_
    refine i_270_13 ?_
    refine i_270_14 (fs2 := mf (u1 (S' 128) 31 1)) hR.c128 (Nat.le_of_ble_eq_true rfl) (mfs_31 (v := 1)) (by decide) ?_
    refine xgen (P := mR (w0 ++ [.inr (16, [])]) (u2 S' 128 31 1) V') hR.fld2 (fun w hR => ?_)
    refine i_270_17 ?_
    exact i_270_18 ⟨rfl, S', V', hR, hP⟩
  obtain ⟨o, w2, h1, rfl, h2⟩ := key.run
  exact ⟨w2, h1, h2⟩
theorem s_thrown (hR : mR w0 S V w) : xRun (d + 1) 165 [Value.ref 128] w (.inl (some (.int (Int32.ofInt (S 128 31))))) w := by
  refine xRun.of ?_
  refine i_165_0 (x := 128) rfl ?_
  refine i_165_1 (v := Value.int (Int32.ofInt (S 128 31))) hR.c128 rfl ?_
  refine i_165_4 ?_
  exact ⟨rfl, rfl⟩
end
