/-! the law's loop: the calls, first half -/
theorem lgc {x : Int64} : lg_cmp x x = 0 := by
  unfold lg_cmp
  rw [if_neg (fun h => Int.lt_irrefl _ (Int64.lt_iff_toInt_lt.mp h)), if_pos rfl]
theorem jx {i n : Nat} (k : Nat) (hi : i + 6 ≤ n) (hn : n ≤ 3072) (hk : k < 6) : 0 ≤ (Int32.ofInt ((i + k : Nat) : Int)).toInt ∧ (Int32.ofInt ((i + k : Nat) : Int)).toInt < (n : Int) ∧ (Int32.ofInt ((i + k : Nat) : Int)).toInt.toNat = i + k := by
  rw [oI (k := ((i + k : Nat) : Int)) (by omega) (by omega)]
  exact ⟨by omega, by omega, by omega⟩
theorem jv {f : Nat → Int} {i n : Nat} (k : Nat) (hi : i + 6 ≤ n) (hn : n ≤ 3072) (hk : k < 6) : (fun j => Value.int (Int32.ofInt (f j))) (Int32.ofInt ((i + k : Nat) : Int)).toInt.toNat = Value.int (Int32.ofInt (f (i + k))) := by
  show Value.int (Int32.ofInt (f _)) = _
  rw [(jx k hi hn hk).2.2]
theorem jad1 {i : Nat} : Int32.ofInt (i : Int) + 1 = Int32.ofInt ((i + 1 : Nat) : Int) := by
  show Int32.ofInt (i : Int) + Int32.ofInt 1 = _
  exact (o_add _ _).trans (congrArg Int32.ofInt (show (i : Int) + 1 = ((i + 1 : Nat) : Int) by omega))
theorem jad2 {i : Nat} : Int32.ofInt (i : Int) + 2 = Int32.ofInt ((i + 2 : Nat) : Int) := by
  show Int32.ofInt (i : Int) + Int32.ofInt 2 = _
  exact (o_add _ _).trans (congrArg Int32.ofInt (show (i : Int) + 2 = ((i + 2 : Nat) : Int) by omega))
theorem jad3 {i : Nat} : Int32.ofInt (i : Int) + 3 = Int32.ofInt ((i + 3 : Nat) : Int) := by
  show Int32.ofInt (i : Int) + Int32.ofInt 3 = _
  exact (o_add _ _).trans (congrArg Int32.ofInt (show (i : Int) + 3 = ((i + 3 : Nat) : Int) by omega))
theorem jad4 {i : Nat} : Int32.ofInt (i : Int) + 4 = Int32.ofInt ((i + 4 : Nat) : Int) := by
  show Int32.ofInt (i : Int) + Int32.ofInt 4 = _
  exact (o_add _ _).trans (congrArg Int32.ofInt (show (i : Int) + 4 = ((i + 4 : Nat) : Int) by omega))
theorem jad5 {i : Nat} : Int32.ofInt (i : Int) + 5 = Int32.ofInt ((i + 5 : Nat) : Int) := by
  show Int32.ofInt (i : Int) + Int32.ofInt 5 = _
  exact (o_add _ _).trans (congrArg Int32.ofInt (show (i : Int) + 5 = ((i + 5 : Nat) : Int) by omega))
/-- a word as a truth -/
def bz (x : Int) : Int := if x = 0 then 0 else 1
theorem bz_b (x : Int) : bz x = 0 ∨ bz x = 1 := by
  unfold bz
  split
  · exact Or.inl rfl
  · exact Or.inr rfl
theorem i64_ex (x : Int64) : ∃ B : Int, x = Int64.ofInt B ∧ (-9223372036854775808 ≤ B ∧ B < 9223372036854775808) := ⟨x.toInt, (Int64.ofInt_toInt x).symm, Int64.le_toInt x, Int64.toInt_lt x⟩
/-- the law's locals -/
def lvB (lv : xLv) (i : Nat) : Prop := xld lv 0 = some (.ref 0) ∧ xld lv 1 = some (.ref 7) ∧ xld lv 2 = some (.ref 128) ∧ xld lv 3 = some (.ref 194) ∧ xld lv 4 = some (.int (Int32.ofInt (i : Int)))
theorem lvB.s5 {lv : xLv} {i : Nat} {v : Value} (h : lvB lv i) : lvB (xst1 lv 5 v) i := ⟨xld_n1 rfl rfl h.1, xld_n1 rfl rfl h.2.1, xld_n1 rfl rfl h.2.2.1, xld_n1 rfl rfl h.2.2.2.1, xld_n1 rfl rfl h.2.2.2.2⟩
theorem lvB.s6 {lv : xLv} {i : Nat} {v : Value} (h : lvB lv i) : lvB (xst1 lv 6 v) i := ⟨xld_n1 rfl rfl h.1, xld_n1 rfl rfl h.2.1, xld_n1 rfl rfl h.2.2.1, xld_n1 rfl rfl h.2.2.2.1, xld_n1 rfl rfl h.2.2.2.2⟩
theorem lvB.t6 {lv : xLv} {i : Nat} {v : Value} (h : lvB lv i) : lvB (xst2 lv 6 v) i := ⟨xld_n2 rfl rfl h.1, xld_n2 rfl rfl h.2.1, xld_n2 rfl rfl h.2.2.1, xld_n2 rfl rfl h.2.2.2.1, xld_n2 rfl rfl h.2.2.2.2⟩
/-- what follows a call -/
def lwN (W : xW) (d L Z i : Nat) (Q : Option Value ⊕ Nat → xW → Prop) : Prop := ∀ (L' Z' : Nat) (w' : xW) (lv' : xLv), L' ≤ L + 2 → Z' ≤ Z + 12 → IV0 W L' Z' w' → lvB lv' i → xEv (d + 21) 287 2154 lv' [] w' Q
theorem IV0.c0 {W w : xW} {L Z : Nat} (h : IV0 W L Z w) : w[0]? = W[0]? := by
  obtain ⟨S, V, Sm, Vm, g, hW, -⟩ := h
  exact hW.2.2.2 0 (by decide)
theorem IV0.c7 {W w : xW} {L Z : Nat} (h : IV0 W L Z w) : ∃ fs, w[7]? = some (.inr (0, fs)) := by
  obtain ⟨S, V, Sm, Vm, g, hW, -⟩ := h
  exact ⟨_, hW.1.k0 kq_7⟩
section
variable {W w : xW} {L Z d n i : Nat} {f : Nat → Int} {lv : xLv} {Q : Option Value ⊕ Nat → xW → Prop}
theorem lw_0 (hIV : IV0 W L Z w) (h0 : W[0]? = some (.inl (0, n, fun j => .int (Int32.ofInt (f j))))) (hf : ∀ j, -2147483648 ≤ f j ∧ f j < 2147483648) (hi : i + 6 ≤ n) (hn : n ≤ 3072) (hl : lvB lv i) (k : lwN W d L Z i Q) : xEv (d + 21) 287 152 lv [] w Q := by
  obtain ⟨l0, l1, l2, l3, l4⟩ := id hl
  have hw := hIV.c0.trans h0
  obtain ⟨kk, w3, hrun, hkb, v, w4, hr4, hK3, L', Z', hL, hZ, hV⟩ := st_prec (W := W) (L := L) (Z := Z) (d := d) (w := w) (r := f (i + 1)) (p := f (i + 2)) hIV (hf _) (hf _)
  have hw3 := (hK3.1 0 (by decide)).trans h0
  obtain ⟨fs, h128⟩ := hK3.2
  refine i_287_152 l1 ?_
  refine i_287_153 l0 ?_
  refine i_287_154 l4 ?_
  refine i_287_156 ?_
  refine i_287_157 jad1 ?_
  refine i_287_158 hw (jx 1 hi hn (by decide)).1 (jx 1 hi hn (by decide)).2.1 (jv (f := f) 1 hi hn (by decide)) ?_
  refine i_287_159 l0 ?_
  refine i_287_160 l4 ?_
  refine i_287_162 ?_
  refine i_287_163 jad2 ?_
  refine i_287_164 hw (jx 2 hi hn (by decide)).1 (jx 2 hi hn (by decide)).2.1 (jv (f := f) 2 hi hn (by decide)) ?_
  refine i_287_165 l3 ?_
  refine i_287_166 (Nat.le_of_ble_eq_true rfl) hrun ?_
  refine i_287_169 rfl ?_
  have hl5 := hl.s5 (v := .int (Int32.ofInt kk))
  have m5 : xld (xst1 lv 5 (.int (Int32.ofInt kk))) 5 = some (.int (Int32.ofInt kk)) := xld_s1
  generalize xst1 lv 5 (.int (Int32.ofInt kk)) = lv5 at hl5 m5 ⊢
  obtain ⟨m0, m1, m2, m3, m4⟩ := id hl5
  refine i_287_171 m2 ?_
  refine i_287_172 m0 ?_
  refine i_287_173 m4 ?_
  refine i_287_175 ?_
  refine i_287_176 jad1 ?_
  refine i_287_177 hw3 (jx 1 hi hn (by decide)).1 (jx 1 hi hn (by decide)).2.1 (jv (f := f) 1 hi hn (by decide)) ?_
  refine i_287_178 m0 ?_
  refine i_287_179 m4 ?_
  refine i_287_181 ?_
  refine i_287_182 jad2 ?_
  refine i_287_183 hw3 (jx 2 hi hn (by decide)).1 (jx 2 hi hn (by decide)).2.1 (jv (f := f) 2 hi hn (by decide)) ?_
  refine i_287_184 h128 (Nat.le_of_ble_eq_true rfl) hr4 ?_
  refine i_287_187 rfl ?_
  have hl6 := hl5.s6 (v := .int v)
  have p5 : xld (xst1 lv5 6 (.int v)) 5 = some (.int (Int32.ofInt kk)) := xld_n1 rfl rfl m5
  have p6 : xld (xst1 lv5 6 (.int v)) 6 = some (.int v) := xld_s1
  generalize xst1 lv5 6 (.int v) = lv6 at hl6 p5 p6 ⊢
  obtain ⟨p0, p1, p2, p3, p4⟩ := id hl6
  obtain ⟨S, V, Sm, Vm, g, hW, hI, hM, hJ, hE, h31, hg⟩ := id hV
  have hthr := s_thrown (d := d + 19) hW.2.1
  rw [h31] at hthr
  refine i_287_189 p2 ?_
  refine i_287_190 hW.2.1.2.1 (Nat.le_of_ble_eq_true rfl) hthr ?_
  refine i_287_193 p5 ?_
  refine i_287_195 (fun _ => ?_) (fun h => absurd rfl h)
  refine i_287_200 p5 ?_
  refine i_287_202 (fun _ => ?_) (fun h => ?_)
  · refine i_287_217 ?_
    exact k L' Z' w4 lv6 hL hZ hV.w hl6
  · have k0 : kk = 0 := by
      rw [oI hkb.1 hkb.2] at h
      exact h
    refine i_287_205 p3 ?_
    refine i_287_206 ?_
    refine i_287_207 hW.2.2.1 (by decide) (by decide) (hg k0) ?_
    refine i_287_208 p6 ?_
    refine i_287_210 rfl ?_
    refine i_287_211 (c := 0) lgc ?_
    refine i_287_212 (fun _ => ?_) (fun h => absurd rfl h)
    refine i_287_217 ?_
    exact k L' Z' w4 lv6 hL hZ hV.w hl6
theorem lw_1 (hIV : IV0 W L Z w) (h0 : W[0]? = some (.inl (0, n, fun j => .int (Int32.ofInt (f j))))) (hf : ∀ j, -2147483648 ≤ f j ∧ f j < 2147483648) (hi : i + 6 ≤ n) (hn : n ≤ 3072) (hl : lvB lv i) (k : lwN W d L Z i Q) : xEv (d + 21) 287 220 lv [] w Q := by
  obtain ⟨l0, l1, l2, l3, l4⟩ := id hl
  have hw := hIV.c0.trans h0
  obtain ⟨kk, w3, hrun, hkb, v, w4, hr4, hK3, L', Z', hL, hZ, hV⟩ := st_range (W := W) (L := L) (Z := Z) (d := d) (w := w) (l := f (i + 1)) (gr := f (i + 2)) (s := bz (f (i + 3))) hIV (hf _) (hf _) (bz_b _)
  have hw3 := (hK3.1 0 (by decide)).trans h0
  obtain ⟨fs, h128⟩ := hK3.2
  refine i_287_220 l1 ?_
  refine i_287_221 l0 ?_
  refine i_287_222 l4 ?_
  refine i_287_224 ?_
  refine i_287_225 jad1 ?_
  refine i_287_226 hw (jx 1 hi hn (by decide)).1 (jx 1 hi hn (by decide)).2.1 (jv (f := f) 1 hi hn (by decide)) ?_
  refine i_287_227 l0 ?_
  refine i_287_228 l4 ?_
  refine i_287_230 ?_
  refine i_287_231 jad2 ?_
  refine i_287_232 hw (jx 2 hi hn (by decide)).1 (jx 2 hi hn (by decide)).2.1 (jv (f := f) 2 hi hn (by decide)) ?_
  refine i_287_233 l0 ?_
  refine i_287_234 l4 ?_
  refine i_287_236 ?_
  refine i_287_237 jad3 ?_
  refine i_287_238 hw (jx 3 hi hn (by decide)).1 (jx 3 hi hn (by decide)).2.1 (jv (f := f) 3 hi hn (by decide)) ?_
  have kb1 : xEv (d + 21) 287 247 lv [Value.int (Int32.ofInt (bz (f (i + 3)))), Value.int (Int32.ofInt (f (i + 2))), Value.int (Int32.ofInt (f (i + 1))), Value.ref 7] w Q := by
    refine i_287_247 l3 ?_
    refine i_287_248 (Nat.le_of_ble_eq_true rfl) hrun ?_
    refine i_287_251 rfl ?_
    have hl5 := hl.s5 (v := .int (Int32.ofInt kk))
    have m5 : xld (xst1 lv 5 (.int (Int32.ofInt kk))) 5 = some (.int (Int32.ofInt kk)) := xld_s1
    generalize xst1 lv 5 (.int (Int32.ofInt kk)) = lv5 at hl5 m5 ⊢
    obtain ⟨m0, m1, m2, m3, m4⟩ := id hl5
    refine i_287_253 m2 ?_
    refine i_287_254 m0 ?_
    refine i_287_255 m4 ?_
    refine i_287_257 ?_
    refine i_287_258 jad1 ?_
    refine i_287_259 hw3 (jx 1 hi hn (by decide)).1 (jx 1 hi hn (by decide)).2.1 (jv (f := f) 1 hi hn (by decide)) ?_
    refine i_287_260 m0 ?_
    refine i_287_261 m4 ?_
    refine i_287_263 ?_
    refine i_287_264 jad2 ?_
    refine i_287_265 hw3 (jx 2 hi hn (by decide)).1 (jx 2 hi hn (by decide)).2.1 (jv (f := f) 2 hi hn (by decide)) ?_
    refine i_287_266 m0 ?_
    refine i_287_267 m4 ?_
    refine i_287_269 ?_
    refine i_287_270 jad3 ?_
    refine i_287_271 hw3 (jx 3 hi hn (by decide)).1 (jx 3 hi hn (by decide)).2.1 (jv (f := f) 3 hi hn (by decide)) ?_
    have kb2 : xEv (d + 21) 287 280 lv5 [Value.int (Int32.ofInt (bz (f (i + 3)))), Value.int (Int32.ofInt (f (i + 2))), Value.int (Int32.ofInt (f (i + 1))), Value.ref 128] w3 Q := by
      refine i_287_280 h128 (Nat.le_of_ble_eq_true rfl) hr4 ?_
      refine i_287_283 rfl ?_
      have hl6 := hl5.s6 (v := .int v)
      have p5 : xld (xst1 lv5 6 (.int v)) 5 = some (.int (Int32.ofInt kk)) := xld_n1 rfl rfl m5
      have p6 : xld (xst1 lv5 6 (.int v)) 6 = some (.int v) := xld_s1
      generalize xst1 lv5 6 (.int v) = lv6 at hl6 p5 p6 ⊢
      obtain ⟨p0, p1, p2, p3, p4⟩ := id hl6
      obtain ⟨S, V, Sm, Vm, g, hW, hI, hM, hJ, hE, h31, hg⟩ := id hV
      have hthr := s_thrown (d := d + 19) hW.2.1
      rw [h31] at hthr
      refine i_287_285 p2 ?_
      refine i_287_286 hW.2.1.2.1 (Nat.le_of_ble_eq_true rfl) hthr ?_
      refine i_287_289 p5 ?_
      refine i_287_291 (fun _ => ?_) (fun h => absurd rfl h)
      refine i_287_296 p5 ?_
      refine i_287_298 (fun _ => ?_) (fun h => ?_)
      · refine i_287_313 ?_
        exact k L' Z' w4 lv6 hL hZ hV.w hl6
      · have k0 : kk = 0 := by
          rw [oI hkb.1 hkb.2] at h
          exact h
        refine i_287_301 p3 ?_
        refine i_287_302 ?_
        refine i_287_303 hW.2.2.1 (by decide) (by decide) (hg k0) ?_
        refine i_287_304 p6 ?_
        refine i_287_306 rfl ?_
        refine i_287_307 (c := 0) lgc ?_
        refine i_287_308 (fun _ => ?_) (fun h => absurd rfl h)
        refine i_287_313 ?_
        exact k L' Z' w4 lv6 hL hZ hV.w hl6
    refine i_287_272 (fun h => ?_) (fun h => ?_)
    · rw [oI (hf _).1 (hf _).2] at h
      refine i_287_279 ?_
      rw [show bz (f (i + 3)) = 0 from if_pos h, show Int32.ofInt 0 = (0 : Int32) from rfl] at kb2
      exact kb2
    · rw [oI (hf _).1 (hf _).2] at h
      refine i_287_275 ?_
      refine i_287_276 ?_
      rw [show bz (f (i + 3)) = 1 from if_neg h, show Int32.ofInt 1 = (1 : Int32) from rfl] at kb2
      exact kb2
  refine i_287_239 (fun h => ?_) (fun h => ?_)
  · rw [oI (hf _).1 (hf _).2] at h
    refine i_287_246 ?_
    rw [show bz (f (i + 3)) = 0 from if_pos h, show Int32.ofInt 0 = (0 : Int32) from rfl] at kb1
    exact kb1
  · rw [oI (hf _).1 (hf _).2] at h
    refine i_287_242 ?_
    refine i_287_243 ?_
    rw [show bz (f (i + 3)) = 1 from if_neg h, show Int32.ofInt 1 = (1 : Int32) from rfl] at kb1
    exact kb1
theorem lw_2 (hIV : IV0 W L Z w) (h0 : W[0]? = some (.inl (0, n, fun j => .int (Int32.ofInt (f j))))) (hf : ∀ j, -2147483648 ≤ f j ∧ f j < 2147483648) (hi : i + 6 ≤ n) (hn : n ≤ 3072) (hl : lvB lv i) (k : lwN W d L Z i Q) : xEv (d + 21) 287 316 lv [] w Q := by
  obtain ⟨l0, l1, l2, l3, l4⟩ := id hl
  have hw := hIV.c0.trans h0
  obtain ⟨f7, h7⟩ := hIV.c7
  obtain ⟨a, w3, hrun, w4, hr4, hK3, hV⟩ := st_flags (W := W) (L := L) (Z := Z) (d := d) (w := w) (tk := bz (f (i + 1))) hIV (bz_b _)
  have hw3 := (hK3.1 0 (by decide)).trans h0
  obtain ⟨fs, h128⟩ := hK3.2
  refine i_287_316 l1 ?_
  refine i_287_317 l0 ?_
  refine i_287_318 l4 ?_
  refine i_287_320 ?_
  refine i_287_321 jad1 ?_
  refine i_287_322 hw (jx 1 hi hn (by decide)).1 (jx 1 hi hn (by decide)).2.1 (jv (f := f) 1 hi hn (by decide)) ?_
  have kb1 : xEv (d + 21) 287 331 lv [Value.int (Int32.ofInt (bz (f (i + 1)))), Value.ref 7] w Q := by
    refine i_287_331 h7 (Nat.le_of_ble_eq_true rfl) hrun ?_
    refine i_287_334 l2 ?_
    refine i_287_335 l0 ?_
    refine i_287_336 l4 ?_
    refine i_287_338 ?_
    refine i_287_339 jad1 ?_
    refine i_287_340 hw3 (jx 1 hi hn (by decide)).1 (jx 1 hi hn (by decide)).2.1 (jv (f := f) 1 hi hn (by decide)) ?_
    have kb2 : xEv (d + 21) 287 349 lv [Value.int (Int32.ofInt (bz (f (i + 1)))), Value.ref 128, Value.int (a)] w3 Q := by
      refine i_287_349 h128 (Nat.le_of_ble_eq_true rfl) hr4 ?_
      refine i_287_352 (fun _ => ?_) (fun h => absurd rfl h)
      exact k L Z w4 lv (by omega) (by omega) hV hl
    refine i_287_341 (fun h => ?_) (fun h => ?_)
    · rw [oI (hf _).1 (hf _).2] at h
      refine i_287_348 ?_
      rw [show bz (f (i + 1)) = 0 from if_pos h, show Int32.ofInt 0 = (0 : Int32) from rfl] at kb2
      exact kb2
    · rw [oI (hf _).1 (hf _).2] at h
      refine i_287_344 ?_
      refine i_287_345 ?_
      rw [show bz (f (i + 1)) = 1 from if_neg h, show Int32.ofInt 1 = (1 : Int32) from rfl] at kb2
      exact kb2
  refine i_287_323 (fun h => ?_) (fun h => ?_)
  · rw [oI (hf _).1 (hf _).2] at h
    refine i_287_330 ?_
    rw [show bz (f (i + 1)) = 0 from if_pos h, show Int32.ofInt 0 = (0 : Int32) from rfl] at kb1
    exact kb1
  · rw [oI (hf _).1 (hf _).2] at h
    refine i_287_326 ?_
    refine i_287_327 ?_
    rw [show bz (f (i + 1)) = 1 from if_neg h, show Int32.ofInt 1 = (1 : Int32) from rfl] at kb1
    exact kb1
theorem lw_3 (hIV : IV0 W L Z w) (h0 : W[0]? = some (.inl (0, n, fun j => .int (Int32.ofInt (f j))))) (hf : ∀ j, -2147483648 ≤ f j ∧ f j < 2147483648) (hi : i + 6 ≤ n) (hn : n ≤ 3072) (hl : lvB lv i) (k : lwN W d L Z i Q) : xEv (d + 21) 287 357 lv [] w Q := by
  obtain ⟨l0, l1, l2, l3, l4⟩ := id hl
  have hw := hIV.c0.trans h0
  obtain ⟨B, hB, bB⟩ := i64_ex ((Int32.ofInt (f (i + 2))).toInt64 <<< ((32 : Int32).toInt64 &&& 63) ||| (Int32.ofInt (f (i + 3))).toInt64 &&& 4294967295)
  obtain ⟨kk, w3, hrun, hkb, v, w4, hr4, hK3, L', Z', hL, hZ, hV⟩ := st_num (W := W) (L := L) (Z := Z) (d := d) (w := w) (r := f (i + 1)) (v := B) (sc := f (i + 4)) (mode := f (i + 5)) hIV (hf _) bB (hf _) (hf _)
  have hw3 := (hK3.1 0 (by decide)).trans h0
  obtain ⟨fs, h128⟩ := hK3.2
  refine i_287_357 l1 ?_
  refine i_287_358 l0 ?_
  refine i_287_359 l4 ?_
  refine i_287_361 ?_
  refine i_287_362 jad1 ?_
  refine i_287_363 hw (jx 1 hi hn (by decide)).1 (jx 1 hi hn (by decide)).2.1 (jv (f := f) 1 hi hn (by decide)) ?_
  refine i_287_364 l0 ?_
  refine i_287_365 l4 ?_
  refine i_287_367 ?_
  refine i_287_368 jad2 ?_
  refine i_287_369 hw (jx 2 hi hn (by decide)).1 (jx 2 hi hn (by decide)).2.1 (jv (f := f) 2 hi hn (by decide)) ?_
  refine i_287_370 rfl ?_
  refine i_287_371 ?_
  refine i_287_373 rfl ?_
  refine i_287_374 l0 ?_
  refine i_287_375 l4 ?_
  refine i_287_377 ?_
  refine i_287_378 jad3 ?_
  refine i_287_379 hw (jx 3 hi hn (by decide)).1 (jx 3 hi hn (by decide)).2.1 (jv (f := f) 3 hi hn (by decide)) ?_
  refine i_287_380 rfl ?_
  refine i_287_381 ?_
  refine i_287_384 rfl ?_
  refine i_287_385 (c := Int64.ofInt B) hB ?_
  refine i_287_386 l0 ?_
  refine i_287_387 l4 ?_
  refine i_287_389 ?_
  refine i_287_390 jad4 ?_
  refine i_287_391 hw (jx 4 hi hn (by decide)).1 (jx 4 hi hn (by decide)).2.1 (jv (f := f) 4 hi hn (by decide)) ?_
  refine i_287_392 l0 ?_
  refine i_287_393 l4 ?_
  refine i_287_395 ?_
  refine i_287_396 jad5 ?_
  refine i_287_397 hw (jx 5 hi hn (by decide)).1 (jx 5 hi hn (by decide)).2.1 (jv (f := f) 5 hi hn (by decide)) ?_
  refine i_287_398 l3 ?_
  refine i_287_399 (Nat.le_of_ble_eq_true rfl) hrun ?_
  refine i_287_402 rfl ?_
  have hl5 := hl.s5 (v := .int (Int32.ofInt kk))
  have m5 : xld (xst1 lv 5 (.int (Int32.ofInt kk))) 5 = some (.int (Int32.ofInt kk)) := xld_s1
  generalize xst1 lv 5 (.int (Int32.ofInt kk)) = lv5 at hl5 m5 ⊢
  obtain ⟨m0, m1, m2, m3, m4⟩ := id hl5
  refine i_287_404 m2 ?_
  refine i_287_405 m0 ?_
  refine i_287_406 m4 ?_
  refine i_287_408 ?_
  refine i_287_409 jad1 ?_
  refine i_287_410 hw3 (jx 1 hi hn (by decide)).1 (jx 1 hi hn (by decide)).2.1 (jv (f := f) 1 hi hn (by decide)) ?_
  refine i_287_411 m0 ?_
  refine i_287_412 m4 ?_
  refine i_287_414 ?_
  refine i_287_415 jad2 ?_
  refine i_287_416 hw3 (jx 2 hi hn (by decide)).1 (jx 2 hi hn (by decide)).2.1 (jv (f := f) 2 hi hn (by decide)) ?_
  refine i_287_417 rfl ?_
  refine i_287_418 ?_
  refine i_287_420 rfl ?_
  refine i_287_421 m0 ?_
  refine i_287_422 m4 ?_
  refine i_287_424 ?_
  refine i_287_425 jad3 ?_
  refine i_287_426 hw3 (jx 3 hi hn (by decide)).1 (jx 3 hi hn (by decide)).2.1 (jv (f := f) 3 hi hn (by decide)) ?_
  refine i_287_427 rfl ?_
  refine i_287_428 ?_
  refine i_287_431 rfl ?_
  refine i_287_432 (c := Int64.ofInt B) hB ?_
  refine i_287_433 m0 ?_
  refine i_287_434 m4 ?_
  refine i_287_436 ?_
  refine i_287_437 jad4 ?_
  refine i_287_438 hw3 (jx 4 hi hn (by decide)).1 (jx 4 hi hn (by decide)).2.1 (jv (f := f) 4 hi hn (by decide)) ?_
  refine i_287_439 m0 ?_
  refine i_287_440 m4 ?_
  refine i_287_442 ?_
  refine i_287_443 jad5 ?_
  refine i_287_444 hw3 (jx 5 hi hn (by decide)).1 (jx 5 hi hn (by decide)).2.1 (jv (f := f) 5 hi hn (by decide)) ?_
  refine i_287_445 h128 (Nat.le_of_ble_eq_true rfl) hr4 ?_
  refine i_287_448 rfl ?_
  have hl6 := hl5.s6 (v := .int v)
  have p5 : xld (xst1 lv5 6 (.int v)) 5 = some (.int (Int32.ofInt kk)) := xld_n1 rfl rfl m5
  have p6 : xld (xst1 lv5 6 (.int v)) 6 = some (.int v) := xld_s1
  generalize xst1 lv5 6 (.int v) = lv6 at hl6 p5 p6 ⊢
  obtain ⟨p0, p1, p2, p3, p4⟩ := id hl6
  obtain ⟨S, V, Sm, Vm, g, hW, hI, hM, hJ, hE, h31, hg⟩ := id hV
  have hthr := s_thrown (d := d + 19) hW.2.1
  rw [h31] at hthr
  refine i_287_450 p2 ?_
  refine i_287_451 hW.2.1.2.1 (Nat.le_of_ble_eq_true rfl) hthr ?_
  refine i_287_454 p5 ?_
  refine i_287_456 (fun _ => ?_) (fun h => absurd rfl h)
  refine i_287_461 p5 ?_
  refine i_287_463 (fun _ => ?_) (fun h => ?_)
  · refine i_287_478 ?_
    exact k L' Z' w4 lv6 hL hZ hV.w hl6
  · have k0 : kk = 0 := by
      rw [oI hkb.1 hkb.2] at h
      exact h
    refine i_287_466 p3 ?_
    refine i_287_467 ?_
    refine i_287_468 hW.2.2.1 (by decide) (by decide) (hg k0) ?_
    refine i_287_469 p6 ?_
    refine i_287_471 rfl ?_
    refine i_287_472 (c := 0) lgc ?_
    refine i_287_473 (fun _ => ?_) (fun h => absurd rfl h)
    refine i_287_478 ?_
    exact k L' Z' w4 lv6 hL hZ hV.w hl6
theorem lw_4 (hIV : IV0 W L Z w) (h0 : W[0]? = some (.inl (0, n, fun j => .int (Int32.ofInt (f j))))) (hf : ∀ j, -2147483648 ≤ f j ∧ f j < 2147483648) (hi : i + 6 ≤ n) (hn : n ≤ 3072) (hl : lvB lv i) (k : lwN W d L Z i Q) : xEv (d + 21) 287 481 lv [] w Q := by
  obtain ⟨l0, l1, l2, l3, l4⟩ := id hl
  have hw := hIV.c0.trans h0
  obtain ⟨kk, w3, hrun, hkb, v, w4, hr4, hK3, L', Z', hL, hZ, hV⟩ := st_copy (W := W) (L := L) (Z := Z) (d := d) (w := w) (r := f (i + 1)) (a := f (i + 2)) (how := f (i + 3)) (mode := f (i + 4)) hIV (hf _) (hf _) (hf _) (hf _)
  have hw3 := (hK3.1 0 (by decide)).trans h0
  obtain ⟨fs, h128⟩ := hK3.2
  refine i_287_481 l1 ?_
  refine i_287_482 l0 ?_
  refine i_287_483 l4 ?_
  refine i_287_485 ?_
  refine i_287_486 jad1 ?_
  refine i_287_487 hw (jx 1 hi hn (by decide)).1 (jx 1 hi hn (by decide)).2.1 (jv (f := f) 1 hi hn (by decide)) ?_
  refine i_287_488 l0 ?_
  refine i_287_489 l4 ?_
  refine i_287_491 ?_
  refine i_287_492 jad2 ?_
  refine i_287_493 hw (jx 2 hi hn (by decide)).1 (jx 2 hi hn (by decide)).2.1 (jv (f := f) 2 hi hn (by decide)) ?_
  refine i_287_494 l0 ?_
  refine i_287_495 l4 ?_
  refine i_287_497 ?_
  refine i_287_498 jad3 ?_
  refine i_287_499 hw (jx 3 hi hn (by decide)).1 (jx 3 hi hn (by decide)).2.1 (jv (f := f) 3 hi hn (by decide)) ?_
  refine i_287_500 l0 ?_
  refine i_287_501 l4 ?_
  refine i_287_503 ?_
  refine i_287_504 jad4 ?_
  refine i_287_505 hw (jx 4 hi hn (by decide)).1 (jx 4 hi hn (by decide)).2.1 (jv (f := f) 4 hi hn (by decide)) ?_
  refine i_287_506 l3 ?_
  refine i_287_507 (Nat.le_of_ble_eq_true rfl) hrun ?_
  refine i_287_510 rfl ?_
  have hl5 := hl.s5 (v := .int (Int32.ofInt kk))
  have m5 : xld (xst1 lv 5 (.int (Int32.ofInt kk))) 5 = some (.int (Int32.ofInt kk)) := xld_s1
  generalize xst1 lv 5 (.int (Int32.ofInt kk)) = lv5 at hl5 m5 ⊢
  obtain ⟨m0, m1, m2, m3, m4⟩ := id hl5
  refine i_287_512 m2 ?_
  refine i_287_513 m0 ?_
  refine i_287_514 m4 ?_
  refine i_287_516 ?_
  refine i_287_517 jad1 ?_
  refine i_287_518 hw3 (jx 1 hi hn (by decide)).1 (jx 1 hi hn (by decide)).2.1 (jv (f := f) 1 hi hn (by decide)) ?_
  refine i_287_519 m0 ?_
  refine i_287_520 m4 ?_
  refine i_287_522 ?_
  refine i_287_523 jad2 ?_
  refine i_287_524 hw3 (jx 2 hi hn (by decide)).1 (jx 2 hi hn (by decide)).2.1 (jv (f := f) 2 hi hn (by decide)) ?_
  refine i_287_525 m0 ?_
  refine i_287_526 m4 ?_
  refine i_287_528 ?_
  refine i_287_529 jad3 ?_
  refine i_287_530 hw3 (jx 3 hi hn (by decide)).1 (jx 3 hi hn (by decide)).2.1 (jv (f := f) 3 hi hn (by decide)) ?_
  refine i_287_531 m0 ?_
  refine i_287_532 m4 ?_
  refine i_287_534 ?_
  refine i_287_535 jad4 ?_
  refine i_287_536 hw3 (jx 4 hi hn (by decide)).1 (jx 4 hi hn (by decide)).2.1 (jv (f := f) 4 hi hn (by decide)) ?_
  refine i_287_537 h128 (Nat.le_of_ble_eq_true rfl) hr4 ?_
  refine i_287_540 rfl ?_
  have hl6 := hl5.s6 (v := .int v)
  have p5 : xld (xst1 lv5 6 (.int v)) 5 = some (.int (Int32.ofInt kk)) := xld_n1 rfl rfl m5
  have p6 : xld (xst1 lv5 6 (.int v)) 6 = some (.int v) := xld_s1
  generalize xst1 lv5 6 (.int v) = lv6 at hl6 p5 p6 ⊢
  obtain ⟨p0, p1, p2, p3, p4⟩ := id hl6
  obtain ⟨S, V, Sm, Vm, g, hW, hI, hM, hJ, hE, h31, hg⟩ := id hV
  have hthr := s_thrown (d := d + 19) hW.2.1
  rw [h31] at hthr
  refine i_287_542 p2 ?_
  refine i_287_543 hW.2.1.2.1 (Nat.le_of_ble_eq_true rfl) hthr ?_
  refine i_287_546 p5 ?_
  refine i_287_548 (fun _ => ?_) (fun h => absurd rfl h)
  refine i_287_553 p5 ?_
  refine i_287_555 (fun _ => ?_) (fun h => ?_)
  · refine i_287_570 ?_
    exact k L' Z' w4 lv6 hL hZ hV.w hl6
  · have k0 : kk = 0 := by
      rw [oI hkb.1 hkb.2] at h
      exact h
    refine i_287_558 p3 ?_
    refine i_287_559 ?_
    refine i_287_560 hW.2.2.1 (by decide) (by decide) (hg k0) ?_
    refine i_287_561 p6 ?_
    refine i_287_563 rfl ?_
    refine i_287_564 (c := 0) lgc ?_
    refine i_287_565 (fun _ => ?_) (fun h => absurd rfl h)
    refine i_287_570 ?_
    exact k L' Z' w4 lv6 hL hZ hV.w hl6
theorem lw_5 (hIV : IV0 W L Z w) (h0 : W[0]? = some (.inl (0, n, fun j => .int (Int32.ofInt (f j))))) (hf : ∀ j, -2147483648 ≤ f j ∧ f j < 2147483648) (hi : i + 6 ≤ n) (hn : n ≤ 3072) (hl : lvB lv i) (k : lwN W d L Z i Q) : xEv (d + 21) 287 573 lv [] w Q := by
  obtain ⟨l0, l1, l2, l3, l4⟩ := id hl
  have hw := hIV.c0.trans h0
  obtain ⟨kk, w3, hrun, hkb, v, w4, hr4, hK3, L', Z', hL, hZ, hV⟩ := st_rec (W := W) (L := L) (Z := Z) (d := d) (w := w) (op := f (i + 1)) (r := f (i + 2)) (a := f (i + 3)) (b := f (i + 4)) (mode := f (i + 5)) hIV (hf _) (hf _) (hf _) (hf _) (hf _)
  have hw3 := (hK3.1 0 (by decide)).trans h0
  obtain ⟨fs, h128⟩ := hK3.2
  refine i_287_573 l1 ?_
  refine i_287_574 l0 ?_
  refine i_287_575 l4 ?_
  refine i_287_577 ?_
  refine i_287_578 jad1 ?_
  refine i_287_579 hw (jx 1 hi hn (by decide)).1 (jx 1 hi hn (by decide)).2.1 (jv (f := f) 1 hi hn (by decide)) ?_
  refine i_287_580 l0 ?_
  refine i_287_581 l4 ?_
  refine i_287_583 ?_
  refine i_287_584 jad2 ?_
  refine i_287_585 hw (jx 2 hi hn (by decide)).1 (jx 2 hi hn (by decide)).2.1 (jv (f := f) 2 hi hn (by decide)) ?_
  refine i_287_586 l0 ?_
  refine i_287_587 l4 ?_
  refine i_287_589 ?_
  refine i_287_590 jad3 ?_
  refine i_287_591 hw (jx 3 hi hn (by decide)).1 (jx 3 hi hn (by decide)).2.1 (jv (f := f) 3 hi hn (by decide)) ?_
  refine i_287_592 l0 ?_
  refine i_287_593 l4 ?_
  refine i_287_595 ?_
  refine i_287_596 jad4 ?_
  refine i_287_597 hw (jx 4 hi hn (by decide)).1 (jx 4 hi hn (by decide)).2.1 (jv (f := f) 4 hi hn (by decide)) ?_
  refine i_287_598 l0 ?_
  refine i_287_599 l4 ?_
  refine i_287_601 ?_
  refine i_287_602 jad5 ?_
  refine i_287_603 hw (jx 5 hi hn (by decide)).1 (jx 5 hi hn (by decide)).2.1 (jv (f := f) 5 hi hn (by decide)) ?_
  refine i_287_604 l3 ?_
  refine i_287_605 (Nat.le_of_ble_eq_true rfl) hrun ?_
  refine i_287_608 rfl ?_
  have hl5 := hl.s5 (v := .int (Int32.ofInt kk))
  have m5 : xld (xst1 lv 5 (.int (Int32.ofInt kk))) 5 = some (.int (Int32.ofInt kk)) := xld_s1
  generalize xst1 lv 5 (.int (Int32.ofInt kk)) = lv5 at hl5 m5 ⊢
  obtain ⟨m0, m1, m2, m3, m4⟩ := id hl5
  refine i_287_610 m2 ?_
  refine i_287_611 m0 ?_
  refine i_287_612 m4 ?_
  refine i_287_614 ?_
  refine i_287_615 jad1 ?_
  refine i_287_616 hw3 (jx 1 hi hn (by decide)).1 (jx 1 hi hn (by decide)).2.1 (jv (f := f) 1 hi hn (by decide)) ?_
  refine i_287_617 m0 ?_
  refine i_287_618 m4 ?_
  refine i_287_620 ?_
  refine i_287_621 jad2 ?_
  refine i_287_622 hw3 (jx 2 hi hn (by decide)).1 (jx 2 hi hn (by decide)).2.1 (jv (f := f) 2 hi hn (by decide)) ?_
  refine i_287_623 m0 ?_
  refine i_287_624 m4 ?_
  refine i_287_626 ?_
  refine i_287_627 jad3 ?_
  refine i_287_628 hw3 (jx 3 hi hn (by decide)).1 (jx 3 hi hn (by decide)).2.1 (jv (f := f) 3 hi hn (by decide)) ?_
  refine i_287_629 m0 ?_
  refine i_287_630 m4 ?_
  refine i_287_632 ?_
  refine i_287_633 jad4 ?_
  refine i_287_634 hw3 (jx 4 hi hn (by decide)).1 (jx 4 hi hn (by decide)).2.1 (jv (f := f) 4 hi hn (by decide)) ?_
  refine i_287_635 m0 ?_
  refine i_287_636 m4 ?_
  refine i_287_638 ?_
  refine i_287_639 jad5 ?_
  refine i_287_640 hw3 (jx 5 hi hn (by decide)).1 (jx 5 hi hn (by decide)).2.1 (jv (f := f) 5 hi hn (by decide)) ?_
  refine i_287_641 h128 (Nat.le_of_ble_eq_true rfl) hr4 ?_
  refine i_287_644 rfl ?_
  have hl6 := hl5.s6 (v := .int v)
  have p5 : xld (xst1 lv5 6 (.int v)) 5 = some (.int (Int32.ofInt kk)) := xld_n1 rfl rfl m5
  have p6 : xld (xst1 lv5 6 (.int v)) 6 = some (.int v) := xld_s1
  generalize xst1 lv5 6 (.int v) = lv6 at hl6 p5 p6 ⊢
  obtain ⟨p0, p1, p2, p3, p4⟩ := id hl6
  obtain ⟨S, V, Sm, Vm, g, hW, hI, hM, hJ, hE, h31, hg⟩ := id hV
  have hthr := s_thrown (d := d + 19) hW.2.1
  rw [h31] at hthr
  refine i_287_646 p2 ?_
  refine i_287_647 hW.2.1.2.1 (Nat.le_of_ble_eq_true rfl) hthr ?_
  refine i_287_650 p5 ?_
  refine i_287_652 (fun _ => ?_) (fun h => absurd rfl h)
  refine i_287_657 p5 ?_
  refine i_287_659 (fun _ => ?_) (fun h => ?_)
  · refine i_287_674 ?_
    exact k L' Z' w4 lv6 hL hZ hV.w hl6
  · have k0 : kk = 0 := by
      rw [oI hkb.1 hkb.2] at h
      exact h
    refine i_287_662 p3 ?_
    refine i_287_663 ?_
    refine i_287_664 hW.2.2.1 (by decide) (by decide) (hg k0) ?_
    refine i_287_665 p6 ?_
    refine i_287_667 rfl ?_
    refine i_287_668 (c := 0) lgc ?_
    refine i_287_669 (fun _ => ?_) (fun h => absurd rfl h)
    refine i_287_674 ?_
    exact k L' Z' w4 lv6 hL hZ hV.w hl6
theorem lw_6 (hIV : IV0 W L Z w) (h0 : W[0]? = some (.inl (0, n, fun j => .int (Int32.ofInt (f j))))) (hf : ∀ j, -2147483648 ≤ f j ∧ f j < 2147483648) (hi : i + 6 ≤ n) (hn : n ≤ 3072) (hl : lvB lv i) (k : lwN W d L Z i Q) : xEv (d + 21) 287 677 lv [] w Q := by
  obtain ⟨l0, l1, l2, l3, l4⟩ := id hl
  have hw := hIV.c0.trans h0
  obtain ⟨kk, w3, hrun, hkb, v, w4, hr4, hK3, L', Z', hL, hZ, hV⟩ := st_fus (W := W) (L := L) (Z := Z) (d := d) (w := w) (r := f (i + 1)) (a := f (i + 2)) (b := f (i + 3)) (c := f (i + 4)) (mode := f (i + 5)) hIV (hf _) (hf _) (hf _) (hf _) (hf _)
  have hw3 := (hK3.1 0 (by decide)).trans h0
  obtain ⟨fs, h128⟩ := hK3.2
  refine i_287_677 l1 ?_
  refine i_287_678 l0 ?_
  refine i_287_679 l4 ?_
  refine i_287_681 ?_
  refine i_287_682 jad1 ?_
  refine i_287_683 hw (jx 1 hi hn (by decide)).1 (jx 1 hi hn (by decide)).2.1 (jv (f := f) 1 hi hn (by decide)) ?_
  refine i_287_684 l0 ?_
  refine i_287_685 l4 ?_
  refine i_287_687 ?_
  refine i_287_688 jad2 ?_
  refine i_287_689 hw (jx 2 hi hn (by decide)).1 (jx 2 hi hn (by decide)).2.1 (jv (f := f) 2 hi hn (by decide)) ?_
  refine i_287_690 l0 ?_
  refine i_287_691 l4 ?_
  refine i_287_693 ?_
  refine i_287_694 jad3 ?_
  refine i_287_695 hw (jx 3 hi hn (by decide)).1 (jx 3 hi hn (by decide)).2.1 (jv (f := f) 3 hi hn (by decide)) ?_
  refine i_287_696 l0 ?_
  refine i_287_697 l4 ?_
  refine i_287_699 ?_
  refine i_287_700 jad4 ?_
  refine i_287_701 hw (jx 4 hi hn (by decide)).1 (jx 4 hi hn (by decide)).2.1 (jv (f := f) 4 hi hn (by decide)) ?_
  refine i_287_702 l0 ?_
  refine i_287_703 l4 ?_
  refine i_287_705 ?_
  refine i_287_706 jad5 ?_
  refine i_287_707 hw (jx 5 hi hn (by decide)).1 (jx 5 hi hn (by decide)).2.1 (jv (f := f) 5 hi hn (by decide)) ?_
  refine i_287_708 l3 ?_
  refine i_287_709 (Nat.le_of_ble_eq_true rfl) hrun ?_
  refine i_287_712 rfl ?_
  have hl5 := hl.s5 (v := .int (Int32.ofInt kk))
  have m5 : xld (xst1 lv 5 (.int (Int32.ofInt kk))) 5 = some (.int (Int32.ofInt kk)) := xld_s1
  generalize xst1 lv 5 (.int (Int32.ofInt kk)) = lv5 at hl5 m5 ⊢
  obtain ⟨m0, m1, m2, m3, m4⟩ := id hl5
  refine i_287_714 m2 ?_
  refine i_287_715 m0 ?_
  refine i_287_716 m4 ?_
  refine i_287_718 ?_
  refine i_287_719 jad1 ?_
  refine i_287_720 hw3 (jx 1 hi hn (by decide)).1 (jx 1 hi hn (by decide)).2.1 (jv (f := f) 1 hi hn (by decide)) ?_
  refine i_287_721 m0 ?_
  refine i_287_722 m4 ?_
  refine i_287_724 ?_
  refine i_287_725 jad2 ?_
  refine i_287_726 hw3 (jx 2 hi hn (by decide)).1 (jx 2 hi hn (by decide)).2.1 (jv (f := f) 2 hi hn (by decide)) ?_
  refine i_287_727 m0 ?_
  refine i_287_728 m4 ?_
  refine i_287_730 ?_
  refine i_287_731 jad3 ?_
  refine i_287_732 hw3 (jx 3 hi hn (by decide)).1 (jx 3 hi hn (by decide)).2.1 (jv (f := f) 3 hi hn (by decide)) ?_
  refine i_287_733 m0 ?_
  refine i_287_734 m4 ?_
  refine i_287_736 ?_
  refine i_287_737 jad4 ?_
  refine i_287_738 hw3 (jx 4 hi hn (by decide)).1 (jx 4 hi hn (by decide)).2.1 (jv (f := f) 4 hi hn (by decide)) ?_
  refine i_287_739 m0 ?_
  refine i_287_740 m4 ?_
  refine i_287_742 ?_
  refine i_287_743 jad5 ?_
  refine i_287_744 hw3 (jx 5 hi hn (by decide)).1 (jx 5 hi hn (by decide)).2.1 (jv (f := f) 5 hi hn (by decide)) ?_
  refine i_287_745 h128 (Nat.le_of_ble_eq_true rfl) hr4 ?_
  refine i_287_748 rfl ?_
  have hl6 := hl5.s6 (v := .int v)
  have p5 : xld (xst1 lv5 6 (.int v)) 5 = some (.int (Int32.ofInt kk)) := xld_n1 rfl rfl m5
  have p6 : xld (xst1 lv5 6 (.int v)) 6 = some (.int v) := xld_s1
  generalize xst1 lv5 6 (.int v) = lv6 at hl6 p5 p6 ⊢
  obtain ⟨p0, p1, p2, p3, p4⟩ := id hl6
  obtain ⟨S, V, Sm, Vm, g, hW, hI, hM, hJ, hE, h31, hg⟩ := id hV
  have hthr := s_thrown (d := d + 19) hW.2.1
  rw [h31] at hthr
  refine i_287_750 p2 ?_
  refine i_287_751 hW.2.1.2.1 (Nat.le_of_ble_eq_true rfl) hthr ?_
  refine i_287_754 p5 ?_
  refine i_287_756 (fun _ => ?_) (fun h => absurd rfl h)
  refine i_287_761 p5 ?_
  refine i_287_763 (fun _ => ?_) (fun h => ?_)
  · refine i_287_778 ?_
    exact k L' Z' w4 lv6 hL hZ hV.w hl6
  · have k0 : kk = 0 := by
      rw [oI hkb.1 hkb.2] at h
      exact h
    refine i_287_766 p3 ?_
    refine i_287_767 ?_
    refine i_287_768 hW.2.2.1 (by decide) (by decide) (hg k0) ?_
    refine i_287_769 p6 ?_
    refine i_287_771 rfl ?_
    refine i_287_772 (c := 0) lgc ?_
    refine i_287_773 (fun _ => ?_) (fun h => absurd rfl h)
    refine i_287_778 ?_
    exact k L' Z' w4 lv6 hL hZ hV.w hl6
theorem lw_7 (hIV : IV0 W L Z w) (h0 : W[0]? = some (.inl (0, n, fun j => .int (Int32.ofInt (f j))))) (hf : ∀ j, -2147483648 ≤ f j ∧ f j < 2147483648) (hi : i + 6 ≤ n) (hn : n ≤ 3072) (hl : lvB lv i) (k : lwN W d L Z i Q) : xEv (d + 21) 287 781 lv [] w Q := by
  obtain ⟨l0, l1, l2, l3, l4⟩ := id hl
  have hw := hIV.c0.trans h0
  obtain ⟨kk, w3, hrun, hkb, v, w4, hr4, hK3, L', Z', hL, hZ, hV⟩ := st_root (W := W) (L := L) (Z := Z) (d := d) (w := w) (r := f (i + 1)) (a := f (i + 2)) (n := f (i + 3)) (mode := f (i + 4)) hIV (hf _) (hf _) (hf _) (hf _)
  have hw3 := (hK3.1 0 (by decide)).trans h0
  obtain ⟨fs, h128⟩ := hK3.2
  refine i_287_781 l1 ?_
  refine i_287_782 l0 ?_
  refine i_287_783 l4 ?_
  refine i_287_785 ?_
  refine i_287_786 jad1 ?_
  refine i_287_787 hw (jx 1 hi hn (by decide)).1 (jx 1 hi hn (by decide)).2.1 (jv (f := f) 1 hi hn (by decide)) ?_
  refine i_287_788 l0 ?_
  refine i_287_789 l4 ?_
  refine i_287_791 ?_
  refine i_287_792 jad2 ?_
  refine i_287_793 hw (jx 2 hi hn (by decide)).1 (jx 2 hi hn (by decide)).2.1 (jv (f := f) 2 hi hn (by decide)) ?_
  refine i_287_794 l0 ?_
  refine i_287_795 l4 ?_
  refine i_287_797 ?_
  refine i_287_798 jad3 ?_
  refine i_287_799 hw (jx 3 hi hn (by decide)).1 (jx 3 hi hn (by decide)).2.1 (jv (f := f) 3 hi hn (by decide)) ?_
  refine i_287_800 l0 ?_
  refine i_287_801 l4 ?_
  refine i_287_803 ?_
  refine i_287_804 jad4 ?_
  refine i_287_805 hw (jx 4 hi hn (by decide)).1 (jx 4 hi hn (by decide)).2.1 (jv (f := f) 4 hi hn (by decide)) ?_
  refine i_287_806 l3 ?_
  refine i_287_807 (Nat.le_of_ble_eq_true rfl) hrun ?_
  refine i_287_810 rfl ?_
  have hl5 := hl.s5 (v := .int (Int32.ofInt kk))
  have m5 : xld (xst1 lv 5 (.int (Int32.ofInt kk))) 5 = some (.int (Int32.ofInt kk)) := xld_s1
  generalize xst1 lv 5 (.int (Int32.ofInt kk)) = lv5 at hl5 m5 ⊢
  obtain ⟨m0, m1, m2, m3, m4⟩ := id hl5
  refine i_287_812 m2 ?_
  refine i_287_813 m0 ?_
  refine i_287_814 m4 ?_
  refine i_287_816 ?_
  refine i_287_817 jad1 ?_
  refine i_287_818 hw3 (jx 1 hi hn (by decide)).1 (jx 1 hi hn (by decide)).2.1 (jv (f := f) 1 hi hn (by decide)) ?_
  refine i_287_819 m0 ?_
  refine i_287_820 m4 ?_
  refine i_287_822 ?_
  refine i_287_823 jad2 ?_
  refine i_287_824 hw3 (jx 2 hi hn (by decide)).1 (jx 2 hi hn (by decide)).2.1 (jv (f := f) 2 hi hn (by decide)) ?_
  refine i_287_825 m0 ?_
  refine i_287_826 m4 ?_
  refine i_287_828 ?_
  refine i_287_829 jad3 ?_
  refine i_287_830 hw3 (jx 3 hi hn (by decide)).1 (jx 3 hi hn (by decide)).2.1 (jv (f := f) 3 hi hn (by decide)) ?_
  refine i_287_831 m0 ?_
  refine i_287_832 m4 ?_
  refine i_287_834 ?_
  refine i_287_835 jad4 ?_
  refine i_287_836 hw3 (jx 4 hi hn (by decide)).1 (jx 4 hi hn (by decide)).2.1 (jv (f := f) 4 hi hn (by decide)) ?_
  refine i_287_837 h128 (Nat.le_of_ble_eq_true rfl) hr4 ?_
  refine i_287_840 rfl ?_
  have hl6 := hl5.s6 (v := .int v)
  have p5 : xld (xst1 lv5 6 (.int v)) 5 = some (.int (Int32.ofInt kk)) := xld_n1 rfl rfl m5
  have p6 : xld (xst1 lv5 6 (.int v)) 6 = some (.int v) := xld_s1
  generalize xst1 lv5 6 (.int v) = lv6 at hl6 p5 p6 ⊢
  obtain ⟨p0, p1, p2, p3, p4⟩ := id hl6
  obtain ⟨S, V, Sm, Vm, g, hW, hI, hM, hJ, hE, h31, hg⟩ := id hV
  have hthr := s_thrown (d := d + 19) hW.2.1
  rw [h31] at hthr
  refine i_287_842 p2 ?_
  refine i_287_843 hW.2.1.2.1 (Nat.le_of_ble_eq_true rfl) hthr ?_
  refine i_287_846 p5 ?_
  refine i_287_848 (fun _ => ?_) (fun h => absurd rfl h)
  refine i_287_853 p5 ?_
  refine i_287_855 (fun _ => ?_) (fun h => ?_)
  · refine i_287_870 ?_
    exact k L' Z' w4 lv6 hL hZ hV.w hl6
  · have k0 : kk = 0 := by
      rw [oI hkb.1 hkb.2] at h
      exact h
    refine i_287_858 p3 ?_
    refine i_287_859 ?_
    refine i_287_860 hW.2.2.1 (by decide) (by decide) (hg k0) ?_
    refine i_287_861 p6 ?_
    refine i_287_863 rfl ?_
    refine i_287_864 (c := 0) lgc ?_
    refine i_287_865 (fun _ => ?_) (fun h => absurd rfl h)
    refine i_287_870 ?_
    exact k L' Z' w4 lv6 hL hZ hV.w hl6
theorem lw_8 (hIV : IV0 W L Z w) (h0 : W[0]? = some (.inl (0, n, fun j => .int (Int32.ofInt (f j))))) (hf : ∀ j, -2147483648 ≤ f j ∧ f j < 2147483648) (hi : i + 6 ≤ n) (hn : n ≤ 3072) (hl : lvB lv i) (k : lwN W d L Z i Q) : xEv (d + 21) 287 873 lv [] w Q := by
  obtain ⟨l0, l1, l2, l3, l4⟩ := id hl
  have hw := hIV.c0.trans h0
  obtain ⟨kk, w3, hrun, hkb, v, w4, hr4, hK3, L', Z', hL, hZ, hV⟩ := st_pow (W := W) (L := L) (Z := Z) (d := d) (w := w) (r := f (i + 1)) (a := f (i + 2)) (n := f (i + 3)) (mode := f (i + 4)) hIV (hf _) (hf _) (hf _) (hf _)
  have hw3 := (hK3.1 0 (by decide)).trans h0
  obtain ⟨fs, h128⟩ := hK3.2
  refine i_287_873 l1 ?_
  refine i_287_874 l0 ?_
  refine i_287_875 l4 ?_
  refine i_287_877 ?_
  refine i_287_878 jad1 ?_
  refine i_287_879 hw (jx 1 hi hn (by decide)).1 (jx 1 hi hn (by decide)).2.1 (jv (f := f) 1 hi hn (by decide)) ?_
  refine i_287_880 l0 ?_
  refine i_287_881 l4 ?_
  refine i_287_883 ?_
  refine i_287_884 jad2 ?_
  refine i_287_885 hw (jx 2 hi hn (by decide)).1 (jx 2 hi hn (by decide)).2.1 (jv (f := f) 2 hi hn (by decide)) ?_
  refine i_287_886 l0 ?_
  refine i_287_887 l4 ?_
  refine i_287_889 ?_
  refine i_287_890 jad3 ?_
  refine i_287_891 hw (jx 3 hi hn (by decide)).1 (jx 3 hi hn (by decide)).2.1 (jv (f := f) 3 hi hn (by decide)) ?_
  refine i_287_892 l0 ?_
  refine i_287_893 l4 ?_
  refine i_287_895 ?_
  refine i_287_896 jad4 ?_
  refine i_287_897 hw (jx 4 hi hn (by decide)).1 (jx 4 hi hn (by decide)).2.1 (jv (f := f) 4 hi hn (by decide)) ?_
  refine i_287_898 l3 ?_
  refine i_287_899 (Nat.le_of_ble_eq_true rfl) hrun ?_
  refine i_287_902 rfl ?_
  have hl5 := hl.s5 (v := .int (Int32.ofInt kk))
  have m5 : xld (xst1 lv 5 (.int (Int32.ofInt kk))) 5 = some (.int (Int32.ofInt kk)) := xld_s1
  generalize xst1 lv 5 (.int (Int32.ofInt kk)) = lv5 at hl5 m5 ⊢
  obtain ⟨m0, m1, m2, m3, m4⟩ := id hl5
  refine i_287_904 m2 ?_
  refine i_287_905 m0 ?_
  refine i_287_906 m4 ?_
  refine i_287_908 ?_
  refine i_287_909 jad1 ?_
  refine i_287_910 hw3 (jx 1 hi hn (by decide)).1 (jx 1 hi hn (by decide)).2.1 (jv (f := f) 1 hi hn (by decide)) ?_
  refine i_287_911 m0 ?_
  refine i_287_912 m4 ?_
  refine i_287_914 ?_
  refine i_287_915 jad2 ?_
  refine i_287_916 hw3 (jx 2 hi hn (by decide)).1 (jx 2 hi hn (by decide)).2.1 (jv (f := f) 2 hi hn (by decide)) ?_
  refine i_287_917 m0 ?_
  refine i_287_918 m4 ?_
  refine i_287_920 ?_
  refine i_287_921 jad3 ?_
  refine i_287_922 hw3 (jx 3 hi hn (by decide)).1 (jx 3 hi hn (by decide)).2.1 (jv (f := f) 3 hi hn (by decide)) ?_
  refine i_287_923 m0 ?_
  refine i_287_924 m4 ?_
  refine i_287_926 ?_
  refine i_287_927 jad4 ?_
  refine i_287_928 hw3 (jx 4 hi hn (by decide)).1 (jx 4 hi hn (by decide)).2.1 (jv (f := f) 4 hi hn (by decide)) ?_
  refine i_287_929 h128 (Nat.le_of_ble_eq_true rfl) hr4 ?_
  refine i_287_932 rfl ?_
  have hl6 := hl5.s6 (v := .int v)
  have p5 : xld (xst1 lv5 6 (.int v)) 5 = some (.int (Int32.ofInt kk)) := xld_n1 rfl rfl m5
  have p6 : xld (xst1 lv5 6 (.int v)) 6 = some (.int v) := xld_s1
  generalize xst1 lv5 6 (.int v) = lv6 at hl6 p5 p6 ⊢
  obtain ⟨p0, p1, p2, p3, p4⟩ := id hl6
  obtain ⟨S, V, Sm, Vm, g, hW, hI, hM, hJ, hE, h31, hg⟩ := id hV
  have hthr := s_thrown (d := d + 19) hW.2.1
  rw [h31] at hthr
  refine i_287_934 p2 ?_
  refine i_287_935 hW.2.1.2.1 (Nat.le_of_ble_eq_true rfl) hthr ?_
  refine i_287_938 p5 ?_
  refine i_287_940 (fun _ => ?_) (fun h => absurd rfl h)
  refine i_287_945 p5 ?_
  refine i_287_947 (fun _ => ?_) (fun h => ?_)
  · refine i_287_962 ?_
    exact k L' Z' w4 lv6 hL hZ hV.w hl6
  · have k0 : kk = 0 := by
      rw [oI hkb.1 hkb.2] at h
      exact h
    refine i_287_950 p3 ?_
    refine i_287_951 ?_
    refine i_287_952 hW.2.2.1 (by decide) (by decide) (hg k0) ?_
    refine i_287_953 p6 ?_
    refine i_287_955 rfl ?_
    refine i_287_956 (c := 0) lgc ?_
    refine i_287_957 (fun _ => ?_) (fun h => absurd rfl h)
    refine i_287_962 ?_
    exact k L' Z' w4 lv6 hL hZ hV.w hl6
theorem lw_9 (hIV : IV0 W L Z w) (h0 : W[0]? = some (.inl (0, n, fun j => .int (Int32.ofInt (f j))))) (hf : ∀ j, -2147483648 ≤ f j ∧ f j < 2147483648) (hi : i + 6 ≤ n) (hn : n ≤ 3072) (hl : lvB lv i) (k : lwN W d L Z i Q) : xEv (d + 21) 287 965 lv [] w Q := by
  obtain ⟨l0, l1, l2, l3, l4⟩ := id hl
  have hw := hIV.c0.trans h0
  obtain ⟨kk, w3, hrun, hkb, v, w4, hr4, hK3, L', Z', hL, hZ, hV⟩ := st_whl (W := W) (L := L) (Z := Z) (d := d) (w := w) (r := f (i + 1)) (a := f (i + 2)) (way := f (i + 3)) (mode := f (i + 4)) hIV (hf _) (hf _) (hf _) (hf _)
  have hw3 := (hK3.1 0 (by decide)).trans h0
  obtain ⟨fs, h128⟩ := hK3.2
  refine i_287_965 l1 ?_
  refine i_287_966 l0 ?_
  refine i_287_967 l4 ?_
  refine i_287_969 ?_
  refine i_287_970 jad1 ?_
  refine i_287_971 hw (jx 1 hi hn (by decide)).1 (jx 1 hi hn (by decide)).2.1 (jv (f := f) 1 hi hn (by decide)) ?_
  refine i_287_972 l0 ?_
  refine i_287_973 l4 ?_
  refine i_287_975 ?_
  refine i_287_976 jad2 ?_
  refine i_287_977 hw (jx 2 hi hn (by decide)).1 (jx 2 hi hn (by decide)).2.1 (jv (f := f) 2 hi hn (by decide)) ?_
  refine i_287_978 l0 ?_
  refine i_287_979 l4 ?_
  refine i_287_981 ?_
  refine i_287_982 jad3 ?_
  refine i_287_983 hw (jx 3 hi hn (by decide)).1 (jx 3 hi hn (by decide)).2.1 (jv (f := f) 3 hi hn (by decide)) ?_
  refine i_287_984 l0 ?_
  refine i_287_985 l4 ?_
  refine i_287_987 ?_
  refine i_287_988 jad4 ?_
  refine i_287_989 hw (jx 4 hi hn (by decide)).1 (jx 4 hi hn (by decide)).2.1 (jv (f := f) 4 hi hn (by decide)) ?_
  refine i_287_990 l3 ?_
  refine i_287_991 (Nat.le_of_ble_eq_true rfl) hrun ?_
  refine i_287_994 rfl ?_
  have hl5 := hl.s5 (v := .int (Int32.ofInt kk))
  have m5 : xld (xst1 lv 5 (.int (Int32.ofInt kk))) 5 = some (.int (Int32.ofInt kk)) := xld_s1
  generalize xst1 lv 5 (.int (Int32.ofInt kk)) = lv5 at hl5 m5 ⊢
  obtain ⟨m0, m1, m2, m3, m4⟩ := id hl5
  refine i_287_996 m2 ?_
  refine i_287_997 m0 ?_
  refine i_287_998 m4 ?_
  refine i_287_1000 ?_
  refine i_287_1001 jad1 ?_
  refine i_287_1002 hw3 (jx 1 hi hn (by decide)).1 (jx 1 hi hn (by decide)).2.1 (jv (f := f) 1 hi hn (by decide)) ?_
  refine i_287_1003 m0 ?_
  refine i_287_1004 m4 ?_
  refine i_287_1006 ?_
  refine i_287_1007 jad2 ?_
  refine i_287_1008 hw3 (jx 2 hi hn (by decide)).1 (jx 2 hi hn (by decide)).2.1 (jv (f := f) 2 hi hn (by decide)) ?_
  refine i_287_1009 m0 ?_
  refine i_287_1010 m4 ?_
  refine i_287_1012 ?_
  refine i_287_1013 jad3 ?_
  refine i_287_1014 hw3 (jx 3 hi hn (by decide)).1 (jx 3 hi hn (by decide)).2.1 (jv (f := f) 3 hi hn (by decide)) ?_
  refine i_287_1015 m0 ?_
  refine i_287_1016 m4 ?_
  refine i_287_1018 ?_
  refine i_287_1019 jad4 ?_
  refine i_287_1020 hw3 (jx 4 hi hn (by decide)).1 (jx 4 hi hn (by decide)).2.1 (jv (f := f) 4 hi hn (by decide)) ?_
  refine i_287_1021 h128 (Nat.le_of_ble_eq_true rfl) hr4 ?_
  refine i_287_1024 rfl ?_
  have hl6 := hl5.s6 (v := .int v)
  have p5 : xld (xst1 lv5 6 (.int v)) 5 = some (.int (Int32.ofInt kk)) := xld_n1 rfl rfl m5
  have p6 : xld (xst1 lv5 6 (.int v)) 6 = some (.int v) := xld_s1
  generalize xst1 lv5 6 (.int v) = lv6 at hl6 p5 p6 ⊢
  obtain ⟨p0, p1, p2, p3, p4⟩ := id hl6
  obtain ⟨S, V, Sm, Vm, g, hW, hI, hM, hJ, hE, h31, hg⟩ := id hV
  have hthr := s_thrown (d := d + 19) hW.2.1
  rw [h31] at hthr
  refine i_287_1026 p2 ?_
  refine i_287_1027 hW.2.1.2.1 (Nat.le_of_ble_eq_true rfl) hthr ?_
  refine i_287_1030 p5 ?_
  refine i_287_1032 (fun _ => ?_) (fun h => absurd rfl h)
  refine i_287_1037 p5 ?_
  refine i_287_1039 (fun _ => ?_) (fun h => ?_)
  · refine i_287_1054 ?_
    exact k L' Z' w4 lv6 hL hZ hV.w hl6
  · have k0 : kk = 0 := by
      rw [oI hkb.1 hkb.2] at h
      exact h
    refine i_287_1042 p3 ?_
    refine i_287_1043 ?_
    refine i_287_1044 hW.2.2.1 (by decide) (by decide) (hg k0) ?_
    refine i_287_1045 p6 ?_
    refine i_287_1047 rfl ?_
    refine i_287_1048 (c := 0) lgc ?_
    refine i_287_1049 (fun _ => ?_) (fun h => absurd rfl h)
    refine i_287_1054 ?_
    exact k L' Z' w4 lv6 hL hZ hV.w hl6
theorem lw_10 (hIV : IV0 W L Z w) (h0 : W[0]? = some (.inl (0, n, fun j => .int (Int32.ofInt (f j))))) (hf : ∀ j, -2147483648 ≤ f j ∧ f j < 2147483648) (hi : i + 6 ≤ n) (hn : n ≤ 3072) (hl : lvB lv i) (k : lwN W d L Z i Q) : xEv (d + 21) 287 1057 lv [] w Q := by
  obtain ⟨l0, l1, l2, l3, l4⟩ := id hl
  have hw := hIV.c0.trans h0
  obtain ⟨kk, w3, hrun, hkb, v, w4, hr4, hK3, L', Z', hL, hZ, hV⟩ := st_sum (W := W) (L := L) (Z := Z) (d := d) (w := w) (r := f (i + 1)) (f := f (i + 2)) (n := f (i + 3)) (mode := f (i + 4)) hIV (hf _) (hf _) (hf _) (hf _)
  have hw3 := (hK3.1 0 (by decide)).trans h0
  obtain ⟨fs, h128⟩ := hK3.2
  refine i_287_1057 l1 ?_
  refine i_287_1058 l0 ?_
  refine i_287_1059 l4 ?_
  refine i_287_1061 ?_
  refine i_287_1062 jad1 ?_
  refine i_287_1063 hw (jx 1 hi hn (by decide)).1 (jx 1 hi hn (by decide)).2.1 (jv (f := f) 1 hi hn (by decide)) ?_
  refine i_287_1064 l0 ?_
  refine i_287_1065 l4 ?_
  refine i_287_1067 ?_
  refine i_287_1068 jad2 ?_
  refine i_287_1069 hw (jx 2 hi hn (by decide)).1 (jx 2 hi hn (by decide)).2.1 (jv (f := f) 2 hi hn (by decide)) ?_
  refine i_287_1070 l0 ?_
  refine i_287_1071 l4 ?_
  refine i_287_1073 ?_
  refine i_287_1074 jad3 ?_
  refine i_287_1075 hw (jx 3 hi hn (by decide)).1 (jx 3 hi hn (by decide)).2.1 (jv (f := f) 3 hi hn (by decide)) ?_
  refine i_287_1076 l0 ?_
  refine i_287_1077 l4 ?_
  refine i_287_1079 ?_
  refine i_287_1080 jad4 ?_
  refine i_287_1081 hw (jx 4 hi hn (by decide)).1 (jx 4 hi hn (by decide)).2.1 (jv (f := f) 4 hi hn (by decide)) ?_
  refine i_287_1082 l3 ?_
  refine i_287_1083 (Nat.le_of_ble_eq_true rfl) hrun ?_
  refine i_287_1086 rfl ?_
  have hl5 := hl.s5 (v := .int (Int32.ofInt kk))
  have m5 : xld (xst1 lv 5 (.int (Int32.ofInt kk))) 5 = some (.int (Int32.ofInt kk)) := xld_s1
  generalize xst1 lv 5 (.int (Int32.ofInt kk)) = lv5 at hl5 m5 ⊢
  obtain ⟨m0, m1, m2, m3, m4⟩ := id hl5
  refine i_287_1088 m2 ?_
  refine i_287_1089 m0 ?_
  refine i_287_1090 m4 ?_
  refine i_287_1092 ?_
  refine i_287_1093 jad1 ?_
  refine i_287_1094 hw3 (jx 1 hi hn (by decide)).1 (jx 1 hi hn (by decide)).2.1 (jv (f := f) 1 hi hn (by decide)) ?_
  refine i_287_1095 m0 ?_
  refine i_287_1096 m4 ?_
  refine i_287_1098 ?_
  refine i_287_1099 jad2 ?_
  refine i_287_1100 hw3 (jx 2 hi hn (by decide)).1 (jx 2 hi hn (by decide)).2.1 (jv (f := f) 2 hi hn (by decide)) ?_
  refine i_287_1101 m0 ?_
  refine i_287_1102 m4 ?_
  refine i_287_1104 ?_
  refine i_287_1105 jad3 ?_
  refine i_287_1106 hw3 (jx 3 hi hn (by decide)).1 (jx 3 hi hn (by decide)).2.1 (jv (f := f) 3 hi hn (by decide)) ?_
  refine i_287_1107 m0 ?_
  refine i_287_1108 m4 ?_
  refine i_287_1110 ?_
  refine i_287_1111 jad4 ?_
  refine i_287_1112 hw3 (jx 4 hi hn (by decide)).1 (jx 4 hi hn (by decide)).2.1 (jv (f := f) 4 hi hn (by decide)) ?_
  refine i_287_1113 h128 (Nat.le_of_ble_eq_true rfl) hr4 ?_
  refine i_287_1116 rfl ?_
  have hl6 := hl5.s6 (v := .int v)
  have p5 : xld (xst1 lv5 6 (.int v)) 5 = some (.int (Int32.ofInt kk)) := xld_n1 rfl rfl m5
  have p6 : xld (xst1 lv5 6 (.int v)) 6 = some (.int v) := xld_s1
  generalize xst1 lv5 6 (.int v) = lv6 at hl6 p5 p6 ⊢
  obtain ⟨p0, p1, p2, p3, p4⟩ := id hl6
  obtain ⟨S, V, Sm, Vm, g, hW, hI, hM, hJ, hE, h31, hg⟩ := id hV
  have hthr := s_thrown (d := d + 19) hW.2.1
  rw [h31] at hthr
  refine i_287_1118 p2 ?_
  refine i_287_1119 hW.2.1.2.1 (Nat.le_of_ble_eq_true rfl) hthr ?_
  refine i_287_1122 p5 ?_
  refine i_287_1124 (fun _ => ?_) (fun h => absurd rfl h)
  refine i_287_1129 p5 ?_
  refine i_287_1131 (fun _ => ?_) (fun h => ?_)
  · refine i_287_1146 ?_
    exact k L' Z' w4 lv6 hL hZ hV.w hl6
  · have k0 : kk = 0 := by
      rw [oI hkb.1 hkb.2] at h
      exact h
    refine i_287_1134 p3 ?_
    refine i_287_1135 ?_
    refine i_287_1136 hW.2.2.1 (by decide) (by decide) (hg k0) ?_
    refine i_287_1137 p6 ?_
    refine i_287_1139 rfl ?_
    refine i_287_1140 (c := 0) lgc ?_
    refine i_287_1141 (fun _ => ?_) (fun h => absurd rfl h)
    refine i_287_1146 ?_
    exact k L' Z' w4 lv6 hL hZ hV.w hl6
theorem lw_11 (hIV : IV0 W L Z w) (h0 : W[0]? = some (.inl (0, n, fun j => .int (Int32.ofInt (f j))))) (hf : ∀ j, -2147483648 ≤ f j ∧ f j < 2147483648) (hi : i + 6 ≤ n) (hn : n ≤ 3072) (hl : lvB lv i) (k : lwN W d L Z i Q) : xEv (d + 21) 287 1149 lv [] w Q := by
  obtain ⟨l0, l1, l2, l3, l4⟩ := id hl
  have hw := hIV.c0.trans h0
  obtain ⟨kk, w3, hrun, hkb, v, w4, hr4, hK3, L', Z', hL, hZ, hV⟩ := st_dot (W := W) (L := L) (Z := Z) (d := d) (w := w) (r := f (i + 1)) (f := f (i + 2)) (g := f (i + 3)) (n := f (i + 4)) (mode := f (i + 5)) hIV (hf _) (hf _) (hf _) (hf _) (hf _)
  have hw3 := (hK3.1 0 (by decide)).trans h0
  obtain ⟨fs, h128⟩ := hK3.2
  refine i_287_1149 l1 ?_
  refine i_287_1150 l0 ?_
  refine i_287_1151 l4 ?_
  refine i_287_1153 ?_
  refine i_287_1154 jad1 ?_
  refine i_287_1155 hw (jx 1 hi hn (by decide)).1 (jx 1 hi hn (by decide)).2.1 (jv (f := f) 1 hi hn (by decide)) ?_
  refine i_287_1156 l0 ?_
  refine i_287_1157 l4 ?_
  refine i_287_1159 ?_
  refine i_287_1160 jad2 ?_
  refine i_287_1161 hw (jx 2 hi hn (by decide)).1 (jx 2 hi hn (by decide)).2.1 (jv (f := f) 2 hi hn (by decide)) ?_
  refine i_287_1162 l0 ?_
  refine i_287_1163 l4 ?_
  refine i_287_1165 ?_
  refine i_287_1166 jad3 ?_
  refine i_287_1167 hw (jx 3 hi hn (by decide)).1 (jx 3 hi hn (by decide)).2.1 (jv (f := f) 3 hi hn (by decide)) ?_
  refine i_287_1168 l0 ?_
  refine i_287_1169 l4 ?_
  refine i_287_1171 ?_
  refine i_287_1172 jad4 ?_
  refine i_287_1173 hw (jx 4 hi hn (by decide)).1 (jx 4 hi hn (by decide)).2.1 (jv (f := f) 4 hi hn (by decide)) ?_
  refine i_287_1174 l0 ?_
  refine i_287_1175 l4 ?_
  refine i_287_1177 ?_
  refine i_287_1178 jad5 ?_
  refine i_287_1179 hw (jx 5 hi hn (by decide)).1 (jx 5 hi hn (by decide)).2.1 (jv (f := f) 5 hi hn (by decide)) ?_
  refine i_287_1180 l3 ?_
  refine i_287_1181 (Nat.le_of_ble_eq_true rfl) hrun ?_
  refine i_287_1184 rfl ?_
  have hl5 := hl.s5 (v := .int (Int32.ofInt kk))
  have m5 : xld (xst1 lv 5 (.int (Int32.ofInt kk))) 5 = some (.int (Int32.ofInt kk)) := xld_s1
  generalize xst1 lv 5 (.int (Int32.ofInt kk)) = lv5 at hl5 m5 ⊢
  obtain ⟨m0, m1, m2, m3, m4⟩ := id hl5
  refine i_287_1186 m2 ?_
  refine i_287_1187 m0 ?_
  refine i_287_1188 m4 ?_
  refine i_287_1190 ?_
  refine i_287_1191 jad1 ?_
  refine i_287_1192 hw3 (jx 1 hi hn (by decide)).1 (jx 1 hi hn (by decide)).2.1 (jv (f := f) 1 hi hn (by decide)) ?_
  refine i_287_1193 m0 ?_
  refine i_287_1194 m4 ?_
  refine i_287_1196 ?_
  refine i_287_1197 jad2 ?_
  refine i_287_1198 hw3 (jx 2 hi hn (by decide)).1 (jx 2 hi hn (by decide)).2.1 (jv (f := f) 2 hi hn (by decide)) ?_
  refine i_287_1199 m0 ?_
  refine i_287_1200 m4 ?_
  refine i_287_1202 ?_
  refine i_287_1203 jad3 ?_
  refine i_287_1204 hw3 (jx 3 hi hn (by decide)).1 (jx 3 hi hn (by decide)).2.1 (jv (f := f) 3 hi hn (by decide)) ?_
  refine i_287_1205 m0 ?_
  refine i_287_1206 m4 ?_
  refine i_287_1208 ?_
  refine i_287_1209 jad4 ?_
  refine i_287_1210 hw3 (jx 4 hi hn (by decide)).1 (jx 4 hi hn (by decide)).2.1 (jv (f := f) 4 hi hn (by decide)) ?_
  refine i_287_1211 m0 ?_
  refine i_287_1212 m4 ?_
  refine i_287_1214 ?_
  refine i_287_1215 jad5 ?_
  refine i_287_1216 hw3 (jx 5 hi hn (by decide)).1 (jx 5 hi hn (by decide)).2.1 (jv (f := f) 5 hi hn (by decide)) ?_
  refine i_287_1217 h128 (Nat.le_of_ble_eq_true rfl) hr4 ?_
  refine i_287_1220 rfl ?_
  have hl6 := hl5.s6 (v := .int v)
  have p5 : xld (xst1 lv5 6 (.int v)) 5 = some (.int (Int32.ofInt kk)) := xld_n1 rfl rfl m5
  have p6 : xld (xst1 lv5 6 (.int v)) 6 = some (.int v) := xld_s1
  generalize xst1 lv5 6 (.int v) = lv6 at hl6 p5 p6 ⊢
  obtain ⟨p0, p1, p2, p3, p4⟩ := id hl6
  obtain ⟨S, V, Sm, Vm, g, hW, hI, hM, hJ, hE, h31, hg⟩ := id hV
  have hthr := s_thrown (d := d + 19) hW.2.1
  rw [h31] at hthr
  refine i_287_1222 p2 ?_
  refine i_287_1223 hW.2.1.2.1 (Nat.le_of_ble_eq_true rfl) hthr ?_
  refine i_287_1226 p5 ?_
  refine i_287_1228 (fun _ => ?_) (fun h => absurd rfl h)
  refine i_287_1233 p5 ?_
  refine i_287_1235 (fun _ => ?_) (fun h => ?_)
  · refine i_287_1250 ?_
    exact k L' Z' w4 lv6 hL hZ hV.w hl6
  · have k0 : kk = 0 := by
      rw [oI hkb.1 hkb.2] at h
      exact h
    refine i_287_1238 p3 ?_
    refine i_287_1239 ?_
    refine i_287_1240 hW.2.2.1 (by decide) (by decide) (hg k0) ?_
    refine i_287_1241 p6 ?_
    refine i_287_1243 rfl ?_
    refine i_287_1244 (c := 0) lgc ?_
    refine i_287_1245 (fun _ => ?_) (fun h => absurd rfl h)
    refine i_287_1250 ?_
    exact k L' Z' w4 lv6 hL hZ hV.w hl6
end
