/-! the pure machine: rules for each instruction, goal first; runs of methods -/
def xRun (d t : Nat) (as : List Value) (w : xW) (o : Option Value ⊕ Nat) (w1 : xW) : Prop := ∃ n, xev 7 n d t 0 (lv_args 0 as) [] w = some (o, w1)
theorem xRun.of {d t : Nat} {as : List Value} {w : xW} {o : Option Value ⊕ Nat} {w1 : xW} (k : xEv d t 0 (lv_args 0 as) [] w (fun o' w' => o' = o ∧ w' = w1)) : xRun d t as w o w1 := by
  obtain ⟨n, o', w', h, rfl, rfl⟩ := k
  exact ⟨n, h⟩
theorem xRun.ev {d t : Nat} {as : List Value} {w : xW} {o : Option Value ⊕ Nat} {w1 : xW} (h : xRun d t as w o w1) {Q : Option Value ⊕ Nat → xW → Prop} (hQ : Q o w1) : xEv d t 0 (lv_args 0 as) [] w Q := by
  obtain ⟨n, h⟩ := h
  exact ⟨n, o, w1, h, hQ⟩
theorem xi_lt (x y : Int32) : x < y ↔ x.toInt < y.toInt := Int32.lt_iff_toInt_lt
theorem xi_le (x y : Int32) : x ≤ y ↔ x.toInt ≤ y.toInt := Int32.le_iff_toInt_le
theorem xi_eq (x y : Int32) : x = y ↔ x.toInt = y.toInt := ⟨fun h => by rw [h], fun h => Int32.toInt_inj.mp h⟩
theorem xc_lt {x y : Int32} : xcnd .lt x y = decide (x.toInt < y.toInt) := by simp only [xcnd, xi_lt]
theorem xc_le {x y : Int32} : xcnd .le x y = decide (x.toInt ≤ y.toInt) := by simp only [xcnd, xi_le]
theorem xc_gt {x y : Int32} : xcnd .gt x y = decide (y.toInt < x.toInt) := by simp only [xcnd, xi_lt]
theorem xc_ge {x y : Int32} : xcnd .ge x y = decide (y.toInt ≤ x.toInt) := by simp only [xcnd, xi_le]
theorem xc_eq {x y : Int32} : xcnd .eq x y = decide (x.toInt = y.toInt) := by simp only [xcnd, xi_eq]
theorem xc_ne {x y : Int32} : xcnd .ne x y = decide (x.toInt ≠ y.toInt) := by simp only [xcnd, xi_eq, decide_not]
theorem xi_z : (0 : Int32).toInt = 0 := rfl
theorem xin_i {j : Int32} {n : Nat} (h0 : 0 ≤ j.toInt) (h1 : j.toInt < n) : xin j n = true := by
  refine xin_of (fun h => ?_) ?_
  · have := (xi_lt _ _).mp h
    rw [xi_z] at this
    omega
  · show j.toInt.toNat < n
    omega
section XO
variable {d y pc pc' : Nat} {lv lv' : xLv} {st st' : List Value} {w w' : xW} {Q : Option Value ⊕ Nat → xW → Prop} {M : xM}
theorem R_iconst {n : Int} {c : Int32} (hM : xms[y]? = some M) (hd : decode (xby M) pc = .ok (.iconst n, 1)) (hv : Int32.ofInt n = c) (hp : pc + 1 = pc') (k : xEv d y pc' lv (.int c :: st) w Q) : xEv d y pc lv st w Q := by subst hv; exact xEv.op hM hd rfl rfl hp k
theorem R_lconst {n : Fin 2} {c : Int64} (hM : xms[y]? = some M) (hd : decode (xby M) pc = .ok (.lconst n, 1)) (hv : Int64.ofNat (n : Nat) = c) (hp : pc + 1 = pc') (k : xEv d y pc' lv (.long c :: st) w Q) : xEv d y pc lv st w Q := by subst hv; exact xEv.op hM hd rfl rfl hp k
theorem R_bipush {n : Int} {c : Int32} (hM : xms[y]? = some M) (hd : decode (xby M) pc = .ok (.bipush n, 2)) (hv : (Int8.ofInt n).toInt32 = c) (hp : pc + 2 = pc') (k : xEv d y pc' lv (.int c :: st) w Q) : xEv d y pc lv st w Q := by subst hv; exact xEv.op hM hd rfl rfl hp k
theorem R_sipush {n : Int} {c : Int32} (hM : xms[y]? = some M) (hd : decode (xby M) pc = .ok (.sipush n, 3)) (hv : (Int16.ofInt n).toInt32 = c) (hp : pc + 3 = pc') (k : xEv d y pc' lv (.int c :: st) w Q) : xEv d y pc lv st w Q := by subst hv; exact xEv.op hM hd rfl rfl hp k
theorem R_aconst_null (hM : xms[y]? = some M) (hd : decode (xby M) pc = .ok (.aconst_null, 1)) (hp : pc + 1 = pc') (k : xEv d y pc' lv (.null :: st) w Q) : xEv d y pc lv (st) w Q := xEv.op hM hd rfl rfl hp k
theorem R_iadd {x z : Int32} (hM : xms[y]? = some M) (hd : decode (xby M) pc = .ok (.iadd, 1)) (hp : pc + 1 = pc') (k : xEv d y pc' lv (.int (x + z) :: st) w Q) : xEv d y pc lv (.int z :: .int x :: st) w Q := xEv.op hM hd rfl rfl hp k
theorem R_isub {x z : Int32} (hM : xms[y]? = some M) (hd : decode (xby M) pc = .ok (.isub, 1)) (hp : pc + 1 = pc') (k : xEv d y pc' lv (.int (x - z) :: st) w Q) : xEv d y pc lv (.int z :: .int x :: st) w Q := xEv.op hM hd rfl rfl hp k
theorem R_imul {x z : Int32} (hM : xms[y]? = some M) (hd : decode (xby M) pc = .ok (.imul, 1)) (hp : pc + 1 = pc') (k : xEv d y pc' lv (.int (x * z) :: st) w Q) : xEv d y pc lv (.int z :: .int x :: st) w Q := xEv.op hM hd rfl rfl hp k
theorem R_iand {x z : Int32} (hM : xms[y]? = some M) (hd : decode (xby M) pc = .ok (.iand, 1)) (hp : pc + 1 = pc') (k : xEv d y pc' lv (.int (x &&& z) :: st) w Q) : xEv d y pc lv (.int z :: .int x :: st) w Q := xEv.op hM hd rfl rfl hp k
theorem R_ior {x z : Int32} (hM : xms[y]? = some M) (hd : decode (xby M) pc = .ok (.ior, 1)) (hp : pc + 1 = pc') (k : xEv d y pc' lv (.int (x ||| z) :: st) w Q) : xEv d y pc lv (.int z :: .int x :: st) w Q := xEv.op hM hd rfl rfl hp k
theorem R_ixor {x z : Int32} (hM : xms[y]? = some M) (hd : decode (xby M) pc = .ok (.ixor, 1)) (hp : pc + 1 = pc') (k : xEv d y pc' lv (.int (x ^^^ z) :: st) w Q) : xEv d y pc lv (.int z :: .int x :: st) w Q := xEv.op hM hd rfl rfl hp k
theorem R_ishl {x z : Int32} (hM : xms[y]? = some M) (hd : decode (xby M) pc = .ok (.ishl, 1)) (hp : pc + 1 = pc') (k : xEv d y pc' lv (.int (x <<< (z &&& 31)) :: st) w Q) : xEv d y pc lv (.int z :: .int x :: st) w Q := xEv.op hM hd rfl rfl hp k
theorem R_ishr {x z : Int32} (hM : xms[y]? = some M) (hd : decode (xby M) pc = .ok (.ishr, 1)) (hp : pc + 1 = pc') (k : xEv d y pc' lv (.int (x >>> (z &&& 31)) :: st) w Q) : xEv d y pc lv (.int z :: .int x :: st) w Q := xEv.op hM hd rfl rfl hp k
theorem R_iushr {x z : Int32} (hM : xms[y]? = some M) (hd : decode (xby M) pc = .ok (.iushr, 1)) (hp : pc + 1 = pc') (k : xEv d y pc' lv (.int ((x.toUInt32 >>> (z.toUInt32 &&& Int32.toUInt32 31)).toInt32) :: st) w Q) : xEv d y pc lv (.int z :: .int x :: st) w Q := xEv.op hM hd rfl rfl hp k
theorem R_ladd {x z : Int64} (hM : xms[y]? = some M) (hd : decode (xby M) pc = .ok (.ladd, 1)) (hp : pc + 1 = pc') (k : xEv d y pc' lv (.long (x + z) :: st) w Q) : xEv d y pc lv (.long z :: .long x :: st) w Q := xEv.op hM hd rfl rfl hp k
theorem R_lsub {x z : Int64} (hM : xms[y]? = some M) (hd : decode (xby M) pc = .ok (.lsub, 1)) (hp : pc + 1 = pc') (k : xEv d y pc' lv (.long (x - z) :: st) w Q) : xEv d y pc lv (.long z :: .long x :: st) w Q := xEv.op hM hd rfl rfl hp k
theorem R_lmul {x z : Int64} (hM : xms[y]? = some M) (hd : decode (xby M) pc = .ok (.lmul, 1)) (hp : pc + 1 = pc') (k : xEv d y pc' lv (.long (x * z) :: st) w Q) : xEv d y pc lv (.long z :: .long x :: st) w Q := xEv.op hM hd rfl rfl hp k
theorem R_land {x z : Int64} (hM : xms[y]? = some M) (hd : decode (xby M) pc = .ok (.land, 1)) (hp : pc + 1 = pc') (k : xEv d y pc' lv (.long (x &&& z) :: st) w Q) : xEv d y pc lv (.long z :: .long x :: st) w Q := xEv.op hM hd rfl rfl hp k
theorem R_lor {x z : Int64} (hM : xms[y]? = some M) (hd : decode (xby M) pc = .ok (.lor, 1)) (hp : pc + 1 = pc') (k : xEv d y pc' lv (.long (x ||| z) :: st) w Q) : xEv d y pc lv (.long z :: .long x :: st) w Q := xEv.op hM hd rfl rfl hp k
theorem R_lxor {x z : Int64} (hM : xms[y]? = some M) (hd : decode (xby M) pc = .ok (.lxor, 1)) (hp : pc + 1 = pc') (k : xEv d y pc' lv (.long (x ^^^ z) :: st) w Q) : xEv d y pc lv (.long z :: .long x :: st) w Q := xEv.op hM hd rfl rfl hp k
theorem R_idiv {x z : Int32} (hM : xms[y]? = some M) (hd : decode (xby M) pc = .ok (.idiv, 1)) (hz : z ≠ 0) (hp : pc + 1 = pc') (k : xEv d y pc' lv (.int (x / z) :: st) w Q) : xEv d y pc lv (.int z :: .int x :: st) w Q := xEv.op hM hd rfl (by simp only [xop, if_neg hz]) hp k
theorem R_irem {x z : Int32} (hM : xms[y]? = some M) (hd : decode (xby M) pc = .ok (.irem, 1)) (hz : z ≠ 0) (hp : pc + 1 = pc') (k : xEv d y pc' lv (.int (x - x / z * z) :: st) w Q) : xEv d y pc lv (.int z :: .int x :: st) w Q := xEv.op hM hd rfl (by simp only [xop, if_neg hz]) hp k
theorem R_ldiv {x z : Int64} (hM : xms[y]? = some M) (hd : decode (xby M) pc = .ok (.ldiv, 1)) (hz : z ≠ 0) (hp : pc + 1 = pc') (k : xEv d y pc' lv (.long (x / z) :: st) w Q) : xEv d y pc lv (.long z :: .long x :: st) w Q := xEv.op hM hd rfl (by simp only [xop, if_neg hz]) hp k
theorem R_lrem {x z : Int64} (hM : xms[y]? = some M) (hd : decode (xby M) pc = .ok (.lrem, 1)) (hz : z ≠ 0) (hp : pc + 1 = pc') (k : xEv d y pc' lv (.long (x - x / z * z) :: st) w Q) : xEv d y pc lv (.long z :: .long x :: st) w Q := xEv.op hM hd rfl (by simp only [xop, if_neg hz]) hp k
theorem R_lshl {x : Int64} {z : Int32} (hM : xms[y]? = some M) (hd : decode (xby M) pc = .ok (.lshl, 1)) (hp : pc + 1 = pc') (k : xEv d y pc' lv (.long (x <<< (z.toInt64 &&& 63)) :: st) w Q) : xEv d y pc lv (.int z :: .long x :: st) w Q := xEv.op hM hd rfl rfl hp k
theorem R_lshr {x : Int64} {z : Int32} (hM : xms[y]? = some M) (hd : decode (xby M) pc = .ok (.lshr, 1)) (hp : pc + 1 = pc') (k : xEv d y pc' lv (.long (x >>> (z.toInt64 &&& 63)) :: st) w Q) : xEv d y pc lv (.int z :: .long x :: st) w Q := xEv.op hM hd rfl rfl hp k
theorem R_lushr {x : Int64} {z : Int32} (hM : xms[y]? = some M) (hd : decode (xby M) pc = .ok (.lushr, 1)) (hp : pc + 1 = pc') (k : xEv d y pc' lv (.long ((x.toUInt64 >>> (z.toInt64.toUInt64 &&& Int64.toUInt64 63)).toInt64) :: st) w Q) : xEv d y pc lv (.int z :: .long x :: st) w Q := xEv.op hM hd rfl rfl hp k
theorem R_ineg {x : Int32} (hM : xms[y]? = some M) (hd : decode (xby M) pc = .ok (.ineg, 1)) (hp : pc + 1 = pc') (k : xEv d y pc' lv (.int (-x) :: st) w Q) : xEv d y pc lv (.int x :: st) w Q := xEv.op hM hd rfl rfl hp k
theorem R_lneg {x : Int64} (hM : xms[y]? = some M) (hd : decode (xby M) pc = .ok (.lneg, 1)) (hp : pc + 1 = pc') (k : xEv d y pc' lv (.long (-x) :: st) w Q) : xEv d y pc lv (.long x :: st) w Q := xEv.op hM hd rfl rfl hp k
theorem R_i2l {x : Int32} (hM : xms[y]? = some M) (hd : decode (xby M) pc = .ok (.i2l, 1)) (hp : pc + 1 = pc') (k : xEv d y pc' lv (.long x.toInt64 :: st) w Q) : xEv d y pc lv (.int x :: st) w Q := xEv.op hM hd rfl rfl hp k
theorem R_l2i {x : Int64} (hM : xms[y]? = some M) (hd : decode (xby M) pc = .ok (.l2i, 1)) (hp : pc + 1 = pc') (k : xEv d y pc' lv (.int x.toInt32 :: st) w Q) : xEv d y pc lv (.long x :: st) w Q := xEv.op hM hd rfl rfl hp k
theorem R_i2b {x : Int32} (hM : xms[y]? = some M) (hd : decode (xby M) pc = .ok (.i2b, 1)) (hp : pc + 1 = pc') (k : xEv d y pc' lv (.int x.toInt8.toInt32 :: st) w Q) : xEv d y pc lv (.int x :: st) w Q := xEv.op hM hd rfl rfl hp k
theorem R_i2c {x : Int32} (hM : xms[y]? = some M) (hd : decode (xby M) pc = .ok (.i2c, 1)) (hp : pc + 1 = pc') (k : xEv d y pc' lv (.int (x.toUInt32 % 65536).toInt32 :: st) w Q) : xEv d y pc lv (.int x :: st) w Q := xEv.op hM hd rfl rfl hp k
theorem R_lcmp {x z : Int64} (hM : xms[y]? = some M) (hd : decode (xby M) pc = .ok (.lcmp, 1)) (hp : pc + 1 = pc') (k : xEv d y pc' lv (.int (lg_cmp x z) :: st) w Q) : xEv d y pc lv (.long z :: .long x :: st) w Q := xEv.op hM hd rfl rfl hp k
theorem R_dup {a : Value} (ha : a.category = 1) (hM : xms[y]? = some M) (hd : decode (xby M) pc = .ok (.dup, 1)) (hp : pc + 1 = pc') (k : xEv d y pc' lv (a :: a :: st) w Q) : xEv d y pc lv (a :: st) w Q := xEv.op hM hd rfl (by simp [xop, ha]) hp k
theorem R_pop {a : Value} (ha : a.category = 1) (hM : xms[y]? = some M) (hd : decode (xby M) pc = .ok (.pop, 1)) (hp : pc + 1 = pc') (k : xEv d y pc' lv (st) w Q) : xEv d y pc lv (a :: st) w Q := xEv.op hM hd rfl (by simp [xop, ha]) hp k
theorem R_dup_x1 {a b : Value} (ha : a.category = 1) (hb : b.category = 1) (hM : xms[y]? = some M) (hd : decode (xby M) pc = .ok (.dup_x1, 1)) (hp : pc + 1 = pc') (k : xEv d y pc' lv (a :: b :: a :: st) w Q) : xEv d y pc lv (a :: b :: st) w Q := xEv.op hM hd rfl (by simp [xop, ha, hb]) hp k
theorem R_dup2 {a b : Value} (ha : a.category = 1) (hb : b.category = 1) (hM : xms[y]? = some M) (hd : decode (xby M) pc = .ok (.dup2, 1)) (hp : pc + 1 = pc') (k : xEv d y pc' lv (a :: b :: a :: b :: st) w Q) : xEv d y pc lv (a :: b :: st) w Q := xEv.op hM hd rfl (by simp [xop, ha, hb]) hp k
theorem R_iload_n {f : Fin 4} {i : Nat} {x : Int32} (hM : xms[y]? = some M) (hd : decode (xby M) pc = .ok (.iload_n f, 1)) (hf : (f : Nat) = i) (h : xld lv i = some (.int x)) (hp : pc + 1 = pc') (k : xEv d y pc' lv (.int x :: st) w Q) : xEv d y pc lv st w Q := by subst hf; exact xEv.loc hM hd rfl (by simp only [xloc, xldi, h]) hp k
theorem R_istore_n {f : Fin 4} {i : Nat} {x : Int32} (hM : xms[y]? = some M) (hd : decode (xby M) pc = .ok (.istore_n f, 1)) (hf : (f : Nat) = i) (hi : Nat.blt (i) (xmx M) = true) (hp : pc + 1 = pc') (k : xEv d y pc' (xst1 lv i (.int x)) st w Q) : xEv d y pc lv (.int x :: st) w Q := by subst hf; exact xEv.loc hM hd rfl (by simp only [xloc, xsti, hi, cond_true]) hp k
theorem R_iload {i : Nat} {x : Int32} (hM : xms[y]? = some M) (hd : decode (xby M) pc = .ok (.iload i, 2)) (h : xld lv i = some (.int x)) (hp : pc + 2 = pc') (k : xEv d y pc' lv (.int x :: st) w Q) : xEv d y pc lv st w Q := xEv.loc hM hd rfl (by simp only [xloc, xldi, h]) hp k
theorem R_istore {i : Nat} {x : Int32} (hM : xms[y]? = some M) (hd : decode (xby M) pc = .ok (.istore i, 2)) (hi : Nat.blt (i) (xmx M) = true) (hp : pc + 2 = pc') (k : xEv d y pc' (xst1 lv i (.int x)) st w Q) : xEv d y pc lv (.int x :: st) w Q := xEv.loc hM hd rfl (by simp only [xloc, xsti, hi, cond_true]) hp k
theorem R_lload_n {f : Fin 4} {i : Nat} {x : Int64} (hM : xms[y]? = some M) (hd : decode (xby M) pc = .ok (.lload_n f, 1)) (hf : (f : Nat) = i) (h : xld lv i = some (.long x)) (hp : pc + 1 = pc') (k : xEv d y pc' lv (.long x :: st) w Q) : xEv d y pc lv st w Q := by subst hf; exact xEv.loc hM hd rfl (by simp only [xloc, xldl, h]) hp k
theorem R_lstore_n {f : Fin 4} {i : Nat} {x : Int64} (hM : xms[y]? = some M) (hd : decode (xby M) pc = .ok (.lstore_n f, 1)) (hf : (f : Nat) = i) (hi : Nat.blt (i + 1) (xmx M) = true) (hp : pc + 1 = pc') (k : xEv d y pc' (xst2 lv i (.long x)) st w Q) : xEv d y pc lv (.long x :: st) w Q := by subst hf; exact xEv.loc hM hd rfl (by simp only [xloc, xstl, hi, cond_true]) hp k
theorem R_lload {i : Nat} {x : Int64} (hM : xms[y]? = some M) (hd : decode (xby M) pc = .ok (.lload i, 2)) (h : xld lv i = some (.long x)) (hp : pc + 2 = pc') (k : xEv d y pc' lv (.long x :: st) w Q) : xEv d y pc lv st w Q := xEv.loc hM hd rfl (by simp only [xloc, xldl, h]) hp k
theorem R_lstore {i : Nat} {x : Int64} (hM : xms[y]? = some M) (hd : decode (xby M) pc = .ok (.lstore i, 2)) (hi : Nat.blt (i + 1) (xmx M) = true) (hp : pc + 2 = pc') (k : xEv d y pc' (xst2 lv i (.long x)) st w Q) : xEv d y pc lv (.long x :: st) w Q := xEv.loc hM hd rfl (by simp only [xloc, xstl, hi, cond_true]) hp k
theorem R_aload_n {f : Fin 4} {i : Nat} {x : Nat} (hM : xms[y]? = some M) (hd : decode (xby M) pc = .ok (.aload_n f, 1)) (hf : (f : Nat) = i) (h : xld lv i = some (.ref x)) (hp : pc + 1 = pc') (k : xEv d y pc' lv (.ref x :: st) w Q) : xEv d y pc lv st w Q := by subst hf; exact xEv.loc hM hd rfl (by simp only [xloc, xlda, h]) hp k
theorem R_astore_n {f : Fin 4} {i : Nat} {x : Nat} (hM : xms[y]? = some M) (hd : decode (xby M) pc = .ok (.astore_n f, 1)) (hf : (f : Nat) = i) (hi : Nat.blt (i) (xmx M) = true) (hp : pc + 1 = pc') (k : xEv d y pc' (xst1 lv i (.ref x)) st w Q) : xEv d y pc lv (.ref x :: st) w Q := by subst hf; exact xEv.loc hM hd rfl (by simp only [xloc, xsta, hi, cond_true]) hp k
theorem R_aload {i : Nat} {x : Nat} (hM : xms[y]? = some M) (hd : decode (xby M) pc = .ok (.aload i, 2)) (h : xld lv i = some (.ref x)) (hp : pc + 2 = pc') (k : xEv d y pc' lv (.ref x :: st) w Q) : xEv d y pc lv st w Q := xEv.loc hM hd rfl (by simp only [xloc, xlda, h]) hp k
theorem R_astore {i : Nat} {x : Nat} (hM : xms[y]? = some M) (hd : decode (xby M) pc = .ok (.astore i, 2)) (hi : Nat.blt (i) (xmx M) = true) (hp : pc + 2 = pc') (k : xEv d y pc' (xst1 lv i (.ref x)) st w Q) : xEv d y pc lv (.ref x :: st) w Q := xEv.loc hM hd rfl (by simp only [xloc, xsta, hi, cond_true]) hp k
theorem R_iinc {i : Nat} {n : Int} {c x : Int32} (hM : xms[y]? = some M) (hd : decode (xby M) pc = .ok (.iinc i n, 3)) (hi : Nat.blt i (xmx M) = true) (hc : Int32.ofInt n = c) (h : xld lv i = some (.int x)) (hp : pc + 3 = pc') (k : xEv d y pc' (xst1 lv i (.int (x + c))) st w Q) : xEv d y pc lv st w Q := by subst hc; exact xEv.loc hM hd rfl (by simp only [xloc, h, hi, cond_true]) hp k
theorem R_if_eq {off : Int} {t : Nat} {x : Int32} (hM : xms[y]? = some M) (hd : decode (xby M) pc = .ok (.ifCond .eq off, 3)) (ht : xtgt pc off = some t) (hp : pc + 3 = pc') (kt : x.toInt = 0 → xEv d y t lv st w Q) (kf : ¬ x.toInt = 0 → xEv d y pc' lv st w Q) : xEv d y pc lv (.int x :: st) w Q := by
  refine xEv.if2 hM hd ht hp (fun h => kt ?_) (fun h => kf ?_)
  · rw [xc_eq, xi_z] at h; exact of_decide_eq_true h
  · rw [xc_eq, xi_z] at h; have := of_decide_eq_false h; omega
theorem R_ic_eq {off : Int} {t : Nat} {x z : Int32} (hM : xms[y]? = some M) (hd : decode (xby M) pc = .ok (.if_icmp .eq off, 3)) (ht : xtgt pc off = some t) (hp : pc + 3 = pc') (kt : x.toInt = z.toInt → xEv d y t lv st w Q) (kf : ¬ x.toInt = z.toInt → xEv d y pc' lv st w Q) : xEv d y pc lv (.int z :: .int x :: st) w Q := by
  refine xEv.ic2 hM hd ht hp (fun h => kt ?_) (fun h => kf ?_)
  · rw [xc_eq] at h; exact of_decide_eq_true h
  · rw [xc_eq] at h; have := of_decide_eq_false h; omega
theorem R_if_ne {off : Int} {t : Nat} {x : Int32} (hM : xms[y]? = some M) (hd : decode (xby M) pc = .ok (.ifCond .ne off, 3)) (ht : xtgt pc off = some t) (hp : pc + 3 = pc') (kt : x.toInt ≠ 0 → xEv d y t lv st w Q) (kf : x.toInt = 0 → xEv d y pc' lv st w Q) : xEv d y pc lv (.int x :: st) w Q := by
  refine xEv.if2 hM hd ht hp (fun h => kt ?_) (fun h => kf ?_)
  · rw [xc_ne, xi_z] at h; exact of_decide_eq_true h
  · rw [xc_ne, xi_z] at h; have := of_decide_eq_false h; omega
theorem R_ic_ne {off : Int} {t : Nat} {x z : Int32} (hM : xms[y]? = some M) (hd : decode (xby M) pc = .ok (.if_icmp .ne off, 3)) (ht : xtgt pc off = some t) (hp : pc + 3 = pc') (kt : x.toInt ≠ z.toInt → xEv d y t lv st w Q) (kf : x.toInt = z.toInt → xEv d y pc' lv st w Q) : xEv d y pc lv (.int z :: .int x :: st) w Q := by
  refine xEv.ic2 hM hd ht hp (fun h => kt ?_) (fun h => kf ?_)
  · rw [xc_ne] at h; exact of_decide_eq_true h
  · rw [xc_ne] at h; have := of_decide_eq_false h; omega
theorem R_if_lt {off : Int} {t : Nat} {x : Int32} (hM : xms[y]? = some M) (hd : decode (xby M) pc = .ok (.ifCond .lt off, 3)) (ht : xtgt pc off = some t) (hp : pc + 3 = pc') (kt : x.toInt < 0 → xEv d y t lv st w Q) (kf : 0 ≤ x.toInt → xEv d y pc' lv st w Q) : xEv d y pc lv (.int x :: st) w Q := by
  refine xEv.if2 hM hd ht hp (fun h => kt ?_) (fun h => kf ?_)
  · rw [xc_lt, xi_z] at h; exact of_decide_eq_true h
  · rw [xc_lt, xi_z] at h; have := of_decide_eq_false h; omega
theorem R_ic_lt {off : Int} {t : Nat} {x z : Int32} (hM : xms[y]? = some M) (hd : decode (xby M) pc = .ok (.if_icmp .lt off, 3)) (ht : xtgt pc off = some t) (hp : pc + 3 = pc') (kt : x.toInt < z.toInt → xEv d y t lv st w Q) (kf : z.toInt ≤ x.toInt → xEv d y pc' lv st w Q) : xEv d y pc lv (.int z :: .int x :: st) w Q := by
  refine xEv.ic2 hM hd ht hp (fun h => kt ?_) (fun h => kf ?_)
  · rw [xc_lt] at h; exact of_decide_eq_true h
  · rw [xc_lt] at h; have := of_decide_eq_false h; omega
theorem R_if_ge {off : Int} {t : Nat} {x : Int32} (hM : xms[y]? = some M) (hd : decode (xby M) pc = .ok (.ifCond .ge off, 3)) (ht : xtgt pc off = some t) (hp : pc + 3 = pc') (kt : 0 ≤ x.toInt → xEv d y t lv st w Q) (kf : x.toInt < 0 → xEv d y pc' lv st w Q) : xEv d y pc lv (.int x :: st) w Q := by
  refine xEv.if2 hM hd ht hp (fun h => kt ?_) (fun h => kf ?_)
  · rw [xc_ge, xi_z] at h; exact of_decide_eq_true h
  · rw [xc_ge, xi_z] at h; have := of_decide_eq_false h; omega
theorem R_ic_ge {off : Int} {t : Nat} {x z : Int32} (hM : xms[y]? = some M) (hd : decode (xby M) pc = .ok (.if_icmp .ge off, 3)) (ht : xtgt pc off = some t) (hp : pc + 3 = pc') (kt : z.toInt ≤ x.toInt → xEv d y t lv st w Q) (kf : x.toInt < z.toInt → xEv d y pc' lv st w Q) : xEv d y pc lv (.int z :: .int x :: st) w Q := by
  refine xEv.ic2 hM hd ht hp (fun h => kt ?_) (fun h => kf ?_)
  · rw [xc_ge] at h; exact of_decide_eq_true h
  · rw [xc_ge] at h; have := of_decide_eq_false h; omega
theorem R_if_gt {off : Int} {t : Nat} {x : Int32} (hM : xms[y]? = some M) (hd : decode (xby M) pc = .ok (.ifCond .gt off, 3)) (ht : xtgt pc off = some t) (hp : pc + 3 = pc') (kt : 0 < x.toInt → xEv d y t lv st w Q) (kf : x.toInt ≤ 0 → xEv d y pc' lv st w Q) : xEv d y pc lv (.int x :: st) w Q := by
  refine xEv.if2 hM hd ht hp (fun h => kt ?_) (fun h => kf ?_)
  · rw [xc_gt, xi_z] at h; exact of_decide_eq_true h
  · rw [xc_gt, xi_z] at h; have := of_decide_eq_false h; omega
theorem R_ic_gt {off : Int} {t : Nat} {x z : Int32} (hM : xms[y]? = some M) (hd : decode (xby M) pc = .ok (.if_icmp .gt off, 3)) (ht : xtgt pc off = some t) (hp : pc + 3 = pc') (kt : z.toInt < x.toInt → xEv d y t lv st w Q) (kf : x.toInt ≤ z.toInt → xEv d y pc' lv st w Q) : xEv d y pc lv (.int z :: .int x :: st) w Q := by
  refine xEv.ic2 hM hd ht hp (fun h => kt ?_) (fun h => kf ?_)
  · rw [xc_gt] at h; exact of_decide_eq_true h
  · rw [xc_gt] at h; have := of_decide_eq_false h; omega
theorem R_if_le {off : Int} {t : Nat} {x : Int32} (hM : xms[y]? = some M) (hd : decode (xby M) pc = .ok (.ifCond .le off, 3)) (ht : xtgt pc off = some t) (hp : pc + 3 = pc') (kt : x.toInt ≤ 0 → xEv d y t lv st w Q) (kf : 0 < x.toInt → xEv d y pc' lv st w Q) : xEv d y pc lv (.int x :: st) w Q := by
  refine xEv.if2 hM hd ht hp (fun h => kt ?_) (fun h => kf ?_)
  · rw [xc_le, xi_z] at h; exact of_decide_eq_true h
  · rw [xc_le, xi_z] at h; have := of_decide_eq_false h; omega
theorem R_ic_le {off : Int} {t : Nat} {x z : Int32} (hM : xms[y]? = some M) (hd : decode (xby M) pc = .ok (.if_icmp .le off, 3)) (ht : xtgt pc off = some t) (hp : pc + 3 = pc') (kt : x.toInt ≤ z.toInt → xEv d y t lv st w Q) (kf : z.toInt < x.toInt → xEv d y pc' lv st w Q) : xEv d y pc lv (.int z :: .int x :: st) w Q := by
  refine xEv.ic2 hM hd ht hp (fun h => kt ?_) (fun h => kf ?_)
  · rw [xc_le] at h; exact of_decide_eq_true h
  · rw [xc_le] at h; have := of_decide_eq_false h; omega
theorem R_goto {off : Int} {t : Nat} (hM : xms[y]? = some M) (hd : decode (xby M) pc = .ok (.goto off, 3)) (ht : xtgt pc off = some t) (k : xEv d y t lv st w Q) : xEv d y pc lv st w Q := xEv.goto hM hd ht k
theorem R_switch {df lo hi : Int} {offs : Array Int} {len : Nat} {x : Int32} {t : Nat} {ofs : Int} (hM : xms[y]? = some M) (hd : decode (xby M) pc = .ok (.tableswitch df lo hi offs, len)) (j : Nat) (hx : x.toInt = lo + j) (hj : lo + j ≤ hi) (ho : offs[j]? = some ofs) (ht : xtgt pc ofs = some t) (k : xEv d y t lv st w Q) : xEv d y pc lv (.int x :: st) w Q := by
  refine xEv.br hM hd (by simp [xist]) rfl (pc' := t) (st' := st) ?_ k
  have e : (x.toInt - lo).toNat = j := by omega
  simp only [xbr]
  rw [if_neg (by omega), e, ho]
  simp only [ht, Option.map_some]
theorem R_swdef {df lo hi : Int} {offs : Array Int} {len : Nat} {x : Int32} {t : Nat} (hM : xms[y]? = some M) (hd : decode (xby M) pc = .ok (.tableswitch df lo hi offs, len)) (hx : x.toInt < lo ∨ hi < x.toInt) (ht : xtgt pc df = some t) (k : xEv d y t lv st w Q) : xEv d y pc lv (.int x :: st) w Q := by
  refine xEv.br hM hd (by simp [xist]) rfl (pc' := t) (st' := st) ?_ k
  simp only [xbr]
  rw [if_pos hx]
  simp only [ht, Option.map_some]
theorem R_ldc {idx a ps : Nat} {v : Int32} (hM : xms[y]? = some M) (hd : decode (xby M) pc = .ok (.ldc idx, 2)) (hl : xlook (xcno M) (idx * 4) = some (5, a, ps)) (hk : xks[a]? = some (.int v)) (hp : pc + 2 = pc') (k : xEv d y pc' lv (.int v :: st) w Q) : xEv d y pc lv st w Q := by
  refine xEv.hp hM hd rfl (st' := .int v :: st) (w' := w) ?_ hp k
  simp only [xhp, hl, hk]
theorem R_ldcw {idx a ps : Nat} {v : Int32} (hM : xms[y]? = some M) (hd : decode (xby M) pc = .ok (.ldc_w idx, 3)) (hl : xlook (xcno M) (idx * 4) = some (5, a, ps)) (hk : xks[a]? = some (.int v)) (hp : pc + 3 = pc') (k : xEv d y pc' lv (.int v :: st) w Q) : xEv d y pc lv st w Q := by
  refine xEv.hp hM hd rfl (st' := .int v :: st) (w' := w) ?_ hp k
  simp only [xhp, hl, hk]
theorem R_ldcs {idx ps a : Nat} (hM : xms[y]? = some M) (hd : decode (xby M) pc = .ok (.ldc idx, 2)) (ha : a = 1 ∨ a = 3) (hl : xlook (xcno M) (idx * 4) = some (13, a, ps)) (hp : pc + 2 = pc') (k : xEv d y pc' lv (.ref a :: st) w Q) : xEv d y pc lv st w Q := by
  refine xEv.hp hM hd rfl (st' := .ref a :: st) (w' := w) ?_ hp k
  rcases ha with rfl | rfl <;> simp only [xhp, hl]
theorem R_ldc2 {idx a ps : Nat} {v : Int64} (hM : xms[y]? = some M) (hd : decode (xby M) pc = .ok (.ldc2_w idx, 3)) (hl : xlook (xcno M) (idx * 4) = some (6, a, ps)) (hk : xks[a]? = some (.long v)) (hp : pc + 3 = pc') (k : xEv d y pc' lv (.long v :: st) w Q) : xEv d y pc lv st w Q := by
  refine xEv.hp hM hd rfl (st' := .long v :: st) (w' := w) ?_ hp k
  simp only [xhp, hl, hk]
theorem R_gets {idx a ps kk : Nat} {v : Value} (hM : xms[y]? = some M) (hd : decode (xby M) pc = .ok (.getstatic idx, 3)) (hl : xlook (xcno M) (idx * 4) = some (kk, a, ps)) (hv : (kk = 14 ∧ a = 1 ∧ v = .ref 6) ∨ (kk = 14 ∧ a = 2 ∧ v = .int 1) ∨ (kk = 15 ∧ a = 0 ∧ v = .ref 5)) (hp : pc + 3 = pc') (k : xEv d y pc' lv (v :: st) w Q) : xEv d y pc lv st w Q := by
  refine xEv.hp hM hd rfl (st' := v :: st) (w' := w) ?_ hp k
  rcases hv with ⟨rfl, rfl, rfl⟩ | ⟨rfl, rfl, rfl⟩ | ⟨rfl, rfl, rfl⟩ <;> simp only [xhp, hl]
theorem R_getf {idx h ci j a pos : Nat} {fs : List Value} {v : Value} (hM : xms[y]? = some M) (hd : decode (xby M) pc = .ok (.getfield idx, 3)) (hl : xlook (xcno M) (idx * 4) = some (0, a, pos)) (hci : ci = a / 64) (hj : j = a % 64) (hp : pc + 3 = pc') (hw : w[h]? = some (.inr (ci, fs))) (hv : fs[j]? = some v) (k : xEv d y pc' lv (v :: st) w Q) : xEv d y pc lv (.ref h :: st) w Q := by
  subst hj
  exact xEv.getf hM hd hl hw hci hv hp k
theorem R_putf {idx h ci j a pos : Nat} {fs : List Value} {v : Value} {q : vw_C} {ty : FieldType} (hM : xms[y]? = some M) (hd : decode (xby M) pc = .ok (.putfield idx, 3)) (hl : xlook (xcno M) (idx * 4) = some (0, a, pos)) (hci : ci = a / 64) (hj : j = a % 64) (hq : xcl[ci]? = some q) (hty : (xft.getD ci [])[j]? = some ty) (hfin : (!(q.2.1 j).2.2.2 || (Nat.beq (xkd M) 2 && Nat.beq (xcno M) ci)) = true) (hp : pc + 3 = pc') (hw : w[h]? = some (.inr (ci, fs))) (hok : xok ty v = true) (hlen : j < fs.length) (h7 : 7 ≤ h)
    (k : xEv d y pc' lv st (w.set h (.inr (ci, fs.set j v))) Q) : xEv d y pc lv (v :: .ref h :: st) w Q := by
  subst hj
  exact xEv.putf hM hd hl hw hci hq hty hok hlen hfin h7 hp k
theorem R_iaload {j : Int32} {h n : Nat} {g : Nat → Value} {v : Value} (hM : xms[y]? = some M) (hd : decode (xby M) pc = .ok (.iaload, 1)) (hp : pc + 1 = pc') (hw : w[h]? = some (.inl (0, n, g))) (h0 : 0 ≤ j.toInt) (h1 : j.toInt < n) (hv : g j.toInt.toNat = v) (k : xEv d y pc' lv (v :: st) w Q) : xEv d y pc lv (.int j :: .ref h :: st) w Q := xEv.iald hM hd hw (xin_i h0 h1) hv hp k
theorem R_laload {j : Int32} {h n : Nat} {g : Nat → Value} {v : Value} (hM : xms[y]? = some M) (hd : decode (xby M) pc = .ok (.laload, 1)) (hp : pc + 1 = pc') (hw : w[h]? = some (.inl (3, n, g))) (h0 : 0 ≤ j.toInt) (h1 : j.toInt < n) (hv : g j.toInt.toNat = v) (k : xEv d y pc' lv (v :: st) w Q) : xEv d y pc lv (.int j :: .ref h :: st) w Q := xEv.lald hM hd hw (xin_i h0 h1) hv hp k
theorem R_baload {j : Int32} {h n : Nat} {g : Nat → Value} {v : Value} (hM : xms[y]? = some M) (hd : decode (xby M) pc = .ok (.baload, 1)) (hp : pc + 1 = pc') (hw : w[h]? = some (.inl (1, n, g))) (h0 : 0 ≤ j.toInt) (h1 : j.toInt < n) (hv : g j.toInt.toNat = v) (k : xEv d y pc' lv (v :: st) w Q) : xEv d y pc lv (.int j :: .ref h :: st) w Q := xEv.bald hM hd hw (xin_i h0 h1) hv hp k
theorem R_zaload {j : Int32} {h n : Nat} {g : Nat → Value} {v : Value} (hM : xms[y]? = some M) (hd : decode (xby M) pc = .ok (.baload, 1)) (hp : pc + 1 = pc') (hw : w[h]? = some (.inl (2, n, g))) (h0 : 0 ≤ j.toInt) (h1 : j.toInt < n) (hv : g j.toInt.toNat = v) (k : xEv d y pc' lv (v :: st) w Q) : xEv d y pc lv (.int j :: .ref h :: st) w Q := xEv.zald hM hd hw (xin_i h0 h1) hv hp k
theorem R_aaload {t : Nat} {j : Int32} {h n : Nat} {g : Nat → Value} {v : Value} (hM : xms[y]? = some M) (hd : decode (xby M) pc = .ok (.aaload, 1)) (hp : pc + 1 = pc') (ht : t = 4 ∨ t = 5) (hw : w[h]? = some (.inl (t, n, g))) (h0 : 0 ≤ j.toInt) (h1 : j.toInt < n) (hv : g j.toInt.toNat = v) (k : xEv d y pc' lv (v :: st) w Q) : xEv d y pc lv (.int j :: .ref h :: st) w Q := xEv.aald hM hd ht hw (xin_i h0 h1) hv hp k
theorem R_iastore {j : Int32} {x : Int32} {h n : Nat} {g : Nat → Value} (hM : xms[y]? = some M) (hd : decode (xby M) pc = .ok (.iastore, 1)) (hp : pc + 1 = pc') (hw : w[h]? = some (.inl (0, n, g))) (h0 : 0 ≤ j.toInt) (h1 : j.toInt < n) (h7 : 7 ≤ h) (k : xEv d y pc' lv st (w.set h (.inl (0, n, xup g j.toInt.toNat (.int x)))) Q) : xEv d y pc lv (.int x :: .int j :: .ref h :: st) w Q := xEv.iast hM hd hw (xin_i h0 h1) h7 hp k
theorem R_lastore {j : Int32} {x : Int64} {h n : Nat} {g : Nat → Value} (hM : xms[y]? = some M) (hd : decode (xby M) pc = .ok (.lastore, 1)) (hp : pc + 1 = pc') (hw : w[h]? = some (.inl (3, n, g))) (h0 : 0 ≤ j.toInt) (h1 : j.toInt < n) (h7 : 7 ≤ h) (k : xEv d y pc' lv st (w.set h (.inl (3, n, xup g j.toInt.toNat (.long x)))) Q) : xEv d y pc lv (.long x :: .int j :: .ref h :: st) w Q := xEv.last hM hd hw (xin_i h0 h1) h7 hp k
theorem R_bastore {j : Int32} {x : Int32} {h n : Nat} {g : Nat → Value} (hM : xms[y]? = some M) (hd : decode (xby M) pc = .ok (.bastore, 1)) (hp : pc + 1 = pc') (hw : w[h]? = some (.inl (1, n, g))) (h0 : 0 ≤ j.toInt) (h1 : j.toInt < n) (h7 : 7 ≤ h) (k : xEv d y pc' lv st (w.set h (.inl (1, n, xup g j.toInt.toNat (narrow .byte (.int x))))) Q) : xEv d y pc lv (.int x :: .int j :: .ref h :: st) w Q := xEv.bast hM hd hw (xin_i h0 h1) h7 hp k
theorem R_zastore {j : Int32} {x : Int32} {h n : Nat} {g : Nat → Value} (hM : xms[y]? = some M) (hd : decode (xby M) pc = .ok (.bastore, 1)) (hp : pc + 1 = pc') (hw : w[h]? = some (.inl (2, n, g))) (h0 : 0 ≤ j.toInt) (h1 : j.toInt < n) (h7 : 7 ≤ h) (k : xEv d y pc' lv st (w.set h (.inl (2, n, xup g j.toInt.toNat (narrow .boolean (.int x))))) Q) : xEv d y pc lv (.int x :: .int j :: .ref h :: st) w Q := xEv.zast hM hd hw (xin_i h0 h1) h7 hp k
theorem R_aastore {t cv : Nat} {j : Int32} {v h n : Nat} {g : Nat → Value} {fs : List Value} (hM : xms[y]? = some M) (hd : decode (xby M) pc = .ok (.aastore, 1)) (hp : pc + 1 = pc') (ht : (cv = 2 ∧ t = 4) ∨ (cv = 13 ∧ t = 5)) (hv : w[v]? = some (.inr (cv, fs))) (hw : w[h]? = some (.inl (t, n, g))) (h0 : 0 ≤ j.toInt) (h1 : j.toInt < n) (h7 : 7 ≤ h) (k : xEv d y pc' lv st (w.set h (.inl (t, n, xup g j.toInt.toNat (.ref v)))) Q) : xEv d y pc lv (.ref v :: .int j :: .ref h :: st) w Q := by
  refine xEv.hp hM hd rfl (st' := st) ?_ hp k
  rcases ht with ⟨rfl, rfl⟩ | ⟨rfl, rfl⟩ <;> simp only [xhp, hv, xas_eq hw (xin_i h0 h1) h7] <;> rfl
theorem R_alen {h t n : Nat} {c : Int32} {g : Nat → Value} (hM : xms[y]? = some M) (hd : decode (xby M) pc = .ok (.arraylength, 1)) (hp : pc + 1 = pc') (hw : w[h]? = some (.inl (t, n, g))) (hn : Int32.ofNat n = c) (k : xEv d y pc' lv (.int c :: st) w Q) : xEv d y pc lv (.ref h :: st) w Q := by
  subst hn
  refine xEv.hp hM hd rfl (st' := .int (Int32.ofNat n) :: st) (w' := w) ?_ hp k
  simp only [xhp, hw]
theorem R_new_int {n : Int32} {m : Nat} (hM : xms[y]? = some M) (hd : decode (xby M) pc = .ok (.newarray .int, 2)) (hp : pc + 2 = pc') (h0 : 0 ≤ n.toInt) (hm : n.toInt.toNat = m) (hb : m * 8 ≤ 536870912) (k : xEv d y pc' lv (.ref w.length :: st) (w ++ [.inl (0, m, fun _ => .int 0)]) Q) : xEv d y pc lv (.int n :: st) w Q := by
  subst hm
  refine xEv.hp hM hd rfl (st' := .ref w.length :: st) (w' := w ++ [.inl (0, n.toInt.toNat, fun _ => .int 0)]) ?_ hp k
  have h : ¬ n < 0 := fun h => by have := (xi_lt _ _).mp h; rw [xi_z] at this; omega
  have hb' : Nat.ble (n.toNatClampNeg * 8) 536870912 = true := Nat.ble_eq_true_of_le hb
  simp only [xhp, if_neg h, hb', cond_true]
  rfl
theorem R_new_byte {n : Int32} {m : Nat} (hM : xms[y]? = some M) (hd : decode (xby M) pc = .ok (.newarray .byte, 2)) (hp : pc + 2 = pc') (h0 : 0 ≤ n.toInt) (hm : n.toInt.toNat = m) (hb : m * 8 ≤ 536870912) (k : xEv d y pc' lv (.ref w.length :: st) (w ++ [.inl (1, m, fun _ => .int 0)]) Q) : xEv d y pc lv (.int n :: st) w Q := by
  subst hm
  refine xEv.hp hM hd rfl (st' := .ref w.length :: st) (w' := w ++ [.inl (1, n.toInt.toNat, fun _ => .int 0)]) ?_ hp k
  have h : ¬ n < 0 := fun h => by have := (xi_lt _ _).mp h; rw [xi_z] at this; omega
  have hb' : Nat.ble (n.toNatClampNeg * 8) 536870912 = true := Nat.ble_eq_true_of_le hb
  simp only [xhp, if_neg h, hb', cond_true]
  rfl
theorem R_new_boolean {n : Int32} {m : Nat} (hM : xms[y]? = some M) (hd : decode (xby M) pc = .ok (.newarray .boolean, 2)) (hp : pc + 2 = pc') (h0 : 0 ≤ n.toInt) (hm : n.toInt.toNat = m) (hb : m * 8 ≤ 536870912) (k : xEv d y pc' lv (.ref w.length :: st) (w ++ [.inl (2, m, fun _ => .int 0)]) Q) : xEv d y pc lv (.int n :: st) w Q := by
  subst hm
  refine xEv.hp hM hd rfl (st' := .ref w.length :: st) (w' := w ++ [.inl (2, n.toInt.toNat, fun _ => .int 0)]) ?_ hp k
  have h : ¬ n < 0 := fun h => by have := (xi_lt _ _).mp h; rw [xi_z] at this; omega
  have hb' : Nat.ble (n.toNatClampNeg * 8) 536870912 = true := Nat.ble_eq_true_of_le hb
  simp only [xhp, if_neg h, hb', cond_true]
  rfl
theorem R_new_long {n : Int32} {m : Nat} (hM : xms[y]? = some M) (hd : decode (xby M) pc = .ok (.newarray .long, 2)) (hp : pc + 2 = pc') (h0 : 0 ≤ n.toInt) (hm : n.toInt.toNat = m) (hb : m * 8 ≤ 536870912) (k : xEv d y pc' lv (.ref w.length :: st) (w ++ [.inl (3, m, fun _ => .long 0)]) Q) : xEv d y pc lv (.int n :: st) w Q := by
  subst hm
  refine xEv.hp hM hd rfl (st' := .ref w.length :: st) (w' := w ++ [.inl (3, n.toInt.toNat, fun _ => .long 0)]) ?_ hp k
  have h : ¬ n < 0 := fun h => by have := (xi_lt _ _).mp h; rw [xi_z] at this; omega
  have hb' : Nat.ble (n.toNatClampNeg * 8) 536870912 = true := Nat.ble_eq_true_of_le hb
  simp only [xhp, if_neg h, hb', cond_true]
  rfl
theorem R_anew {n : Int32} {idx t ps m : Nat} (hM : xms[y]? = some M) (hd : decode (xby M) pc = .ok (.anewarray idx, 3)) (hl : xlook (xcno M) (idx * 4 + 1) = some (4, t, ps)) (hp : pc + 3 = pc') (h0 : 0 ≤ n.toInt) (hm : n.toInt.toNat = m) (hb : m * 4 ≤ 536870912) (k : xEv d y pc' lv (.ref w.length :: st) (w ++ [.inl (t, m, fun _ => .null)]) Q) : xEv d y pc lv (.int n :: st) w Q := by
  subst hm
  refine xEv.hp hM hd rfl (st' := .ref w.length :: st) (w' := w ++ [.inl (t, n.toInt.toNat, fun _ => .null)]) ?_ hp k
  have h : ¬ n < 0 := fun h => by have := (xi_lt _ _).mp h; rw [xi_z] at this; omega
  have hb' : Nat.ble (n.toNatClampNeg * 4) 536870912 = true := Nat.ble_eq_true_of_le hb
  simp only [xhp, hl, if_neg h, hb', cond_true]
  rfl
theorem R_new {idx ci ps : Nat} {fs : List Value} (hM : xms[y]? = some M) (hd : decode (xby M) pc = .ok (.new idx, 3)) (hl : xlook (xcno M) (idx * 4) = some (3, ci, ps)) (hf : xdf[ci]? = some fs) (hp : pc + 3 = pc') (k : xEv d y pc' lv (.ref w.length :: st) (w ++ [.inr (ci, fs)]) Q) : xEv d y pc lv st w Q := by
  refine xEv.new hM hd rfl ?_ (st' := .ref w.length :: st) (w' := w ++ [.inr (ci, fs)]) ?_ hp k
  · simp only [xthr, hl]
  · simp only [xnew, hl, hf]
theorem R_throw {idx ic ci p1 p2 : Nat} (hM : xms[y]? = some M) (hd : decode (xby M) pc = .ok (.new idx, 3)) (hl : xlook (xcno M) (idx * 4) = some (8, ci, p1)) (hd3 : decode (xby M) (pc + 3) = .ok (.dup, 1)) (hd4 : decode (xby M) (pc + 4) = .ok (.invokespecial ic, 3)) (hd7 : decode (xby M) (pc + 7) = .ok (.athrow, 1)) (hl2 : xlook (xcno M) (ic * 4) = some (9, ci, p2)) (hh : (xhh M).all (fun h => !(Nat.ble h.1 (pc + 7) && Nat.blt (pc + 7) h.2.1)) = true) (h6 : 6 ≤ d) (h16 : xcat st ≤ 16) (hQ : Q (.inr w.length) (w ++ [.inr (ci, [])])) : xEv d y pc lv st w Q := by
  refine xEv.thr hM hd rfl ?_ h6 h16 hQ
  simp only [xthr, hl, hd3, hd4, hd7, hl2, Nat.beq_refl, hh, Bool.and_self, cond_true]
-- returns
theorem R_iret {x : Int32} (hM : xms[y]? = some M) (hd : decode (xby M) pc = .ok (.ireturn, 1)) (hr : xrt M = some .int) (hQ : Q (.inl (some (.int x))) w) : xEv d y pc lv [.int x] w Q := xEv.ret hM hd rfl (by simp only [xret, hr]) hQ
theorem R_zret {x : Int32} (hM : xms[y]? = some M) (hd : decode (xby M) pc = .ok (.ireturn, 1)) (hr : xrt M = some .boolean) (hz : xok .boolean (.int x) = true) (hQ : Q (.inl (some (.int x))) w) : xEv d y pc lv [.int x] w Q := xEv.ret hM hd rfl (by simp only [xret, hr, hz, cond_true]) hQ
theorem R_bret {x : Int32} (hM : xms[y]? = some M) (hd : decode (xby M) pc = .ok (.ireturn, 1)) (hr : xrt M = some .byte) (hz : xok .byte (.int x) = true) (hQ : Q (.inl (some (.int x))) w) : xEv d y pc lv [.int x] w Q := xEv.ret hM hd rfl (by simp only [xret, hr, hz, cond_true]) hQ
theorem R_cret {x : Int32} (hM : xms[y]? = some M) (hd : decode (xby M) pc = .ok (.ireturn, 1)) (hr : xrt M = some .char) (hz : xok .char (.int x) = true) (hQ : Q (.inl (some (.int x))) w) : xEv d y pc lv [.int x] w Q := xEv.ret hM hd rfl (by simp only [xret, hr, hz, cond_true]) hQ
theorem R_lret {x : Int64} (hM : xms[y]? = some M) (hd : decode (xby M) pc = .ok (.lreturn, 1)) (hr : xrt M = some .long) (hQ : Q (.inl (some (.long x))) w) : xEv d y pc lv [.long x] w Q := xEv.ret hM hd rfl (by simp only [xret, hr]) hQ
theorem R_aret {h : Nat} {C : String} (hM : xms[y]? = some M) (hd : decode (xby M) pc = .ok (.areturn, 1)) (hr : xrt M = some (.object C)) (hQ : Q (.inl (some (.ref h))) w) : xEv d y pc lv [.ref h] w Q := xEv.ret hM hd rfl (by simp only [xret, hr]) hQ
theorem R_arrret {h : Nat} {C : FieldType} (hM : xms[y]? = some M) (hd : decode (xby M) pc = .ok (.areturn, 1)) (hr : xrt M = some (.array C)) (hQ : Q (.inl (some (.ref h))) w) : xEv d y pc lv [.ref h] w Q := xEv.ret hM hd rfl (by simp only [xret, hr]) hQ
theorem R_vret (hM : xms[y]? = some M) (hd : decode (xby M) pc = .ok (.return_, 1)) (hr : xrt M = none) (hQ : Q (.inl none) w) : xEv d y pc lv [] w Q := xEv.ret hM hd rfl (by simp only [xret, hr]) hQ
-- calls
theorem xtake_rev {as rest : List Value} : (as.reverse ++ rest).take as.length = as.reverse := by
  rw [List.take_append_of_le_length (by simp), List.take_of_length_le (by simp)]
theorem xdrop_rev {as rest : List Value} : (as.reverse ++ rest).drop as.length = rest := by
  rw [List.drop_append_of_le_length (by simp), List.drop_of_length_le (by simp), List.nil_append]
theorem xble_rev {as rest : List Value} : Nat.ble as.length (as.reverse ++ rest).length = true := Nat.ble_eq_true_of_le (by simp)
theorem xcpy_no {idx k t ps : Nat} (hl : xlook (xcno M) (idx * 4) = some (k, t, ps)) (hk : k ≠ 11) : xcpy M 7 (.invokestatic idx) st w = none := by
  unfold xcpy
  split
  · rename_i e1
    cases e1
    rw [hl]
    split
    · rename_i e2
      cases e2
      exact absurd rfl hk
    · rfl
  · rfl
theorem xobj_no {idx k t ps : Nat} (hl : xlook (xcno M) (idx * 4) = some (k, t, ps)) (hk : k ≠ 7) : xobj M (.invokespecial idx) st = none := by
  unfold xobj
  split
  · rename_i e1
    cases e1
    rw [hl]
    split
    · rename_i e2
      cases e2
      exact absurd rfl hk
    · rfl
  · rfl
theorem xcall_s {idx t ps : Nat} {as rest : List Value} {N : xM} (hl : xlook (xcno M) (idx * 4) = some (1, t, ps)) (hN : xms[t]? = some N) (hk : xkd N = 0) (hn : xna N = as.length) : xcall M (.invokestatic idx) (as.reverse ++ rest) w = some (t, as, rest) := by
  simp only [xcall, hl, hN, hk, hn, xble_rev, xtake_rev, xdrop_rev, Nat.beq_refl, Bool.and_self, cond_true, List.reverse_reverse]
theorem xcall_v {idx k t ps h ci : Nat} {as rest fs : List Value} {N : xM} (hl : xlook (xcno M) (idx * 4) = some (k, t, ps)) (hkk : (Nat.beq k 1 || Nat.beq k 2 || Nat.beq k 12) = true) (hN : xms[t]? = some N) (hk : xkd N = 1) (hn : xna N = as.length) (hc : ci = xcno N) (hw : w[h]? = some (.inr (ci, fs))) : xcall M (.invokevirtual idx) (as.reverse ++ .ref h :: rest) w = some (t, .ref h :: as, rest) := by
  subst hc
  simp only [xcall, hl, hN, hk, hn, hkk, xble_rev, xtake_rev, xdrop_rev, Nat.beq_refl, Bool.and_self, cond_true, List.reverse_reverse, hw]
theorem xcall_i {idx k t ps h : Nat} {as rest : List Value} {N : xM} (hl : xlook (xcno M) (idx * 4) = some (k, t, ps)) (hkk : (Nat.beq k 1 || Nat.beq k 2 || Nat.beq k 12) = true) (hN : xms[t]? = some N) (hk : xkd N = 2) (hn : xna N = as.length) : xcall M (.invokespecial idx) (as.reverse ++ .ref h :: rest) w = some (t, .ref h :: as, rest) := by
  simp only [xcall, hl, hN, hk, hn, hkk, xble_rev, xtake_rev, xdrop_rev, Nat.beq_refl, Bool.and_self, cond_true, List.reverse_reverse]
/-- a call that has come to its callee's end -/
def xDone (M : xM) (d y pc : Nat) (lv : xLv) (rest : List Value) (o : Option Value ⊕ Nat) (w1 : xW) (Q : Option Value ⊕ Nat → xW → Prop) : Prop := match o with
  | .inl v => xEv (d + 1) y (pc + 3) lv (v.toList ++ rest) w1 Q
  | .inr h => ∃ ci, xclass w1 h = some ci ∧ ((xcatch (xcno M) pc ci false (xhh M) = some none ∧ Q (.inr h) w1) ∨ ∃ hpc, xcatch (xcno M) pc ci false (xhh M) = some (some hpc) ∧ xEv (d + 1) y hpc lv [.ref h] w1 Q)
theorem R_run {i : Instr} {t : Nat} {as rest : List Value} {N : xM} {o : Option Value ⊕ Nat} {w1 : xW} (hM : xms[y]? = some M) (hd : decode (xby M) pc = .ok (i, xlen i)) (hk : xkind i = 4) (hcp : xcpy M 7 i st w = none) (h0 : xobj M i st = none) (h : xcall M i st w = some (t, as, rest)) (hN : xms[t]? = some N) (hent : (lg_sl as).length ≤ xmx N) (h16 : xcat rest ≤ 16) (hrun : xRun d t as w o w1) (k : xDone M d y pc lv rest o w1 Q) : xEv (d + 1) y pc lv st w Q := by
  refine xEv.call (Q1 := fun o' w' => o' = o ∧ w' = w1) hM hd hk hcp h0 h hN h16 hent (hrun.ev ⟨rfl, rfl⟩) rfl ?_ ?_
  · rintro v w2 ⟨e1, rfl⟩
    subst e1
    exact k
  · rintro hh w2 ⟨e1, rfl⟩
    subst e1
    exact k
theorem R_static {idx t ps : Nat} {as rest : List Value} {N : xM} {o : Option Value ⊕ Nat} {w1 : xW} (hM : xms[y]? = some M) (hd : decode (xby M) pc = .ok (.invokestatic idx, 3)) (hl : xlook (xcno M) (idx * 4) = some (1, t, ps)) (hN : xms[t]? = some N) (hk : xkd N = 0) (hn : xna N = as.length) (hent : (lg_sl as).length ≤ xmx N) (h16 : xcat rest ≤ 16) (hrun : xRun d t as w o w1) (k : xDone M d y pc lv rest o w1 Q) : xEv (d + 1) y pc lv (as.reverse ++ rest) w Q :=
  R_run hM hd rfl (xcpy_no hl (by decide)) rfl (xcall_s hl hN hk hn) hN hent h16 hrun k
theorem R_virtual {idx kk t ps h ci : Nat} {as rest fs : List Value} {N : xM} {o : Option Value ⊕ Nat} {w1 : xW} (hM : xms[y]? = some M) (hd : decode (xby M) pc = .ok (.invokevirtual idx, 3)) (hl : xlook (xcno M) (idx * 4) = some (kk, t, ps)) (hkk : (Nat.beq kk 1 || Nat.beq kk 2 || Nat.beq kk 12) = true) (hN : xms[t]? = some N) (hk : xkd N = 1) (hn : xna N = as.length) (hc : ci = xcno N) (hent : (lg_sl (.ref h :: as)).length ≤ xmx N) (hw : w[h]? = some (.inr (ci, fs))) (h16 : xcat rest ≤ 16) (hrun : xRun d t (.ref h :: as) w o w1) (k : xDone M d y pc lv rest o w1 Q) : xEv (d + 1) y pc lv (as.reverse ++ .ref h :: rest) w Q :=
  R_run hM hd rfl rfl rfl (xcall_v hl hkk hN hk hn hc hw) hN hent h16 hrun k
theorem R_special {idx kk t ps h : Nat} {as rest : List Value} {N : xM} {o : Option Value ⊕ Nat} {w1 : xW} (hM : xms[y]? = some M) (hd : decode (xby M) pc = .ok (.invokespecial idx, 3)) (hl : xlook (xcno M) (idx * 4) = some (kk, t, ps)) (hkk : (Nat.beq kk 1 || Nat.beq kk 2 || Nat.beq kk 12) = true) (hk7 : kk ≠ 7) (hN : xms[t]? = some N) (hk : xkd N = 2) (hn : xna N = as.length) (hent : (lg_sl (.ref h :: as)).length ≤ xmx N) (h16 : xcat rest ≤ 16) (hrun : xRun d t (.ref h :: as) w o w1) (k : xDone M d y pc lv rest o w1 Q) : xEv (d + 1) y pc lv (as.reverse ++ .ref h :: rest) w Q :=
  R_run hM hd rfl rfl (xobj_no hl hk7) (xcall_i hl hkk hN hk hn) hN hent h16 hrun k
theorem R_obj {idx ps a h : Nat} (hM : xms[y]? = some M) (hd : decode (xby M) pc = .ok (.invokespecial idx, 3)) (hl : xlook (xcno M) (idx * 4) = some (7, a, ps)) (hp : pc + 3 = pc') (h16 : xcat st ≤ 16) (k : xEv (d + 1) y pc' lv st w Q) : xEv (d + 1) y pc lv (.ref h :: st) w Q :=
  xEv.obj hM hd rfl rfl (by simp only [xobj, hl]) h16 (by omega) hp k
theorem R_copy {idx ps a src dst n0 n1 : Nat} {sp dp n : Int32} {f g : Nat → Value} (hM : xms[y]? = some M) (hd : decode (xby M) pc = .ok (.invokestatic idx, 3)) (hl : xlook (xcno M) (idx * 4) = some (11, a, ps)) (hp : pc + 3 = pc') (hs : w[src]? = some (.inl (0, n0, f))) (ht : w[dst]? = some (.inl (0, n1, g))) (h1 : 0 ≤ sp.toInt) (h2 : 0 ≤ dp.toInt) (h3 : 0 ≤ n.toInt) (h4 : sp.toInt + n.toInt ≤ n0) (h5 : dp.toInt + n.toInt ≤ n1) (h7 : 7 ≤ dst) (hi : ∀ k, k < n.toInt.toNat → ∃ z, f (sp.toInt.toNat + k) = .int z) (h16 : xcat st ≤ 16)
    (k : xEv (d + 1) y pc' lv st (w.set dst (.inl (0, n1, xcp f g sp.toInt.toNat dp.toInt.toNat n.toInt.toNat))) Q) : xEv (d + 1) y pc lv (.int n :: .int dp :: .ref dst :: .int sp :: .ref src :: st) w Q := by
  refine xEv.copy hM hd rfl (st' := st) (w' := w.set dst (.inl (0, n1, xcp f g sp.toInt.toNat dp.toInt.toNat n.toInt.toNat))) ?_ h16 (by omega) hp k
  have hneg : ¬ (sp < 0 ∨ dp < 0 ∨ n < 0) := by
    simp only [xi_lt, xi_z]
    omega
  have hb : (Nat.ble (sp.toNatClampNeg + n.toNatClampNeg) n0 && Nat.ble (dp.toNatClampNeg + n.toNatClampNeg) n1 && (List.range n.toNatClampNeg).all (fun k => xisi (f (sp.toNatClampNeg + k)))) = true := by
    rw [Bool.and_eq_true, Bool.and_eq_true]
    refine ⟨⟨Nat.ble_eq_true_of_le ?_, Nat.ble_eq_true_of_le ?_⟩, List.all_eq_true.mpr fun k hk => ?_⟩
    · show sp.toInt.toNat + n.toInt.toNat ≤ n0; omega
    · show dp.toInt.toNat + n.toInt.toNat ≤ n1; omega
    · obtain ⟨z, hz⟩ := hi k (List.mem_range.mp hk)
      show xisi (f (sp.toInt.toNat + k)) = true
      rw [hz]; rfl
  have hX : Nat.ble 7 dst = true := Nat.ble_eq_true_of_le h7
  simp only [xcpy, hl, hs, ht, if_neg hneg, hb, cond_true, xset, hX, Option.map_some]
  rfl
end XO
theorem xgs {w : xW} {h : Nat} {c c' : xC} (hw : w[h]? = some c) : (w.set h c')[h]? = some c' := by
  rw [List.getElem?_set_self (List.getElem?_eq_some_iff.mp hw).1]
theorem xgn {w : xW} {h h' : Nat} {c : xC} {o : Option xC} (hne : h ≠ h') (hw : w[h']? = o) : (w.set h c)[h']? = o := by
  rw [List.getElem?_set_ne hne]; exact hw
theorem xga {w w2 : xW} {h : Nat} {c : xC} (hw : w[h]? = some c) : (w ++ w2)[h]? = some c := by
  rw [List.getElem?_append_left (List.getElem?_eq_some_iff.mp hw).1]; exact hw
theorem xgl {w : xW} {c : xC} : (w ++ [c])[w.length]? = some c := by simp
theorem xDone.v {M : xM} {d y pc pc' : Nat} {lv : xLv} {rest : List Value} {v : Value} {w1 : xW} {Q : Option Value ⊕ Nat → xW → Prop} (hp : pc + 3 = pc') (k : xEv (d + 1) y pc' lv (v :: rest) w1 Q) : xDone M d y pc lv rest (.inl (some v)) w1 Q := by subst hp; exact k
theorem xDone.n {M : xM} {d y pc pc' : Nat} {lv : xLv} {rest : List Value} {w1 : xW} {Q : Option Value ⊕ Nat → xW → Prop} (hp : pc + 3 = pc') (k : xEv (d + 1) y pc' lv rest w1 Q) : xDone M d y pc lv rest (.inl none) w1 Q := by subst hp; exact k
theorem xDone.t {M : xM} {d y pc ci h : Nat} {lv : xLv} {rest fs : List Value} {w1 : xW} {Q : Option Value ⊕ Nat → xW → Prop} (hw : w1[h]? = some (.inr (ci, fs))) (hc : (Nat.blt ci 14 || Nat.ble 18 ci) = false) (hh : xcatch (xcno M) pc ci false (xhh M) = some none) (hQ : Q (.inr h) w1) : xDone M d y pc lv rest (.inr h) w1 Q := ⟨ci, by simp only [xclass, hw, hc, cond_false], Or.inl ⟨hh, hQ⟩⟩
theorem xDone.c {M : xM} {d y pc ci h hp : Nat} {lv : xLv} {rest fs : List Value} {w1 : xW} {Q : Option Value ⊕ Nat → xW → Prop} (hw : w1[h]? = some (.inr (ci, fs))) (hc : (Nat.blt ci 14 || Nat.ble 18 ci) = false) (hh : xcatch (xcno M) pc ci false (xhh M) = some (some hp)) (k : xEv (d + 1) y hp lv [.ref h] w1 Q) : xDone M d y pc lv rest (.inr h) w1 Q := ⟨ci, by simp only [xclass, hw, hc, cond_false], Or.inr ⟨hp, hh, k⟩⟩
