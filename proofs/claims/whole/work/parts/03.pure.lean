/-! the pure machine: values are the model's, a reference is the number of a cell of the pure world -/
def xn (M : xM) : MethodName := M.1
def xby (M : xM) : ByteArray := M.2.1
def xmx (M : xM) : Nat := M.2.2.1
def xrt (M : xM) : Option FieldType := M.2.2.2.1
def xhh (M : xM) : List (Nat × Nat × Nat × Nat) := M.2.2.2.2.1
def xcno (M : xM) : Nat := M.2.2.2.2.2.1
def xkd (M : xM) : Nat := M.2.2.2.2.2.2.1
def xna (M : xM) : Nat := M.2.2.2.2.2.2.2
/-- a cell: an array (tag of its type, length, contents) or an object (number of its class, fields) -/
abbrev xC : Type := (Nat × Nat × (Nat → Value)) ⊕ (Nat × List Value)
abbrev xW : Type := List xC
abbrev xLv : Type := List (Nat × Value)
def xup (g : Nat → Value) (k : Nat) (v : Value) : Nat → Value := fun j => bif Nat.beq j k then v else g j
def xfind (L : List (Nat × Nat × Nat × Nat)) (key : Nat) : Option (Nat × Nat × Nat) := match L with
  | [] => none
  | q :: r => bif Nat.beq q.1 key then some q.2 else xfind r key
def xlook (cn key : Nat) : Option (Nat × Nat × Nat) := xfind (xlk.getD cn []) key
def xin (i : Int32) (n : Nat) : Bool := !decide (i < 0) && Nat.blt i.toNatClampNeg n
def xok (ty : FieldType) (v : Value) : Bool := match ty, v with
  | .int, .int _ => true
  | .long, .long _ => true
  | .boolean, .int x => decide (x = 0) || decide (x = 1)
  | .byte, .int x => decide (x.toInt8.toInt32 = x)
  | .char, .int x => decide (0 ≤ x) && decide (x ≤ 65535) && decide (x.toUInt32.toUInt16.toUInt32.toInt32 = x)
  | .object _, .ref _ => true
  | .object _, .null => true
  | .array _, .ref _ => true
  | .array _, .null => true
  | _, _ => false
def xlen (i : Instr) : Nat := match i with
  | .bipush _ | .iload _ | .lload _ | .aload _ | .istore _ | .lstore _ | .astore _ | .ldc _ | .newarray _ => 2
  | .sipush _ | .ldc_w _ | .ldc2_w _ | .iinc _ _ | .ifCond _ _ | .if_icmp _ _ | .goto _ | .getfield _ | .putfield _ | .getstatic _ | .new _ | .anewarray _ | .invokestatic _ | .invokevirtual _ | .invokespecial _ => 3
  | _ => 1
/-- 0: on the operand stack alone; 1: local variables; 2: branches; 3: heap and constants; 4: calls; 5: returns; 6: new -/
def xkind (i : Instr) : Nat := match i with
  | .iconst _ | .lconst _ | .bipush _ | .sipush _ | .aconst_null | .iadd | .isub | .imul | .iand | .ior | .ixor | .idiv | .irem | .ineg | .ladd | .lsub | .lmul | .land | .lor | .lxor | .ldiv | .lrem | .lneg
  | .ishl | .ishr | .iushr | .lshl | .lshr | .lushr | .i2l | .l2i | .i2b | .i2c | .i2s | .lcmp | .dup | .pop | .dup_x1 | .dup2 => 0
  | .iload _ | .iload_n _ | .lload _ | .lload_n _ | .aload _ | .aload_n _ | .istore _ | .istore_n _ | .lstore _ | .lstore_n _ | .astore _ | .astore_n _ | .iinc _ _ => 1
  | .ifCond _ _ | .if_icmp _ _ | .goto _ | .tableswitch _ _ _ _ => 2
  | .getfield _ | .putfield _ | .getstatic _ | .iaload | .laload | .baload | .aaload | .iastore | .lastore | .bastore | .aastore | .arraylength | .newarray _ | .anewarray _ | .ldc _ | .ldc_w _ | .ldc2_w _ => 3
  | .invokestatic _ | .invokevirtual _ | .invokespecial _ => 4
  | .ireturn | .lreturn | .areturn | .return_ => 5
  | .new _ => 6
  | _ => 9
def xop (i : Instr) (st : List Value) : Option (List Value) := match i with
  | .iconst n => some (.int (Int32.ofInt n) :: st)
  | .lconst n => some (.long (Int64.ofNat (n : Nat)) :: st)
  | .bipush n => some (.int (Int8.ofInt n).toInt32 :: st)
  | .sipush n => some (.int (Int16.ofInt n).toInt32 :: st)
  | .aconst_null => some (.null :: st)
  | .iadd => match st with | .int y :: .int x :: r => some (.int (x + y) :: r) | _ => none
  | .isub => match st with | .int y :: .int x :: r => some (.int (x - y) :: r) | _ => none
  | .imul => match st with | .int y :: .int x :: r => some (.int (x * y) :: r) | _ => none
  | .iand => match st with | .int y :: .int x :: r => some (.int (x &&& y) :: r) | _ => none
  | .ior => match st with | .int y :: .int x :: r => some (.int (x ||| y) :: r) | _ => none
  | .ixor => match st with | .int y :: .int x :: r => some (.int (x ^^^ y) :: r) | _ => none
  | .idiv => match st with | .int y :: .int x :: r => if y = 0 then none else some (.int (x / y) :: r) | _ => none
  | .irem => match st with | .int y :: .int x :: r => if y = 0 then none else some (.int (x - x / y * y) :: r) | _ => none
  | .ineg => match st with | .int x :: r => some (.int (-x) :: r) | _ => none
  | .ladd => match st with | .long y :: .long x :: r => some (.long (x + y) :: r) | _ => none
  | .lsub => match st with | .long y :: .long x :: r => some (.long (x - y) :: r) | _ => none
  | .lmul => match st with | .long y :: .long x :: r => some (.long (x * y) :: r) | _ => none
  | .land => match st with | .long y :: .long x :: r => some (.long (x &&& y) :: r) | _ => none
  | .lor => match st with | .long y :: .long x :: r => some (.long (x ||| y) :: r) | _ => none
  | .lxor => match st with | .long y :: .long x :: r => some (.long (x ^^^ y) :: r) | _ => none
  | .ldiv => match st with | .long y :: .long x :: r => if y = 0 then none else some (.long (x / y) :: r) | _ => none
  | .lrem => match st with | .long y :: .long x :: r => if y = 0 then none else some (.long (x - x / y * y) :: r) | _ => none
  | .lneg => match st with | .long x :: r => some (.long (-x) :: r) | _ => none
  | .ishl => match st with | .int y :: .int x :: r => some (.int (x <<< (y &&& 31)) :: r) | _ => none
  | .ishr => match st with | .int y :: .int x :: r => some (.int (x >>> (y &&& 31)) :: r) | _ => none
  | .iushr => match st with | .int y :: .int x :: r => some (.int (x.toUInt32 >>> (y.toUInt32 &&& Int32.toUInt32 31)).toInt32 :: r) | _ => none
  | .lshl => match st with | .int y :: .long x :: r => some (.long (x <<< (y.toInt64 &&& 63)) :: r) | _ => none
  | .lshr => match st with | .int y :: .long x :: r => some (.long (x >>> (y.toInt64 &&& 63)) :: r) | _ => none
  | .lushr => match st with | .int y :: .long x :: r => some (.long (x.toUInt64 >>> (y.toInt64.toUInt64 &&& Int64.toUInt64 63)).toInt64 :: r) | _ => none
  | .i2l => match st with | .int x :: r => some (.long x.toInt64 :: r) | _ => none
  | .l2i => match st with | .long x :: r => some (.int x.toInt32 :: r) | _ => none
  | .i2b => match st with | .int x :: r => some (.int x.toInt8.toInt32 :: r) | _ => none
  | .i2c => match st with | .int x :: r => some (.int (x.toUInt32 % 65536).toInt32 :: r) | _ => none
  | .i2s => match st with | .int x :: r => some (.int x.toInt16.toInt32 :: r) | _ => none
  | .lcmp => match st with | .long y :: .long x :: r => some (.int (lg_cmp x y) :: r) | _ => none
  | .dup => match st with | a :: r => if a.category = 1 then some (a :: a :: r) else none | _ => none
  | .pop => match st with | a :: r => if a.category = 1 then some r else none | _ => none
  | .dup_x1 => match st with | a :: b :: r => if a.category = 1 ∧ b.category = 1 then some (a :: b :: a :: r) else none | _ => none
  | .dup2 => match st with | a :: b :: r => if a.category = 1 ∧ b.category = 1 then some (a :: b :: a :: b :: r) else none | _ => none
  | _ => none
def xst1 (lv : xLv) (i : Nat) (v : Value) : xLv := (i, v) :: lv.filter (fun q => !(q.1 == i) && !(q.1 + 1 == i && q.2.category == 2))
def xst2 (lv : xLv) (i : Nat) (v : Value) : xLv := (i, v) :: lv.filter (fun q => !(q.1 == i) && (!(q.1 == i + 1) && !(q.1 + 1 == i && q.2.category == 2)))
def xld (lv : xLv) (i : Nat) : Option Value := match lv with
  | [] => none
  | q :: r => bif Nat.beq q.1 i then some q.2 else xld r i
def xldi (lv : xLv) (i : Nat) (st : List Value) : Option (xLv × List Value) := match xld lv i with | some (.int x) => some (lv, .int x :: st) | _ => none
def xldl (lv : xLv) (i : Nat) (st : List Value) : Option (xLv × List Value) := match xld lv i with | some (.long x) => some (lv, .long x :: st) | _ => none
def xlda (lv : xLv) (i : Nat) (st : List Value) : Option (xLv × List Value) := match xld lv i with | some (.ref x) => some (lv, .ref x :: st) | some .null => some (lv, .null :: st) | _ => none
def xsti (nL : Nat) (lv : xLv) (i : Nat) (st : List Value) : Option (xLv × List Value) := match st with | .int x :: r => bif Nat.blt i nL then some (xst1 lv i (.int x), r) else none | _ => none
def xstl (nL : Nat) (lv : xLv) (i : Nat) (st : List Value) : Option (xLv × List Value) := match st with | .long x :: r => bif Nat.blt (i + 1) nL then some (xst2 lv i (.long x), r) else none | _ => none
def xsta (nL : Nat) (lv : xLv) (i : Nat) (st : List Value) : Option (xLv × List Value) := match st with | .ref x :: r => bif Nat.blt i nL then some (xst1 lv i (.ref x), r) else none | .null :: r => bif Nat.blt i nL then some (xst1 lv i .null, r) else none | _ => none
def xloc (nL : Nat) (i : Instr) (lv : xLv) (st : List Value) : Option (xLv × List Value) := match i with
  | .iload k => xldi lv k st
  | .iload_n k => xldi lv k st
  | .lload k => xldl lv k st
  | .lload_n k => xldl lv k st
  | .aload k => xlda lv k st
  | .aload_n k => xlda lv k st
  | .istore k => xsti nL lv k st
  | .istore_n k => xsti nL lv k st
  | .lstore k => xstl nL lv k st
  | .lstore_n k => xstl nL lv k st
  | .astore k => xsta nL lv k st
  | .astore_n k => xsta nL lv k st
  | .iinc k n => match xld lv k with | some (.int x) => bif Nat.blt k nL then some (xst1 lv k (.int (x + Int32.ofInt n)), st) else none | _ => none
  | _ => none
def xcnd (c : ClassFile.Cond) (x y : Int32) : Bool := match c with
  | .eq => decide (x = y)
  | .ne => !decide (x = y)
  | .lt => decide (x < y)
  | .ge => decide (y ≤ x)
  | .gt => decide (y < x)
  | .le => decide (x ≤ y)
def xtgt (pc : Nat) (off : Int) : Option Nat := match (pc : Int) + off with | .ofNat t => some t | _ => none
def xbr (i : Instr) (pc : Nat) (st : List Value) : Option (Nat × List Value) := match i with
  | .ifCond c off => match st with | .int x :: r => (xtgt pc off).map (fun t => (bif xcnd c x 0 then t else pc + 3, r)) | _ => none
  | .if_icmp c off => match st with | .int y :: .int x :: r => (xtgt pc off).map (fun t => (bif xcnd c x y then t else pc + 3, r)) | _ => none
  | .goto off => (xtgt pc off).map (fun t => (t, st))
  | .tableswitch dflt lo hi offs => match st with
    | .int x :: r => if x.toInt < lo ∨ hi < x.toInt then (xtgt pc dflt).map (fun t => (t, r)) else match offs[(x.toInt - lo).toNat]? with | some o => (xtgt pc o).map (fun t => (t, r)) | none => none
    | _ => none
  | _ => none
def xset (X : Nat) (w : xW) (h : Nat) (c : xC) : Option xW := bif Nat.ble X h then some (w.set h c) else none
/-- field number a = 64 * class + place -/
def xgf (cn idx : Nat) (st : List Value) (w : xW) : Option (List Value × xW) := match xlook cn (idx * 4), st with
  | some (0, a, _), .ref h :: r => match w[h]? with
    | some (.inr (ci, fs)) => bif Nat.beq ci (a / 64) then (match fs[a % 64]? with | some v => some (v :: r, w) | none => none) else none
    | _ => none
  | _, _ => none
def xpf (M : xM) (X idx : Nat) (st : List Value) (w : xW) : Option (List Value × xW) := match xlook (xcno M) (idx * 4), st with
  | some (0, a, _), v :: .ref h :: r => match w[h]? with
    | some (.inr (ci, fs)) => match xcl[ci]?, (xft.getD ci [])[a % 64]? with
      | some q, some ty => bif Nat.beq ci (a / 64) && xok ty v && Nat.blt (a % 64) fs.length && (!(q.2.1 (a % 64)).2.2.2 || (Nat.beq (xkd M) 2 && Nat.beq (xcno M) ci)) then (xset X w h (.inr (ci, fs.set (a % 64) v))).map (fun w' => (r, w')) else none
      | _, _ => none
    | _ => none
  | _, _ => none
/-- loads from an array whose type's tag is t -/
def xal (t : Nat) (st : List Value) (w : xW) : Option (List Value × xW) := match st with
  | .int i :: .ref h :: r => match w[h]? with
    | some (.inl (t', n, g)) => bif Nat.beq t t' && xin i n then some (g i.toNatClampNeg :: r, w) else none
    | _ => none
  | _ => none
def xas (X t : Nat) (v : Value) (i : Int32) (h : Nat) (r : List Value) (w : xW) : Option (List Value × xW) := match w[h]? with
  | some (.inl (t', n, g)) => bif Nat.beq t t' && xin i n then (xset X w h (.inl (t, n, xup g i.toNatClampNeg v))).map (fun w' => (r, w')) else none
  | _ => none
def xhp (M : xM) (X : Nat) (i : Instr) (st : List Value) (w : xW) : Option (List Value × xW) := match i with
  | .getfield idx => xgf (xcno M) idx st w
  | .putfield idx => xpf M X idx st w
  | .iaload => xal 0 st w
  | .laload => xal 3 st w
  | .baload => match xal 1 st w with | some q => some q | none => xal 2 st w
  | .aaload => match xal 4 st w with | some q => some q | none => xal 5 st w
  | .iastore => match st with | .int x :: .int i :: .ref h :: r => xas X 0 (.int x) i h r w | _ => none
  | .lastore => match st with | .long x :: .int i :: .ref h :: r => xas X 3 (.long x) i h r w | _ => none
  | .bastore => match st with | .int x :: .int i :: .ref h :: r => (match xas X 1 (narrow .byte (.int x)) i h r w with | some q => some q | none => xas X 2 (narrow .boolean (.int x)) i h r w) | _ => none
  | .aastore => match st with
    | .ref v :: .int i :: .ref h :: r => match w[v]? with
      | some (.inr (2, _)) => xas X 4 (.ref v) i h r w
      | some (.inr (13, _)) => xas X 5 (.ref v) i h r w
      | _ => none
    | _ => none
  | .arraylength => match st with
    | .ref h :: r => match w[h]? with | some (.inl (_, n, _)) => some (.int (Int32.ofNat n) :: r, w) | _ => none
    | _ => none
  | .newarray at' => match st with
    | .int n :: r => if n < 0 then none else bif Nat.ble (n.toNatClampNeg * 8) 536870912 then
        (match at' with
        | .int => some (.ref w.length :: r, w ++ [.inl (0, n.toNatClampNeg, fun _ => .int 0)])
        | .byte => some (.ref w.length :: r, w ++ [.inl (1, n.toNatClampNeg, fun _ => .int 0)])
        | .boolean => some (.ref w.length :: r, w ++ [.inl (2, n.toNatClampNeg, fun _ => .int 0)])
        | .long => some (.ref w.length :: r, w ++ [.inl (3, n.toNatClampNeg, fun _ => .long 0)])
        | _ => none) else none
    | _ => none
  | .anewarray idx => match xlook (xcno M) (idx * 4 + 1), st with
    | some (4, t, _), .int n :: r => if n < 0 then none else bif Nat.ble (n.toNatClampNeg * 4) 536870912 then some (.ref w.length :: r, w ++ [.inl (t, n.toNatClampNeg, fun _ => .null)]) else none
    | _, _ => none
  | .ldc idx => match xlook (xcno M) (idx * 4) with | some (5, a, _) => (match xks[a]? with | some (.int v) => some (.int v :: st, w) | _ => none) | some (13, 1, _) => some (.ref 1 :: st, w) | some (13, 3, _) => some (.ref 3 :: st, w) | _ => none
  | .getstatic idx => match xlook (xcno M) (idx * 4) with | some (14, 1, _) => some (.ref 6 :: st, w) | some (14, 2, _) => some (.int 1 :: st, w) | some (14, 3, _) => some (.retAddr 0 :: st, w) | some (15, 0, _) => some (.ref 5 :: st, w) | _ => none
  | .ldc_w idx => match xlook (xcno M) (idx * 4) with | some (5, a, _) => (match xks[a]? with | some (.int v) => some (.int v :: st, w) | _ => none) | _ => none
  | .ldc2_w idx => match xlook (xcno M) (idx * 4) with | some (6, a, _) => (match xks[a]? with | some (.long v) => some (.long v :: st, w) | _ => none) | _ => none
  | _ => none
def xret (M : xM) (i : Instr) (st : List Value) : Option (Option Value) := match i, st with
  | .ireturn, [.int v] => match xrt M with | some .int => some (some (.int v)) | some .boolean => bif xok .boolean (.int v) then some (some (.int v)) else none | some .byte => bif xok .byte (.int v) then some (some (.int v)) else none | some .char => bif xok .char (.int v) then some (some (.int v)) else none | _ => none
  | .lreturn, [.long v] => match xrt M with | some .long => some (some (.long v)) | _ => none
  | .areturn, [.ref v] => match xrt M with | some (.object _) => some (some (.ref v)) | some (.array _) => some (some (.ref v)) | _ => none
  | .return_, [] => match xrt M with | none => some none | _ => none
  | _, _ => none
/-- a call: the method's number, its arguments (the receiver first), what stays on the stack -/
def xcall (M : xM) (i : Instr) (st : List Value) (w : xW) : Option (Nat × List Value × List Value) := match i with
  | .invokestatic idx => match xlook (xcno M) (idx * 4) with
    | some (1, t, _) => match xms[t]? with
      | some N => bif Nat.beq (xkd N) 0 && Nat.ble (xna N) st.length then some (t, (st.take (xna N)).reverse, st.drop (xna N)) else none
      | none => none
    | _ => none
  | .invokevirtual idx => match xlook (xcno M) (idx * 4) with
    | some (k, t, _) => match xms[t]? with
      | some N => bif (Nat.beq k 1 || Nat.beq k 2 || Nat.beq k 12) && Nat.beq (xkd N) 1 && Nat.ble (xna N) st.length then
          (match st.drop (xna N) with
          | .ref h :: rest => match w[h]? with
            | some (.inr (ci, _)) => bif Nat.beq ci (xcno N) then some (t, .ref h :: (st.take (xna N)).reverse, rest) else none
            | _ => none
          | _ => none) else none
      | none => none
    | _ => none
  | .invokespecial idx => match xlook (xcno M) (idx * 4) with
    | some (k, t, _) => match xms[t]? with
      | some N => bif (Nat.beq k 1 || Nat.beq k 2 || Nat.beq k 12) && Nat.beq (xkd N) 2 && Nat.ble (xna N) st.length then
          (match st.drop (xna N) with
          | .ref h :: rest => some (t, .ref h :: (st.take (xna N)).reverse, rest)
          | _ => none) else none
      | none => none
    | _ => none
  | _ => none
/-- Object's constructor -/
def xobj (M : xM) (i : Instr) (st : List Value) : Option (List Value) := match i, st with
  | .invokespecial idx, .ref _ :: r => match xlook (xcno M) (idx * 4) with | some (7, _, _) => some r | _ => none
  | _, _ => none
/-- System.arraycopy between arrays of ints -/
def xcp (f g : Nat → Value) (sp dp n : Nat) : Nat → Value := fun k => bif Nat.ble dp k && Nat.blt k (dp + n) then f (sp + (k - dp)) else g k
def xisi (v : Value) : Bool := match v with | .int _ => true | _ => false
def xcpy (M : xM) (X : Nat) (i : Instr) (st : List Value) (w : xW) : Option (List Value × xW) := match i, st with
  | .invokestatic idx, .int n :: .int dp :: .ref a :: .int sp :: .ref a0 :: r => match xlook (xcno M) (idx * 4) with
    | some (11, _, _) => match w[a0]?, w[a]? with
      | some (.inl (0, n0, f)), some (.inl (0, n1, g)) => if sp < 0 ∨ dp < 0 ∨ n < 0 then none else
          bif Nat.ble (sp.toNatClampNeg + n.toNatClampNeg) n0 && Nat.ble (dp.toNatClampNeg + n.toNatClampNeg) n1 && (List.range n.toNatClampNeg).all (fun k => xisi (f (sp.toNatClampNeg + k))) then
            (xset X w a (.inl (0, n1, xcp f g sp.toNatClampNeg dp.toNatClampNeg n.toNatClampNeg))).map (fun w' => (r, w')) else none
      | _, _ => none
    | _ => none
  | _, _ => none
def xcat (vs : List Value) : Nat := (vs.map (fun v => v.category)).sum
/-- 'throw new X()': the number of X -/
def xthr (M : xM) (i : Instr) (pc : Nat) : Option Nat := match i with
  | .new idx => match xlook (xcno M) (idx * 4) with
    | some (8, ci, _) => match decode (xby M) (pc + 3), decode (xby M) (pc + 4), decode (xby M) (pc + 7) with
      | .ok (.dup, 1), .ok (.invokespecial ic, 3), .ok (.athrow, 1) => match xlook (xcno M) (ic * 4) with
        | some (9, cj, _) => bif Nat.beq ci cj && (xhh M).all (fun h => !(Nat.ble h.1 (pc + 7) && Nat.blt (pc + 7) h.2.1)) then some ci else none
        | _ => none
      | _, _, _ => none
    | _ => none
  | _ => none
def xnew (M : xM) (i : Instr) (st : List Value) (w : xW) : Option (List Value × xW) := match i with
  | .new idx => match xlook (xcno M) (idx * 4) with
    | some (3, ci, _) => match xdf[ci]? with | some fs => some (.ref w.length :: st, w ++ [.inr (ci, fs)]) | none => none
    | _ => none
  | _ => none
/-- the search for a handler: some (some pc): found; some none: no entry holds the pc; none: not decided here -/
def xcatch (cn pc ci : Nat) (seen : Bool) (hh : List (Nat × Nat × Nat × Nat)) : Option (Option Nat) := match hh with
  | [] => bif seen then none else some none
  | h :: r => bif Nat.ble h.1 pc && Nat.blt pc h.2.1 then
      (match xlook cn (h.2.2.2 * 4 + 2) with
      | some (8, cj, _) => bif Nat.beq h.2.2.2 0 then none else bif Nat.beq ci cj then some (some h.2.2.1) else xcatch cn pc ci true r
      | _ => none) else xcatch cn pc ci seen r
abbrev xR : Type := (Option Value ⊕ Nat) × xW
def xclass (w : xW) (h : Nat) : Option Nat := match w[h]? with | some (.inr (ci, _)) => bif Nat.blt ci 14 || Nat.ble 18 ci then none else some ci | _ => none
def xist (i : Instr) : Bool := match i with
  | .tableswitch _ _ _ _ => true
  | _ => false
/-- the evaluator: cells that may not be written (the first X), fuel, depth, method, pc, locals, stack, world -/
def xev (X : Nat) : Nat → Nat → Nat → Nat → xLv → List Value → xW → Option xR
  | 0, _, _, _, _, _, _ => none
  | n + 1, d, y, pc, lv, st, w => match xms[y]? with
    | none => none
    | some M => match decode (xby M) pc with
      | .error _ => none
      | .ok (i, len) => bif Nat.beq len (xlen i) || xist i then (match xkind i with
        | 0 => match xop i st with | some st' => xev X n d y (pc + xlen i) lv st' w | none => none
        | 1 => match xloc (xmx M) i lv st with | some (lv', st') => xev X n d y (pc + xlen i) lv' st' w | none => none
        | 2 => match xbr i pc st with | some (pc', st') => xev X n d y pc' lv st' w | none => none
        | 3 => match xhp M X i st w with | some (st', w') => xev X n d y (pc + xlen i) lv st' w' | none => none
        | 5 => match xret M i st with | some v => some (.inl v, w) | none => none
        | 6 => match xthr M i pc with
          | some ci => bif Nat.ble 6 d && Nat.ble (xcat st) 16 then some (.inr w.length, w ++ [.inr (ci, [])]) else none
          | none => match xnew M i st w with | some (st', w') => xev X n d y (pc + 3) lv st' w' | none => none
        | 4 => match xcpy M X i st w with
          | some (st', w') => bif Nat.ble (xcat st') 16 && Nat.ble 1 d then xev X n d y (pc + 3) lv st' w' else none
          | none => match xobj M i st with
          | some st' => bif Nat.ble (xcat st') 16 && Nat.ble 1 d then xev X n d y (pc + 3) lv st' w else none
          | none => match xcall M i st w, d with
            | some (t, as, rest), d' + 1 => match xms[t]? with
              | some N => bif Nat.ble (xcat rest) 16 && Nat.ble (lg_sl as).length (xmx N) then
                  (match xev X n d' t 0 (lv_args 0 as) [] w with
                  | some (.inl v, w') => xev X n (d' + 1) y (pc + 3) lv (v.toList ++ rest) w'
                  | some (.inr h, w') => match xclass w' h with
                    | some ci => match xcatch (xcno M) pc ci false (xhh M) with
                      | some (some hp) => xev X n (d' + 1) y hp lv [.ref h] w'
                      | some none => some (.inr h, w')
                      | none => none
                    | none => none
                  | none => none) else none
              | none => none
            | _, _ => none
        | _ => none) else none
