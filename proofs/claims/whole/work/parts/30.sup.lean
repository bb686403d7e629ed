/-! worlds, and small things that the printed paths use -/
def xnan : List Int32 := [110, 97, 110]
def xinf : List Int32 := [105, 110, 102]
def xlogc : List Int64 := [0, 0, 1099511627776, 693714600361, 549755813888, 473533883412, 425349159792, 391653944122, 366503875925, 346857300180, 330985980541, 317830137717, 306701012229, 297129993061, 288786217803, 281428824500, 274877906944, 268996115800, 263676595477, 258834837528, 254403035783, 250326085740, 246558692184, 243063240529, 239808205105, 236766941706, 233916759645, 231238200120, 228714468892, 226330985831, 224075023959, 221935417752, 219902325555, 217967034644, 216121800214, 214359711512, 212674579896]
def xlogm : List Int32 := [0, 0, 1048576, 1661953, 2097152, 2434718, 2710529, 2943724, 3145728, 3323907, 3483294, 3627476, 3759105, 3880192, 3992300, 4096671, 4194304, 4286015, 4372483, 4454274, 4531870, 4605678, 4676052, 4743298, 4807681, 4869436, 4928768, 4985860, 5040876, 5093962, 5145247, 5194851, 5242880, 5289430, 5334591, 5378443, 5421059]
/-- the first cells: the script; the two String constants and their bytes; the two static tables -/
def xscr (L : Nat) (xs : Nat → Int32) : xW := [.inl (0, L, fun j => .int (xs j)), .inr (18, [.ref 2, .int 0]), .inl (1, 3, fun j => .int (xnan.getD j 0)), .inr (18, [.ref 4, .int 0]), .inl (1, 3, fun j => .int (xinf.getD j 0)), .inl (3, 37, fun j => .long (xlogc.getD j 0)), .inl (0, 37, fun j => .int (xlogm.getD j 0))]
section
variable {d y pc : Nat} {lv : xLv} {st : List Value} {w w' cs cs' : xW} {Q : Option Value ⊕ Nat → xW → Prop} {l k : Nat} {b c : xC}
theorem xEv.world (h : w = w') (kk : xEv d y pc lv st w' Q) : xEv d y pc lv st w Q := by subst h; exact kk
theorem xEv.splitw (h : cs ++ [b] = cs') (kk : xEv d y pc lv st ((w ++ cs) ++ [b]) Q) : xEv d y pc lv st (w ++ cs') Q := by subst h; rw [← List.append_assoc]; exact kk
theorem xnl (hL : w.length = l) (hc : cs[k]? = some c) : (w ++ cs)[l + k]? = some c := by
  subst hL
  rw [List.getElem?_append_right (by omega), Nat.add_sub_cancel_left]; exact hc
theorem xns (hL : w.length = l) : (w ++ cs).set (l + k) c = w ++ cs.set k c := by
  subst hL
  rw [List.set_append_right _ _ (by omega), Nat.add_sub_cancel_left]
theorem xnn (hL : w.length = l) : (w ++ cs).length = l + cs.length := by rw [List.length_append, hL]
theorem xls (hL : w.length = l) : (w.set k c).length = l := by rw [List.length_set]; exact hL
theorem xla (hL : w.length = l) : (w ++ [c]).length = l + 1 := by rw [List.length_append, hL]; rfl
theorem xgl2 (hL : w.length = l) : (w ++ [c])[l]? = some c := by subst hL; exact xgl
end
section
variable {g : Nat → Value} {i j : Int32} {v u : Value} {k m : Nat}
theorem xup_s : xup g k v k = v := by simp [xup]
theorem xup_n (h : Nat.beq m k = false) (hg : g m = u) : xup g k v m = u := by simp only [xup, h, cond_false]; exact hg
theorem xup_e (e : i.toInt = j.toInt) : xup g i.toInt.toNat v j.toInt.toNat = v := by rw [e]; exact xup_s
theorem xup_i (h0 : 0 ≤ i.toInt) (h1 : 0 ≤ j.toInt) (hne : i.toInt ≠ j.toInt) (hg : g j.toInt.toNat = u) : xup g i.toInt.toNat v j.toInt.toNat = u := by
  refine xup_n ?_ hg
  cases hb : Nat.beq j.toInt.toNat i.toInt.toNat with
  | false => rfl
  | true => have := Nat.eq_of_beq_eq_true hb; omega
theorem lg_cmp_s (x : Int64) : lg_cmp x x = 0 := by simp [lg_cmp]
end
