theorem rd7_1 {d : Nat} {xs : Nat → Int32} {m : Int64} {sc md : Int32} {w : xW} {g : Nat → Value} {B K P G : Int32} (hk : ∀ h, 131 ≤ h → h < 194 → w[h]? = (W0 6 xs)[h]?) (hm : w[128]? = some (Sum.inr (12, [Value.ref 129, Value.ref 131, Value.ref 133, Value.ref 135, Value.ref 137, Value.ref 139, Value.ref 141, Value.ref 143, Value.ref 145, Value.ref 147, Value.ref 149, Value.ref 151, Value.ref 153, Value.ref 154, Value.ref 155, Value.ref 156, Value.ref 157, Value.int (-16384), Value.int 16384, Value.int 0, Value.int 0, Value.int 0, Value.ref 158, Value.ref 159, Value.int 0, Value.int 0, Value.int 0, Value.int 0, Value.int 0, Value.int 0, Value.int 0, Value.int 0]))) (hv : w[129]? = some (Sum.inr (13, [Value.ref 130, Value.int 3]))) (hvw : w[130]? = some (Sum.inl (0, 4700, g))) (hg0 : g (0 : Int32).toInt.toNat = Value.int (xq m)) (hg1 : g (1 : Int32).toInt.toNat = Value.int (xq (xqs m))) (hg2 : g (2 : Int32).toInt.toNat = Value.int (xq (xqs (xqs m)))) (hB : B.toInt = (xbl (xul m) : Int)) (c0 : 0 ≤ (xs 1).toInt) (c1 : (xs 1).toInt < 16) (c2 : (-40000) ≤ sc.toInt) (c3 : sc.toInt ≤ 40000) (c4 : 0 ≤ md.toInt) (c5 : md.toInt ≤ 4) (c6 : K.toInt = 64 - B.toInt) (c7 : 64 ≤ B.toInt) (c8 : B.toInt ≤ 64) (c9 : (xhi m).toInt ≠ 0) (c10 : (xnlz (xhi m)).toInt = 64 - B.toInt) (c11 : (xbf 2 (xlo m) (xhi m) ((32 : Int32) - K)).toInt ≠ 0) (c12 : (lg_cmp m (0 : Int64)).toInt ≠ 0) (c13 : (lg_cmp (xqs m) (0 : Int64)).toInt ≠ 0) (c14 : (lg_cmp (xqs (xqs m)) (0 : Int64)).toInt ≠ 0) (c15 : (lg_cmp (xqs (xqs (xqs m))) (0 : Int64)).toInt = 0) (c16 : (xbn (xq (xqs (xqs m)))).toInt = B.toInt - 60) (c17 : (xq (xqs (xqs m))).toInt ≠ 0) (c18 : 0 ≤ (xq (xqs (xqs m))).toInt) (c19 : K.toInt = 0) (c20 : (xbn (xq (xqs (xqs m)))).toInt = 4) (c21 : G.toInt = B.toInt - 61) : ∃ w2, xRun (d + 6) 180 [Value.ref 128, Value.int (xs 1), Value.ref 129, Value.int sc, Value.int 0, Value.int 1, Value.int md] w (.inl (some (Value.int (xres 1 m sc md)))) w2 ∧ xKp w w2 xPM ∧ ∃ f, w2[128]? = some (xmo f) := by
  have f0 : ((60 : Int32) + (xbn (xq (xqs (xqs m))))).toInt = 60 + (xbn (xq (xqs (xqs m)))).toInt := xadd_g rfl rfl (by omega) (by omega)
  have f1 : ((64 : Int32) + sc).toInt = 64 + sc.toInt := xadd_g rfl rfl (by omega) (by omega)
  have f2 : (((64 : Int32) + sc) - (64 : Int32)).toInt = ((64 : Int32) + sc).toInt - 64 := xsub_g rfl rfl (by omega) (by omega)
  have f3 : (sc - sc).toInt = sc.toInt - sc.toInt := xsub_i (by omega) (by omega)
  have fb : ((60 : Int32) + xbn (xq (xqs (xqs m)))).toInt = B.toInt := by rw [xadd_i (by show _ ≤ (60 : Int) + _; omega) (by show (60 : Int) + _ < _; omega)]; show (60 : Int) + _ = _; omega
  obtain ⟨w2, h1, h2, h3⟩ := suf_1 (d := d) (xs := xs) (m := m) (sc := sc) (md := md) (w := (((w.set 156 (Sum.inl (2, 17, xup (fun _ => Value.int 0) (xs 1).toInt.toNat (Value.int 1)))).set 136 (Sum.inl (0, 4700, xcp g (fun _ => Value.int 0) (0 : Int32).toInt.toNat (0 : Int32).toInt.toNat (3 : Int32).toInt.toNat))).set 135 (Sum.inr (13, [Value.ref 136, Value.int 3])))) (B := B) (E := ((64 : Int32) + sc)) (U := sc) (C := 0) hB (fun h h1 h2 h3 h4 h5 => (xgn (by omega) (xgn (by omega) (xgn (by omega) (rfl)))).trans (hk h h1 h2)) (xgn (by decide) (xgn (by decide) (xgn (by decide) hm))) (xgn (by decide) (xgn (by decide) (xgn (by decide) hv))) (xgs (xgn (by decide) (xgn (by decide) (((hk 135 (by decide) (by decide)).trans W0_135))))) (xgn (by decide) (xgs (xgn (by decide) (((hk 136 (by decide) (by decide)).trans W0_136))))) (xcp_i rfl hg0) (xcp_i rfl hg1) (xcp_i rfl hg2) (xgn (by decide) (xgn (by decide) (xgs ((hk 156 (by decide) (by decide)).trans W0_156)))) (fun d' w' e1 e2 => mb_run3 (e1.trans (xgn (by decide) (xgn (by decide) (xgn (by decide) hv)))) (e2.trans (xgn (by decide) (xgn (by decide) (xgn (by decide) hvw)))) hg2 (by omega) (xge_i (by omega))) (fun hp d' w' e1 e2 => any0_7 (xs := xs) (sc := sc) (md := md) (P := P) hB (e1.trans (xgn (by decide) (xgn (by decide) (xgn (by decide) hv)))) (e2.trans (xgn (by decide) (xgn (by decide) (xgn (by decide) hvw)))) hg0 hg1 hg2 c0 c1 c2 c3 c4 c5 c6 c7 c8 c9 c10 c11 c12 c13 c14 c15 c16 c17 c18 c19 c20 c21 hp) (fun hp d' w' e1 e2 => any1_7 (xs := xs) (sc := sc) (md := md) (P := P) hB (e1.trans (xgn (by decide) (xgn (by decide) (xgn (by decide) hv)))) (e2.trans (xgn (by decide) (xgn (by decide) (xgn (by decide) hvw)))) hg0 hg1 hg2 c0 c1 c2 c3 c4 c5 c6 c7 c8 c9 c10 c11 c12 c13 c14 c15 c16 c17 c18 c19 c20 c21 hp) c0 c1 c2 c3 c4 c5 (by omega) (by omega) (by omega) (by omega) (by omega) (by omega)
  refine ⟨w2, xRun.of ?_, xKp.trans ?_ h2, h3⟩
  · refine i_180_0 (x := 128) rfl ?_
    refine i_180_1 (v := Value.ref 153) hm rfl ?_
    refine i_180_4 (x := (xs 1)) rfl ?_
    refine i_180_5 (v := Value.int 64) ((hk 153 (by decide) (by decide)).trans W0_153) (by omega) (by omega) (gprec_at (by omega)) ?_
    refine i_180_6 (lv2 := [(7, Value.int 64), (0, Value.ref 128), (1, Value.int (xs 1)), (2, Value.ref 129), (3, Value.int sc), (4, Value.int 0), (5, Value.int 1), (6, Value.int md)]) rfl ?_
    refine i_180_8 (x := 129) rfl ?_
    refine i_180_9 hv (Nat.le_of_ble_eq_true rfl) (mb_run3 hv hvw hg2 (by omega) (show ((60 : Int32) + (xbn (xq (xqs (xqs m))))) = 64 from (xge_c (n := 64) (by omega) rfl))) ?_
    refine i_180_12 (x := sc) rfl ?_
    refine i_180_13 (c := ((64 : Int32) + sc)) (show ((64 : Int32) + sc) = ((64 : Int32) + sc) from (xge_i (by omega))) ?_
    refine i_180_14 (lv2 := [(8, Value.int ((64 : Int32) + sc)), (7, Value.int 64), (0, Value.ref 128), (1, Value.int (xs 1)), (2, Value.ref 129), (3, Value.int sc), (4, Value.int 0), (5, Value.int 1), (6, Value.int md)]) rfl ?_
    refine i_180_16 (x := 128) rfl ?_
    refine i_180_17 (v := Value.int 0) hm rfl ?_
    refine i_180_20 (fun h => absurd h (by decide)) (fun _ => ?_)
    refine i_180_23 (x := 128) rfl ?_
    refine i_180_24 (v := Value.int 0) hm rfl ?_
    refine i_180_27 (fun _ => ?_) (fun h => absurd h (by decide))
    refine i_180_49 (x := ((64 : Int32) + sc)) rfl ?_
    refine i_180_51 (x := 64) rfl ?_
    refine i_180_53 (c := sc) (show (((64 : Int32) + sc) - (64 : Int32)) = sc from (xge_i (by omega))) ?_
    refine i_180_54 (lv2 := [(9, Value.int sc), (8, Value.int ((64 : Int32) + sc)), (7, Value.int 64), (0, Value.ref 128), (1, Value.int (xs 1)), (2, Value.ref 129), (3, Value.int sc), (4, Value.int 0), (5, Value.int 1), (6, Value.int md)]) rfl ?_
    refine i_180_56 (x := sc) rfl ?_
    refine i_180_58 (x := sc) rfl ?_
    refine i_180_59 (c := 0) (show (sc - sc) = 0 from (xge_c (n := 0) (by omega) rfl)) ?_
    refine i_180_60 (lv2 := [(10, Value.int 0), (9, Value.int sc), (8, Value.int ((64 : Int32) + sc)), (7, Value.int 64), (0, Value.ref 128), (1, Value.int (xs 1)), (2, Value.ref 129), (3, Value.int sc), (4, Value.int 0), (5, Value.int 1), (6, Value.int md)]) rfl ?_
    refine i_180_62 (x := 128) rfl ?_
    refine i_180_63 (v := Value.ref 156) hm rfl ?_
    refine i_180_66 (x := (xs 1)) rfl ?_
    refine i_180_67 (x := 1) rfl ?_
    refine i_180_69z (v := Value.int 1) ((hk 156 (by decide) (by decide)).trans W0_156) (by omega) (by omega) (by omega) rfl ?_
    refine i_180_70 (x := 128) rfl ?_
    refine i_180_71 (v := Value.ref 135) (xgn (by decide) hm) rfl ?_
    refine i_180_74 (x := 129) rfl ?_
    refine i_180_75 (xgn (by decide) (((hk 135 (by decide) (by decide)).trans W0_135))) (Nat.le_of_ble_eq_true rfl) (s_182_2 (xgn (by decide) hv) (xgn (by decide) (((hk 135 (by decide) (by decide)).trans W0_135))) (xgn (by decide) hvw) (xgn (by decide) (((hk 136 (by decide) (by decide)).trans W0_136))) hg0 hg1 hg2) ?_
    refine i_180_78 ?_
    refine i_180_79 (lv2 := [(11, Value.int 0), (10, Value.int 0), (9, Value.int sc), (8, Value.int ((64 : Int32) + sc)), (7, Value.int 64), (0, Value.ref 128), (1, Value.int (xs 1)), (2, Value.ref 129), (3, Value.int sc), (4, Value.int 0), (5, Value.int 1), (6, Value.int md)]) rfl ?_
    refine i_180_81 (x := 0) rfl ?_
    refine i_180_83 (fun h => absurd h (by decide)) (fun _ => ?_)
    refine i_180_86 ?_
    refine i_180_87 ?_
    refine i_180_91 (lv2 := [(12, Value.int 1), (11, Value.int 0), (10, Value.int 0), (9, Value.int sc), (8, Value.int ((64 : Int32) + sc)), (7, Value.int 64), (0, Value.ref 128), (1, Value.int (xs 1)), (2, Value.ref 129), (3, Value.int sc), (4, Value.int 0), (5, Value.int 1), (6, Value.int md)]) rfl ?_
    refine i_180_93 (x := 0) rfl ?_
    refine i_180_95 (fun _ => ?_) (fun h => absurd h (by decide))
    refine i_180_151 (x := 128) rfl ?_
    refine i_180_152 (v := Value.ref 135) (xgn (by decide) (xgn (by decide) (xgn (by decide) hm))) rfl ?_
    refine i_180_155 (x := 0) rfl ?_
    refine i_180_157 (c := 0) (by decide) ?_
    refine i_180_158 (xgs (xgn (by decide) (xgn (by decide) (((hk 135 (by decide) (by decide)).trans W0_135))))) (Nat.le_of_ble_eq_true rfl) (s_188_5 (xgs (xgn (by decide) (xgn (by decide) (((hk 135 (by decide) (by decide)).trans W0_135)))))) ?_
    refine i_180_161 (x := 0) rfl ?_
    refine i_180_163 (fun _ => ?_) (fun h => absurd h (by decide))
    refine i_180_174 (x := 128) rfl ?_
    refine i_180_175 (v := Value.ref 135) (xgn (by decide) (xgn (by decide) (xgn (by decide) hm))) rfl ?_
    refine i_180_178 (xgs (xgn (by decide) (xgn (by decide) (((hk 135 (by decide) (by decide)).trans W0_135))))) (Nat.le_of_ble_eq_true rfl) (mb_run3 (xgs (xgn (by decide) (xgn (by decide) (((hk 135 (by decide) (by decide)).trans W0_135))))) (xgn (by decide) (xgs (xgn (by decide) (((hk 136 (by decide) (by decide)).trans W0_136))))) (xcp_i rfl hg2) (by omega) (show ((60 : Int32) + (xbn (xq (xqs (xqs m))))) = 64 from (xge_c (n := 64) (by omega) rfl))) ?_
    refine i_180_181 (x := sc) rfl ?_
    refine i_180_183 (c := ((64 : Int32) + sc)) (show ((64 : Int32) + sc) = ((64 : Int32) + sc) from (xge_i (by omega))) ?_
    refine i_180_184 (lv2 := [(13, Value.int ((64 : Int32) + sc)), (12, Value.int 1), (11, Value.int 0), (10, Value.int 0), (9, Value.int sc), (8, Value.int ((64 : Int32) + sc)), (7, Value.int 64), (0, Value.ref 128), (1, Value.int (xs 1)), (2, Value.ref 129), (3, Value.int sc), (4, Value.int 0), (5, Value.int 1), (6, Value.int md)]) rfl ?_
    refine i_180_186 (x := 1) rfl ?_
    refine i_180_188 (fun h => absurd h (by decide)) (fun _ => ?_)
    refine i_180_191 ?_
    refine i_180_192 ?_
    refine i_180_205 (lv2 := [(14, Value.int 0), (13, Value.int ((64 : Int32) + sc)), (12, Value.int 1), (11, Value.int 0), (10, Value.int 0), (9, Value.int sc), (8, Value.int ((64 : Int32) + sc)), (7, Value.int 64), (0, Value.ref 128), (1, Value.int (xs 1)), (2, Value.ref 129), (3, Value.int sc), (4, Value.int 0), (5, Value.int 1), (6, Value.int md)]) rfl ?_
    exact h1
  · refine xKp.set ?_ (fun h hh => by unfold xPM at hh; omega) (xgn (by decide) (xgn (by decide) (((hk 135 (by decide) (by decide)).trans W0_135)))) xcs_o
    refine xKp.set ?_ (fun h hh => by unfold xPM at hh; omega) (xgn (by decide) (((hk 136 (by decide) (by decide)).trans W0_136))) xcs_a
    refine xKp.set ?_ (fun h hh => by unfold xPM at hh; omega) (((hk 156 (by decide) (by decide)).trans W0_156)) xcs_a
    exact xKp.refl
theorem mnum3 {d : Nat} {xs : Nat → Int32} {w w2 : xW} {b : Int32} (hm : w[128]? = some (Sum.inr (12, [Value.ref 129, Value.ref 131, Value.ref 133, Value.ref 135, Value.ref 137, Value.ref 139, Value.ref 141, Value.ref 143, Value.ref 145, Value.ref 147, Value.ref 149, Value.ref 151, Value.ref 153, Value.ref 154, Value.ref 155, Value.ref 156, Value.ref 157, Value.int (-16384), Value.int 16384, Value.int 0, Value.int 0, Value.int 0, Value.ref 158, Value.ref 159, Value.int 0, Value.int 0, Value.int 0, Value.int 0, Value.int 0, Value.int 0, Value.int 0, Value.int 0]))) (hr : xRun (d + 7) 177 [Value.ref 128, Value.int (xs 1), Value.long (xvv xs), Value.int (xs 4), Value.int (xs 5)] (w.set 128 (Sum.inr (12, [Value.ref 129, Value.ref 131, Value.ref 133, Value.ref 135, Value.ref 137, Value.ref 139, Value.ref 141, Value.ref 143, Value.ref 145, Value.ref 147, Value.ref 149, Value.ref 151, Value.ref 153, Value.ref 154, Value.ref 155, Value.ref 156, Value.ref 157, Value.int (-16384), Value.int 16384, Value.int 0, Value.int 0, Value.int 0, Value.ref 158, Value.ref 159, Value.int 0, Value.int 0, Value.int 0, Value.int 0, Value.int 0, Value.int 0, Value.int 0, Value.int 0]))) (.inl (some (Value.int b))) w2) : xRun (d + 8) 176 [Value.ref 128, Value.int (xs 1), Value.long (xvv xs), Value.int (xs 4), Value.int (xs 5)] w (.inl (some (Value.int b))) w2 := by
  refine xRun.of ?_
  refine i_176_0 (x := 128) rfl ?_
  refine i_176_1 ?_
  refine i_176_2 (fs2 := [Value.ref 129, Value.ref 131, Value.ref 133, Value.ref 135, Value.ref 137, Value.ref 139, Value.ref 141, Value.ref 143, Value.ref 145, Value.ref 147, Value.ref 149, Value.ref 151, Value.ref 153, Value.ref 154, Value.ref 155, Value.ref 156, Value.ref 157, Value.int (-16384), Value.int 16384, Value.int 0, Value.int 0, Value.int 0, Value.ref 158, Value.ref 159, Value.int 0, Value.int 0, Value.int 0, Value.int 0, Value.int 0, Value.int 0, Value.int 0, Value.int 0]) hm (Nat.le_of_ble_eq_true rfl) rfl (by omega) ?_
  refine i_176_5 (x := 128) rfl ?_
  refine i_176_6 (x := (xs 1)) rfl ?_
  refine i_176_7 (x := (xvv xs)) rfl ?_
  refine i_176_8 (x := (xs 4)) rfl ?_
  refine i_176_10 (x := (xs 5)) rfl ?_
  refine i_176_12 (xgs hm) (Nat.le_of_ble_eq_true rfl) hr ?_
  exact i_176_15 ⟨rfl, rfl⟩
theorem s_169_0 {d : Nat} {w : xW} {a0 : Int32} (e0 : 0 ≤ a0.toInt) (e1 : a0.toInt ≤ 15) : xRun d 169 [Value.int a0, Value.int 0, Value.int 15] w (.inl (some (Value.int 1))) w := by
  refine xRun.of ?_
  refine i_169_0 (x := a0) rfl ?_
  refine i_169_1 (x := 0) rfl ?_
  refine i_169_2 (fun h => absurd e0 (Int.not_le.mpr h)) (fun _ => ?_)
  refine i_169_5 (x := a0) rfl ?_
  refine i_169_6 (x := 15) rfl ?_
  refine i_169_7 (fun h => absurd e1 (Int.not_le.mpr h)) (fun _ => ?_)
  refine i_169_10 ?_
  refine i_169_11 ?_
  exact i_169_15 rfl ⟨rfl, rfl⟩
theorem s_170_0 {d : Nat} {w : xW} : xRun d 170 [Value.int 1] w (.inl none) w := by
  refine xRun.of ?_
  refine i_170_0 (x := 1) rfl ?_
  refine i_170_1 (fun _ => ?_) (fun h => absurd h (by decide))
  exact i_170_12 ⟨rfl, rfl⟩
theorem s_168_0 {d : Nat} {w : xW} {a0 : Int32} (e0 : 0 ≤ a0.toInt) (e1 : a0.toInt ≤ 15) : xRun (d + 1) 168 [Value.int a0] w (.inl none) w := by
  refine xRun.of ?_
  refine i_168_0 (x := a0) rfl ?_
  refine i_168_1 ?_
  refine i_168_2 ?_
  refine i_168_4 (Nat.le_of_ble_eq_true rfl) (s_169_0 e0 e1) ?_
  refine i_168_7 (Nat.le_of_ble_eq_true rfl) (s_170_0) ?_
  exact i_168_10 ⟨rfl, rfl⟩
theorem s_169_1 {d : Nat} {w : xW} {a0 : Int32} (e0 : (-40000) ≤ a0.toInt) (e1 : a0.toInt ≤ 40000) : xRun d 169 [Value.int a0, Value.int (-40000), Value.int 40000] w (.inl (some (Value.int 1))) w := by
  refine xRun.of ?_
  refine i_169_0 (x := a0) rfl ?_
  refine i_169_1 (x := (-40000)) rfl ?_
  refine i_169_2 (fun h => absurd e0 (Int.not_le.mpr h)) (fun _ => ?_)
  refine i_169_5 (x := a0) rfl ?_
  refine i_169_6 (x := 40000) rfl ?_
  refine i_169_7 (fun h => absurd e1 (Int.not_le.mpr h)) (fun _ => ?_)
  refine i_169_10 ?_
  refine i_169_11 ?_
  exact i_169_15 rfl ⟨rfl, rfl⟩
theorem s_169_2 {d : Nat} {w : xW} {a0 : Int32} (e0 : 0 ≤ a0.toInt) (e1 : a0.toInt ≤ 4) : xRun d 169 [Value.int a0, Value.int 0, Value.int 4] w (.inl (some (Value.int 1))) w := by
  refine xRun.of ?_
  refine i_169_0 (x := a0) rfl ?_
  refine i_169_1 (x := 0) rfl ?_
  refine i_169_2 (fun h => absurd e0 (Int.not_le.mpr h)) (fun _ => ?_)
  refine i_169_5 (x := a0) rfl ?_
  refine i_169_6 (x := 4) rfl ?_
  refine i_169_7 (fun h => absurd e1 (Int.not_le.mpr h)) (fun _ => ?_)
  refine i_169_10 ?_
  refine i_169_11 ?_
  exact i_169_15 rfl ⟨rfl, rfl⟩
theorem s_178_0 {d : Nat} {w : xW} {a0 : Int32} (e0 : 0 ≤ a0.toInt) (e1 : a0.toInt ≤ 4) : xRun (d + 1) 178 [Value.int a0] w (.inl none) w := by
  refine xRun.of ?_
  refine i_178_0 (x := a0) rfl ?_
  refine i_178_1 ?_
  refine i_178_2 ?_
  refine i_178_3 (Nat.le_of_ble_eq_true rfl) (s_169_2 e0 e1) ?_
  refine i_178_6 (Nat.le_of_ble_eq_true rfl) (s_170_0) ?_
  exact i_178_9 ⟨rfl, rfl⟩
theorem s_179_3 {d : Nat} {w : xW} {b0 : Int64} (hw0 : w[129]? = some (Sum.inr (13, [Value.ref 130, Value.int 0]))) (e1 : (lg_cmp b0 (0 : Int64)).toInt ≠ 0) (hw2 : w[130]? = some (Sum.inl (0, 4700, fun _ => Value.int 0))) (hg3 : (lg_cmp (xqs b0) (0 : Int64)) = 0) : xRun d 179 [Value.ref 129, Value.long b0] w (.inl none) (((w.set 129 (Sum.inr (13, [Value.ref 130, Value.int 0]))).set 130 (Sum.inl (0, 4700, xup (fun _ => Value.int 0) (0 : Int32).toInt.toNat (Value.int (xq b0))))).set 129 (Sum.inr (13, [Value.ref 130, Value.int 1]))) := by
  refine xRun.of ?_
  refine i_179_0 (x := 129) rfl ?_
  refine i_179_1 ?_
  refine i_179_2 (fs2 := [Value.ref 130, Value.int 0]) hw0 (Nat.le_of_ble_eq_true rfl) rfl (by decide) ?_
  refine i_179_5 (x := b0) rfl ?_
  refine i_179_6 (lv2 := [(3, Value.long b0), (0, Value.ref 129), (1, Value.long b0)]) rfl ?_
  refine i_179_7 (x := b0) rfl ?_
  refine i_179_8 ?_
  refine i_179_9 (c := (lg_cmp b0 (0 : Int64))) rfl ?_
  refine i_179_10 (fun h => absurd e1 (fun g => g h)) (fun _ => ?_)
  refine i_179_13 (x := 129) rfl ?_
  refine i_179_14 (v := Value.ref 130) (xgs hw0) rfl ?_
  refine i_179_17 (x := 129) rfl ?_
  refine i_179_18 (v := Value.int 0) (xgs hw0) rfl ?_
  refine i_179_21 (x := b0) rfl ?_
  refine i_179_22 (c := (xlo b0)) rfl ?_
  refine i_179_23 ?_
  refine i_179_25 (c := (xq b0)) rfl ?_
  refine i_179_26 (v := Value.int (xq b0)) (xgn (by decide) hw2) (by decide) (by decide) (by decide) rfl ?_
  refine i_179_27 (x := 129) rfl ?_
  refine i_179_28 rfl ?_
  refine i_179_29 (v := Value.int 0) (xgn (by decide) (xgs hw0)) rfl ?_
  refine i_179_32 ?_
  refine i_179_33 (c := 1) (by decide) ?_
  refine i_179_34 (fs2 := [Value.ref 130, Value.int 1]) (xgn (by decide) (xgs hw0)) (Nat.le_of_ble_eq_true rfl) rfl (by decide) ?_
  refine i_179_37 (x := b0) rfl ?_
  refine i_179_38 ?_
  refine i_179_40 (c := (xqs b0)) rfl ?_
  refine i_179_41 (lv2 := [(3, Value.long (xqs b0)), (0, Value.ref 129), (1, Value.long b0)]) rfl ?_
  refine i_179_42 ?_
  refine i_179_7 (x := (xqs b0)) rfl ?_
  refine i_179_8 ?_
  refine i_179_9 (c := 0) hg3 ?_
  refine i_179_10 (fun _ => ?_) (fun h => absurd h (by decide))
  exact i_179_45 ⟨rfl, rfl⟩
theorem mn3_0_1 {d : Nat} {xs : Nat → Int32} {w w2 : xW} {b : Int32} {B K P G : Int32} (hk : ∀ h, 129 ≤ h → h < 194 → w[h]? = (W0 6 xs)[h]?) (hm : w[128]? = some (Sum.inr (12, [Value.ref 129, Value.ref 131, Value.ref 133, Value.ref 135, Value.ref 137, Value.ref 139, Value.ref 141, Value.ref 143, Value.ref 145, Value.ref 147, Value.ref 149, Value.ref 151, Value.ref 153, Value.ref 154, Value.ref 155, Value.ref 156, Value.ref 157, Value.int (-16384), Value.int 16384, Value.int 0, Value.int 0, Value.int 0, Value.ref 158, Value.ref 159, Value.int 0, Value.int 0, Value.int 0, Value.int 0, Value.int 0, Value.int 0, Value.int 0, Value.int 0]))) (c0 : 0 ≤ (xs 1).toInt) (c1 : (xs 1).toInt < 16) (c2 : (-40000) ≤ (xs 4).toInt) (c3 : (xs 4).toInt ≤ 40000) (c4 : 0 ≤ (xs 5).toInt) (c5 : (xs 5).toInt ≤ 4) (c6 : (lg_cmp (xvv xs) (0 : Int64)).toInt ≠ 0) (c7 : 0 ≤ (lg_cmp (xvv xs) (0 : Int64)).toInt) (c8 : K.toInt = 64 - B.toInt) (c9 : 1 ≤ B.toInt) (c10 : B.toInt ≤ 4) (c11 : (xhi (xvv xs)).toInt = 0) (c12 : (xlo (xvv xs)).toInt ≠ 0) (c13 : (xnlz (xlo (xvv xs))).toInt = 32 - B.toInt) (c14 : (xbf 1 (xlo (xvv xs)) (0 : Int32) ((32 : Int32) - K)).toInt ≠ 0) (c15 : (lg_cmp (xvv xs) (0 : Int64)).toInt ≠ 0) (c16 : (lg_cmp (xqs (xvv xs)) (0 : Int64)).toInt = 0) (c17 : (xbn (xq (xvv xs))).toInt = B.toInt) (c18 : (xq (xvv xs)).toInt ≠ 0) (c19 : 0 ≤ (xq (xvv xs)).toInt) (c20 : K.toInt ≠ 0) (c21 : K / (30 : Int32) = 2) (c22 : K - K / (30 : Int32) * (30 : Int32) = P) (c23 : ((0 : Int32) ||| (xH (xq (xvv xs)) P)).toInt = 0) (c24 : (xL (xq (xvv xs)) P).toInt ≠ 0) (c25 : 0 ≤ (xL (xq (xvv xs)) P).toInt) (c26 : (xbn (xL (xq (xvv xs)) P)).toInt = 4) (c27 : G.toInt = B.toInt - 1) (hr : xRun (d + 6) 180 [Value.ref 128, Value.int (xs 1), Value.ref 129, Value.int (xs 4), Value.int 0, Value.int 0, Value.int (xs 5)] (((w.set 129 (Sum.inr (13, [Value.ref 130, Value.int 0]))).set 130 (Sum.inl (0, 4700, xup (fun _ => Value.int 0) (0 : Int32).toInt.toNat (Value.int (xq (xvv xs)))))).set 129 (Sum.inr (13, [Value.ref 130, Value.int 1]))) (.inl (some (Value.int b))) w2) : xRun (d + 7) 177 [Value.ref 128, Value.int (xs 1), Value.long (xvv xs), Value.int (xs 4), Value.int (xs 5)] w (.inl (some (Value.int b))) w2 := by
  refine xRun.of ?_
  refine i_177_0 (x := (xs 1)) rfl ?_
  refine i_177_1 (Nat.le_of_ble_eq_true rfl) (s_168_0 (by omega) (by omega)) ?_
  refine i_177_4 (x := (xs 4)) rfl ?_
  refine i_177_6 ?_
  refine i_177_8 ?_
  refine i_177_10 (Nat.le_of_ble_eq_true rfl) (s_169_1 (by omega) (by omega)) ?_
  refine i_177_13 (Nat.le_of_ble_eq_true rfl) (s_170_0) ?_
  refine i_177_16 (x := (xs 5)) rfl ?_
  refine i_177_18 (Nat.le_of_ble_eq_true rfl) (s_178_0 (by omega) (by omega)) ?_
  refine i_177_21 (x := (xvv xs)) rfl ?_
  refine i_177_22 ?_
  refine i_177_23 (c := (lg_cmp (xvv xs) (0 : Int64))) rfl ?_
  refine i_177_24 (fun _ => ?_) (fun h => absurd (show (lg_cmp (xvv xs) (0 : Int64)).toInt ≠ 0 by omega) (fun g => g h))
  refine i_177_35 (x := 128) rfl ?_
  refine i_177_36 (v := Value.ref 129) hm rfl ?_
  refine i_177_39 (x := (xvv xs)) rfl ?_
  refine i_177_40 ?_
  refine i_177_41 (c := (lg_cmp (xvv xs) (0 : Int64))) rfl ?_
  refine i_177_42 (fun _ => ?_) (fun h => absurd (show 0 ≤ (lg_cmp (xvv xs) (0 : Int64)).toInt by omega) (Int.not_le.mpr h))
  refine i_177_50 (x := (xvv xs)) rfl ?_
  refine i_177_51 ((hk 129 (by decide) (by decide)).trans W0_129) (Nat.le_of_ble_eq_true rfl) (s_179_3 ((hk 129 (by decide) (by decide)).trans W0_129) (by omega) ((hk 130 (by decide) (by decide)).trans W0_130) (show (lg_cmp (xqs (xvv xs)) (0 : Int64)) = 0 from (xge_c (n := 0) (by omega) rfl))) ?_
  refine i_177_54 (x := 128) rfl ?_
  refine i_177_55 (x := (xs 1)) rfl ?_
  refine i_177_56 (x := 128) rfl ?_
  refine i_177_57 (v := Value.ref 129) (xgn (by decide) (xgn (by decide) (xgn (by decide) hm))) rfl ?_
  refine i_177_60 (x := (xs 4)) rfl ?_
  refine i_177_62 ?_
  refine i_177_63 (x := (xvv xs)) rfl ?_
  refine i_177_64 ?_
  refine i_177_65 (c := (lg_cmp (xvv xs) (0 : Int64))) rfl ?_
  refine i_177_66 (fun _ => ?_) (fun h => absurd (show 0 ≤ (lg_cmp (xvv xs) (0 : Int64)).toInt by omega) (Int.not_le.mpr h))
  refine i_177_73 ?_
  refine i_177_74 (x := (xs 5)) rfl ?_
  refine i_177_76 (xgn (by decide) (xgn (by decide) (xgn (by decide) hm))) (Nat.le_of_ble_eq_true rfl) hr ?_
  exact i_177_79 ⟨rfl, rfl⟩
theorem mn3_0_2 {d : Nat} {xs : Nat → Int32} {w w2 : xW} {b : Int32} {B K P G : Int32} (hk : ∀ h, 129 ≤ h → h < 194 → w[h]? = (W0 6 xs)[h]?) (hm : w[128]? = some (Sum.inr (12, [Value.ref 129, Value.ref 131, Value.ref 133, Value.ref 135, Value.ref 137, Value.ref 139, Value.ref 141, Value.ref 143, Value.ref 145, Value.ref 147, Value.ref 149, Value.ref 151, Value.ref 153, Value.ref 154, Value.ref 155, Value.ref 156, Value.ref 157, Value.int (-16384), Value.int 16384, Value.int 0, Value.int 0, Value.int 0, Value.ref 158, Value.ref 159, Value.int 0, Value.int 0, Value.int 0, Value.int 0, Value.int 0, Value.int 0, Value.int 0, Value.int 0]))) (c0 : 0 ≤ (xs 1).toInt) (c1 : (xs 1).toInt < 16) (c2 : (-40000) ≤ (xs 4).toInt) (c3 : (xs 4).toInt ≤ 40000) (c4 : 0 ≤ (xs 5).toInt) (c5 : (xs 5).toInt ≤ 4) (c6 : (lg_cmp (xvv xs) (0 : Int64)).toInt ≠ 0) (c7 : 0 ≤ (lg_cmp (xvv xs) (0 : Int64)).toInt) (c8 : K.toInt = 64 - B.toInt) (c9 : 5 ≤ B.toInt) (c10 : B.toInt ≤ 30) (c11 : (xhi (xvv xs)).toInt = 0) (c12 : (xlo (xvv xs)).toInt ≠ 0) (c13 : (xnlz (xlo (xvv xs))).toInt = 32 - B.toInt) (c14 : (xbf 1 (xlo (xvv xs)) (0 : Int32) ((32 : Int32) - K)).toInt ≠ 0) (c15 : (lg_cmp (xvv xs) (0 : Int64)).toInt ≠ 0) (c16 : (lg_cmp (xqs (xvv xs)) (0 : Int64)).toInt = 0) (c17 : (xbn (xq (xvv xs))).toInt = B.toInt) (c18 : (xq (xvv xs)).toInt ≠ 0) (c19 : 0 ≤ (xq (xvv xs)).toInt) (c20 : K.toInt ≠ 0) (c21 : K / (30 : Int32) = 1) (c22 : K - K / (30 : Int32) * (30 : Int32) = P) (c23 : ((0 : Int32) ||| (xH (xq (xvv xs)) P)).toInt ≠ 0) (c24 : 0 ≤ ((0 : Int32) ||| (xH (xq (xvv xs)) P)).toInt) (c25 : (xbn ((0 : Int32) ||| (xH (xq (xvv xs)) P))).toInt = 4) (c26 : G.toInt = B.toInt - 1) (hr : xRun (d + 6) 180 [Value.ref 128, Value.int (xs 1), Value.ref 129, Value.int (xs 4), Value.int 0, Value.int 0, Value.int (xs 5)] (((w.set 129 (Sum.inr (13, [Value.ref 130, Value.int 0]))).set 130 (Sum.inl (0, 4700, xup (fun _ => Value.int 0) (0 : Int32).toInt.toNat (Value.int (xq (xvv xs)))))).set 129 (Sum.inr (13, [Value.ref 130, Value.int 1]))) (.inl (some (Value.int b))) w2) : xRun (d + 7) 177 [Value.ref 128, Value.int (xs 1), Value.long (xvv xs), Value.int (xs 4), Value.int (xs 5)] w (.inl (some (Value.int b))) w2 := by
  refine xRun.of ?_
  refine i_177_0 (x := (xs 1)) rfl ?_
  refine i_177_1 (Nat.le_of_ble_eq_true rfl) (s_168_0 (by omega) (by omega)) ?_
  refine i_177_4 (x := (xs 4)) rfl ?_
  refine i_177_6 ?_
  refine i_177_8 ?_
  refine i_177_10 (Nat.le_of_ble_eq_true rfl) (s_169_1 (by omega) (by omega)) ?_
  refine i_177_13 (Nat.le_of_ble_eq_true rfl) (s_170_0) ?_
  refine i_177_16 (x := (xs 5)) rfl ?_
  refine i_177_18 (Nat.le_of_ble_eq_true rfl) (s_178_0 (by omega) (by omega)) ?_
  refine i_177_21 (x := (xvv xs)) rfl ?_
  refine i_177_22 ?_
  refine i_177_23 (c := (lg_cmp (xvv xs) (0 : Int64))) rfl ?_
  refine i_177_24 (fun _ => ?_) (fun h => absurd (show (lg_cmp (xvv xs) (0 : Int64)).toInt ≠ 0 by omega) (fun g => g h))
  refine i_177_35 (x := 128) rfl ?_
  refine i_177_36 (v := Value.ref 129) hm rfl ?_
  refine i_177_39 (x := (xvv xs)) rfl ?_
  refine i_177_40 ?_
  refine i_177_41 (c := (lg_cmp (xvv xs) (0 : Int64))) rfl ?_
  refine i_177_42 (fun _ => ?_) (fun h => absurd (show 0 ≤ (lg_cmp (xvv xs) (0 : Int64)).toInt by omega) (Int.not_le.mpr h))
  refine i_177_50 (x := (xvv xs)) rfl ?_
  refine i_177_51 ((hk 129 (by decide) (by decide)).trans W0_129) (Nat.le_of_ble_eq_true rfl) (s_179_3 ((hk 129 (by decide) (by decide)).trans W0_129) (by omega) ((hk 130 (by decide) (by decide)).trans W0_130) (show (lg_cmp (xqs (xvv xs)) (0 : Int64)) = 0 from (xge_c (n := 0) (by omega) rfl))) ?_
  refine i_177_54 (x := 128) rfl ?_
  refine i_177_55 (x := (xs 1)) rfl ?_
  refine i_177_56 (x := 128) rfl ?_
  refine i_177_57 (v := Value.ref 129) (xgn (by decide) (xgn (by decide) (xgn (by decide) hm))) rfl ?_
  refine i_177_60 (x := (xs 4)) rfl ?_
  refine i_177_62 ?_
  refine i_177_63 (x := (xvv xs)) rfl ?_
  refine i_177_64 ?_
  refine i_177_65 (c := (lg_cmp (xvv xs) (0 : Int64))) rfl ?_
  refine i_177_66 (fun _ => ?_) (fun h => absurd (show 0 ≤ (lg_cmp (xvv xs) (0 : Int64)).toInt by omega) (Int.not_le.mpr h))
  refine i_177_73 ?_
  refine i_177_74 (x := (xs 5)) rfl ?_
  refine i_177_76 (xgn (by decide) (xgn (by decide) (xgn (by decide) hm))) (Nat.le_of_ble_eq_true rfl) hr ?_
  exact i_177_79 ⟨rfl, rfl⟩
theorem s_179_4 {d : Nat} {w : xW} {b0 : Int64} (hw0 : w[129]? = some (Sum.inr (13, [Value.ref 130, Value.int 0]))) (e1 : (lg_cmp b0 (0 : Int64)).toInt ≠ 0) (hw2 : w[130]? = some (Sum.inl (0, 4700, fun _ => Value.int 0))) (e3 : (lg_cmp (xqs b0) (0 : Int64)).toInt ≠ 0) (hg4 : (lg_cmp (xqs (xqs b0)) (0 : Int64)) = 0) : xRun d 179 [Value.ref 129, Value.long b0] w (.inl none) (((((w.set 129 (Sum.inr (13, [Value.ref 130, Value.int 0]))).set 130 (Sum.inl (0, 4700, xup (fun _ => Value.int 0) (0 : Int32).toInt.toNat (Value.int (xq b0))))).set 129 (Sum.inr (13, [Value.ref 130, Value.int 1]))).set 130 (Sum.inl (0, 4700, xup (xup (fun _ => Value.int 0) (0 : Int32).toInt.toNat (Value.int (xq b0))) (1 : Int32).toInt.toNat (Value.int (xq (xqs b0)))))).set 129 (Sum.inr (13, [Value.ref 130, Value.int 2]))) := by
  refine xRun.of ?_
  refine i_179_0 (x := 129) rfl ?_
  refine i_179_1 ?_
  refine i_179_2 (fs2 := [Value.ref 130, Value.int 0]) hw0 (Nat.le_of_ble_eq_true rfl) rfl (by decide) ?_
  refine i_179_5 (x := b0) rfl ?_
  refine i_179_6 (lv2 := [(3, Value.long b0), (0, Value.ref 129), (1, Value.long b0)]) rfl ?_
  refine i_179_7 (x := b0) rfl ?_
  refine i_179_8 ?_
  refine i_179_9 (c := (lg_cmp b0 (0 : Int64))) rfl ?_
  refine i_179_10 (fun h => absurd e1 (fun g => g h)) (fun _ => ?_)
  refine i_179_13 (x := 129) rfl ?_
  refine i_179_14 (v := Value.ref 130) (xgs hw0) rfl ?_
  refine i_179_17 (x := 129) rfl ?_
  refine i_179_18 (v := Value.int 0) (xgs hw0) rfl ?_
  refine i_179_21 (x := b0) rfl ?_
  refine i_179_22 (c := (xlo b0)) rfl ?_
  refine i_179_23 ?_
  refine i_179_25 (c := (xq b0)) rfl ?_
  refine i_179_26 (v := Value.int (xq b0)) (xgn (by decide) hw2) (by decide) (by decide) (by decide) rfl ?_
  refine i_179_27 (x := 129) rfl ?_
  refine i_179_28 rfl ?_
  refine i_179_29 (v := Value.int 0) (xgn (by decide) (xgs hw0)) rfl ?_
  refine i_179_32 ?_
  refine i_179_33 (c := 1) (by decide) ?_
  refine i_179_34 (fs2 := [Value.ref 130, Value.int 1]) (xgn (by decide) (xgs hw0)) (Nat.le_of_ble_eq_true rfl) rfl (by decide) ?_
  refine i_179_37 (x := b0) rfl ?_
  refine i_179_38 ?_
  refine i_179_40 (c := (xqs b0)) rfl ?_
  refine i_179_41 (lv2 := [(3, Value.long (xqs b0)), (0, Value.ref 129), (1, Value.long b0)]) rfl ?_
  refine i_179_42 ?_
  refine i_179_7 (x := (xqs b0)) rfl ?_
  refine i_179_8 ?_
  refine i_179_9 (c := (lg_cmp (xqs b0) (0 : Int64))) rfl ?_
  refine i_179_10 (fun h => absurd e3 (fun g => g h)) (fun _ => ?_)
  refine i_179_13 (x := 129) rfl ?_
  refine i_179_14 (v := Value.ref 130) (xgs (xgn (by decide) (xgs hw0))) rfl ?_
  refine i_179_17 (x := 129) rfl ?_
  refine i_179_18 (v := Value.int 1) (xgs (xgn (by decide) (xgs hw0))) rfl ?_
  refine i_179_21 (x := (xqs b0)) rfl ?_
  refine i_179_22 (c := (xlo (xqs b0))) rfl ?_
  refine i_179_23 ?_
  refine i_179_25 (c := (xq (xqs b0))) rfl ?_
  refine i_179_26 (v := Value.int (xq (xqs b0))) (xgn (by decide) (xgs (xgn (by decide) hw2))) (by decide) (by decide) (by decide) rfl ?_
  refine i_179_27 (x := 129) rfl ?_
  refine i_179_28 rfl ?_
  refine i_179_29 (v := Value.int 1) (xgn (by decide) (xgs (xgn (by decide) (xgs hw0)))) rfl ?_
  refine i_179_32 ?_
  refine i_179_33 (c := 2) (by decide) ?_
  refine i_179_34 (fs2 := [Value.ref 130, Value.int 2]) (xgn (by decide) (xgs (xgn (by decide) (xgs hw0)))) (Nat.le_of_ble_eq_true rfl) rfl (by decide) ?_
  refine i_179_37 (x := (xqs b0)) rfl ?_
  refine i_179_38 ?_
  refine i_179_40 (c := (xqs (xqs b0))) rfl ?_
  refine i_179_41 (lv2 := [(3, Value.long (xqs (xqs b0))), (0, Value.ref 129), (1, Value.long b0)]) rfl ?_
  refine i_179_42 ?_
  refine i_179_7 (x := (xqs (xqs b0))) rfl ?_
  refine i_179_8 ?_
  refine i_179_9 (c := 0) hg4 ?_
  refine i_179_10 (fun _ => ?_) (fun h => absurd h (by decide))
  exact i_179_45 ⟨rfl, rfl⟩
theorem mn3_0_3 {d : Nat} {xs : Nat → Int32} {w w2 : xW} {b : Int32} {B K P G : Int32} (hk : ∀ h, 129 ≤ h → h < 194 → w[h]? = (W0 6 xs)[h]?) (hm : w[128]? = some (Sum.inr (12, [Value.ref 129, Value.ref 131, Value.ref 133, Value.ref 135, Value.ref 137, Value.ref 139, Value.ref 141, Value.ref 143, Value.ref 145, Value.ref 147, Value.ref 149, Value.ref 151, Value.ref 153, Value.ref 154, Value.ref 155, Value.ref 156, Value.ref 157, Value.int (-16384), Value.int 16384, Value.int 0, Value.int 0, Value.int 0, Value.ref 158, Value.ref 159, Value.int 0, Value.int 0, Value.int 0, Value.int 0, Value.int 0, Value.int 0, Value.int 0, Value.int 0]))) (c0 : 0 ≤ (xs 1).toInt) (c1 : (xs 1).toInt < 16) (c2 : (-40000) ≤ (xs 4).toInt) (c3 : (xs 4).toInt ≤ 40000) (c4 : 0 ≤ (xs 5).toInt) (c5 : (xs 5).toInt ≤ 4) (c6 : (lg_cmp (xvv xs) (0 : Int64)).toInt ≠ 0) (c7 : 0 ≤ (lg_cmp (xvv xs) (0 : Int64)).toInt) (c8 : K.toInt = 64 - B.toInt) (c9 : 31 ≤ B.toInt) (c10 : B.toInt ≤ 32) (c11 : (xhi (xvv xs)).toInt = 0) (c12 : (xlo (xvv xs)).toInt ≠ 0) (c13 : (xnlz (xlo (xvv xs))).toInt = 32 - B.toInt) (c14 : (xbf 1 (xlo (xvv xs)) (0 : Int32) ((32 : Int32) - K)).toInt ≠ 0) (c15 : (lg_cmp (xvv xs) (0 : Int64)).toInt ≠ 0) (c16 : (lg_cmp (xqs (xvv xs)) (0 : Int64)).toInt ≠ 0) (c17 : (lg_cmp (xqs (xqs (xvv xs))) (0 : Int64)).toInt = 0) (c18 : (xbn (xq (xqs (xvv xs)))).toInt = B.toInt - 30) (c19 : (xq (xqs (xvv xs))).toInt ≠ 0) (c20 : 0 ≤ (xq (xqs (xvv xs))).toInt) (c21 : K.toInt ≠ 0) (c22 : K / (30 : Int32) = 1) (c23 : K - K / (30 : Int32) * (30 : Int32) = P) (c24 : ((0 : Int32) ||| (xH (xq (xqs (xvv xs))) P)).toInt = 0) (c25 : ((xL (xq (xqs (xvv xs))) P) ||| (xH (xq (xvv xs)) P)).toInt ≠ 0) (c26 : 0 ≤ ((xL (xq (xqs (xvv xs))) P) ||| (xH (xq (xvv xs)) P)).toInt) (c27 : (xbn ((xL (xq (xqs (xvv xs))) P) ||| (xH (xq (xvv xs)) P))).toInt = 4) (c28 : G.toInt = B.toInt - 31) (hr : xRun (d + 6) 180 [Value.ref 128, Value.int (xs 1), Value.ref 129, Value.int (xs 4), Value.int 0, Value.int 0, Value.int (xs 5)] (((((w.set 129 (Sum.inr (13, [Value.ref 130, Value.int 0]))).set 130 (Sum.inl (0, 4700, xup (fun _ => Value.int 0) (0 : Int32).toInt.toNat (Value.int (xq (xvv xs)))))).set 129 (Sum.inr (13, [Value.ref 130, Value.int 1]))).set 130 (Sum.inl (0, 4700, xup (xup (fun _ => Value.int 0) (0 : Int32).toInt.toNat (Value.int (xq (xvv xs)))) (1 : Int32).toInt.toNat (Value.int (xq (xqs (xvv xs))))))).set 129 (Sum.inr (13, [Value.ref 130, Value.int 2]))) (.inl (some (Value.int b))) w2) : xRun (d + 7) 177 [Value.ref 128, Value.int (xs 1), Value.long (xvv xs), Value.int (xs 4), Value.int (xs 5)] w (.inl (some (Value.int b))) w2 := by
  refine xRun.of ?_
  refine i_177_0 (x := (xs 1)) rfl ?_
  refine i_177_1 (Nat.le_of_ble_eq_true rfl) (s_168_0 (by omega) (by omega)) ?_
  refine i_177_4 (x := (xs 4)) rfl ?_
  refine i_177_6 ?_
  refine i_177_8 ?_
  refine i_177_10 (Nat.le_of_ble_eq_true rfl) (s_169_1 (by omega) (by omega)) ?_
  refine i_177_13 (Nat.le_of_ble_eq_true rfl) (s_170_0) ?_
  refine i_177_16 (x := (xs 5)) rfl ?_
  refine i_177_18 (Nat.le_of_ble_eq_true rfl) (s_178_0 (by omega) (by omega)) ?_
  refine i_177_21 (x := (xvv xs)) rfl ?_
  refine i_177_22 ?_
  refine i_177_23 (c := (lg_cmp (xvv xs) (0 : Int64))) rfl ?_
  refine i_177_24 (fun _ => ?_) (fun h => absurd (show (lg_cmp (xvv xs) (0 : Int64)).toInt ≠ 0 by omega) (fun g => g h))
  refine i_177_35 (x := 128) rfl ?_
  refine i_177_36 (v := Value.ref 129) hm rfl ?_
  refine i_177_39 (x := (xvv xs)) rfl ?_
  refine i_177_40 ?_
  refine i_177_41 (c := (lg_cmp (xvv xs) (0 : Int64))) rfl ?_
  refine i_177_42 (fun _ => ?_) (fun h => absurd (show 0 ≤ (lg_cmp (xvv xs) (0 : Int64)).toInt by omega) (Int.not_le.mpr h))
  refine i_177_50 (x := (xvv xs)) rfl ?_
  refine i_177_51 ((hk 129 (by decide) (by decide)).trans W0_129) (Nat.le_of_ble_eq_true rfl) (s_179_4 ((hk 129 (by decide) (by decide)).trans W0_129) (by omega) ((hk 130 (by decide) (by decide)).trans W0_130) (by omega) (show (lg_cmp (xqs (xqs (xvv xs))) (0 : Int64)) = 0 from (xge_c (n := 0) (by omega) rfl))) ?_
  refine i_177_54 (x := 128) rfl ?_
  refine i_177_55 (x := (xs 1)) rfl ?_
  refine i_177_56 (x := 128) rfl ?_
  refine i_177_57 (v := Value.ref 129) (xgn (by decide) (xgn (by decide) (xgn (by decide) (xgn (by decide) (xgn (by decide) hm))))) rfl ?_
  refine i_177_60 (x := (xs 4)) rfl ?_
  refine i_177_62 ?_
  refine i_177_63 (x := (xvv xs)) rfl ?_
  refine i_177_64 ?_
  refine i_177_65 (c := (lg_cmp (xvv xs) (0 : Int64))) rfl ?_
  refine i_177_66 (fun _ => ?_) (fun h => absurd (show 0 ≤ (lg_cmp (xvv xs) (0 : Int64)).toInt by omega) (Int.not_le.mpr h))
  refine i_177_73 ?_
  refine i_177_74 (x := (xs 5)) rfl ?_
  refine i_177_76 (xgn (by decide) (xgn (by decide) (xgn (by decide) (xgn (by decide) (xgn (by decide) hm))))) (Nat.le_of_ble_eq_true rfl) hr ?_
  exact i_177_79 ⟨rfl, rfl⟩
theorem mn3_0_4 {d : Nat} {xs : Nat → Int32} {w w2 : xW} {b : Int32} {B K P G : Int32} (hk : ∀ h, 129 ≤ h → h < 194 → w[h]? = (W0 6 xs)[h]?) (hm : w[128]? = some (Sum.inr (12, [Value.ref 129, Value.ref 131, Value.ref 133, Value.ref 135, Value.ref 137, Value.ref 139, Value.ref 141, Value.ref 143, Value.ref 145, Value.ref 147, Value.ref 149, Value.ref 151, Value.ref 153, Value.ref 154, Value.ref 155, Value.ref 156, Value.ref 157, Value.int (-16384), Value.int 16384, Value.int 0, Value.int 0, Value.int 0, Value.ref 158, Value.ref 159, Value.int 0, Value.int 0, Value.int 0, Value.int 0, Value.int 0, Value.int 0, Value.int 0, Value.int 0]))) (c0 : 0 ≤ (xs 1).toInt) (c1 : (xs 1).toInt < 16) (c2 : (-40000) ≤ (xs 4).toInt) (c3 : (xs 4).toInt ≤ 40000) (c4 : 0 ≤ (xs 5).toInt) (c5 : (xs 5).toInt ≤ 4) (c6 : (lg_cmp (xvv xs) (0 : Int64)).toInt ≠ 0) (c7 : 0 ≤ (lg_cmp (xvv xs) (0 : Int64)).toInt) (c8 : K.toInt = 64 - B.toInt) (c9 : 33 ≤ B.toInt) (c10 : B.toInt ≤ 34) (c11 : (xhi (xvv xs)).toInt ≠ 0) (c12 : (xnlz (xhi (xvv xs))).toInt = 64 - B.toInt) (c13 : (xbf 2 (xlo (xvv xs)) (xhi (xvv xs)) ((32 : Int32) - K)).toInt ≠ 0) (c14 : (lg_cmp (xvv xs) (0 : Int64)).toInt ≠ 0) (c15 : (lg_cmp (xqs (xvv xs)) (0 : Int64)).toInt ≠ 0) (c16 : (lg_cmp (xqs (xqs (xvv xs))) (0 : Int64)).toInt = 0) (c17 : (xbn (xq (xqs (xvv xs)))).toInt = B.toInt - 30) (c18 : (xq (xqs (xvv xs))).toInt ≠ 0) (c19 : 0 ≤ (xq (xqs (xvv xs))).toInt) (c20 : K.toInt ≠ 0) (c21 : K / (30 : Int32) = 1) (c22 : K - K / (30 : Int32) * (30 : Int32) = P) (c23 : ((0 : Int32) ||| (xH (xq (xqs (xvv xs))) P)).toInt = 0) (c24 : ((xL (xq (xqs (xvv xs))) P) ||| (xH (xq (xvv xs)) P)).toInt ≠ 0) (c25 : 0 ≤ ((xL (xq (xqs (xvv xs))) P) ||| (xH (xq (xvv xs)) P)).toInt) (c26 : (xbn ((xL (xq (xqs (xvv xs))) P) ||| (xH (xq (xvv xs)) P))).toInt = 4) (c27 : G.toInt = B.toInt - 31) (hr : xRun (d + 6) 180 [Value.ref 128, Value.int (xs 1), Value.ref 129, Value.int (xs 4), Value.int 0, Value.int 0, Value.int (xs 5)] (((((w.set 129 (Sum.inr (13, [Value.ref 130, Value.int 0]))).set 130 (Sum.inl (0, 4700, xup (fun _ => Value.int 0) (0 : Int32).toInt.toNat (Value.int (xq (xvv xs)))))).set 129 (Sum.inr (13, [Value.ref 130, Value.int 1]))).set 130 (Sum.inl (0, 4700, xup (xup (fun _ => Value.int 0) (0 : Int32).toInt.toNat (Value.int (xq (xvv xs)))) (1 : Int32).toInt.toNat (Value.int (xq (xqs (xvv xs))))))).set 129 (Sum.inr (13, [Value.ref 130, Value.int 2]))) (.inl (some (Value.int b))) w2) : xRun (d + 7) 177 [Value.ref 128, Value.int (xs 1), Value.long (xvv xs), Value.int (xs 4), Value.int (xs 5)] w (.inl (some (Value.int b))) w2 := by
  refine xRun.of ?_
  refine i_177_0 (x := (xs 1)) rfl ?_
  refine i_177_1 (Nat.le_of_ble_eq_true rfl) (s_168_0 (by omega) (by omega)) ?_
  refine i_177_4 (x := (xs 4)) rfl ?_
  refine i_177_6 ?_
  refine i_177_8 ?_
  refine i_177_10 (Nat.le_of_ble_eq_true rfl) (s_169_1 (by omega) (by omega)) ?_
  refine i_177_13 (Nat.le_of_ble_eq_true rfl) (s_170_0) ?_
  refine i_177_16 (x := (xs 5)) rfl ?_
  refine i_177_18 (Nat.le_of_ble_eq_true rfl) (s_178_0 (by omega) (by omega)) ?_
  refine i_177_21 (x := (xvv xs)) rfl ?_
  refine i_177_22 ?_
  refine i_177_23 (c := (lg_cmp (xvv xs) (0 : Int64))) rfl ?_
  refine i_177_24 (fun _ => ?_) (fun h => absurd (show (lg_cmp (xvv xs) (0 : Int64)).toInt ≠ 0 by omega) (fun g => g h))
  refine i_177_35 (x := 128) rfl ?_
  refine i_177_36 (v := Value.ref 129) hm rfl ?_
  refine i_177_39 (x := (xvv xs)) rfl ?_
  refine i_177_40 ?_
  refine i_177_41 (c := (lg_cmp (xvv xs) (0 : Int64))) rfl ?_
  refine i_177_42 (fun _ => ?_) (fun h => absurd (show 0 ≤ (lg_cmp (xvv xs) (0 : Int64)).toInt by omega) (Int.not_le.mpr h))
  refine i_177_50 (x := (xvv xs)) rfl ?_
  refine i_177_51 ((hk 129 (by decide) (by decide)).trans W0_129) (Nat.le_of_ble_eq_true rfl) (s_179_4 ((hk 129 (by decide) (by decide)).trans W0_129) (by omega) ((hk 130 (by decide) (by decide)).trans W0_130) (by omega) (show (lg_cmp (xqs (xqs (xvv xs))) (0 : Int64)) = 0 from (xge_c (n := 0) (by omega) rfl))) ?_
  refine i_177_54 (x := 128) rfl ?_
  refine i_177_55 (x := (xs 1)) rfl ?_
  refine i_177_56 (x := 128) rfl ?_
  refine i_177_57 (v := Value.ref 129) (xgn (by decide) (xgn (by decide) (xgn (by decide) (xgn (by decide) (xgn (by decide) hm))))) rfl ?_
  refine i_177_60 (x := (xs 4)) rfl ?_
  refine i_177_62 ?_
  refine i_177_63 (x := (xvv xs)) rfl ?_
  refine i_177_64 ?_
  refine i_177_65 (c := (lg_cmp (xvv xs) (0 : Int64))) rfl ?_
  refine i_177_66 (fun _ => ?_) (fun h => absurd (show 0 ≤ (lg_cmp (xvv xs) (0 : Int64)).toInt by omega) (Int.not_le.mpr h))
  refine i_177_73 ?_
  refine i_177_74 (x := (xs 5)) rfl ?_
  refine i_177_76 (xgn (by decide) (xgn (by decide) (xgn (by decide) (xgn (by decide) (xgn (by decide) hm))))) (Nat.le_of_ble_eq_true rfl) hr ?_
  exact i_177_79 ⟨rfl, rfl⟩
theorem mn3_0_5 {d : Nat} {xs : Nat → Int32} {w w2 : xW} {b : Int32} {B K P G : Int32} (hk : ∀ h, 129 ≤ h → h < 194 → w[h]? = (W0 6 xs)[h]?) (hm : w[128]? = some (Sum.inr (12, [Value.ref 129, Value.ref 131, Value.ref 133, Value.ref 135, Value.ref 137, Value.ref 139, Value.ref 141, Value.ref 143, Value.ref 145, Value.ref 147, Value.ref 149, Value.ref 151, Value.ref 153, Value.ref 154, Value.ref 155, Value.ref 156, Value.ref 157, Value.int (-16384), Value.int 16384, Value.int 0, Value.int 0, Value.int 0, Value.ref 158, Value.ref 159, Value.int 0, Value.int 0, Value.int 0, Value.int 0, Value.int 0, Value.int 0, Value.int 0, Value.int 0]))) (c0 : 0 ≤ (xs 1).toInt) (c1 : (xs 1).toInt < 16) (c2 : (-40000) ≤ (xs 4).toInt) (c3 : (xs 4).toInt ≤ 40000) (c4 : 0 ≤ (xs 5).toInt) (c5 : (xs 5).toInt ≤ 4) (c6 : (lg_cmp (xvv xs) (0 : Int64)).toInt ≠ 0) (c7 : 0 ≤ (lg_cmp (xvv xs) (0 : Int64)).toInt) (c8 : K.toInt = 64 - B.toInt) (c9 : 35 ≤ B.toInt) (c10 : B.toInt ≤ 60) (c11 : (xhi (xvv xs)).toInt ≠ 0) (c12 : (xnlz (xhi (xvv xs))).toInt = 64 - B.toInt) (c13 : (xbf 2 (xlo (xvv xs)) (xhi (xvv xs)) ((32 : Int32) - K)).toInt ≠ 0) (c14 : (lg_cmp (xvv xs) (0 : Int64)).toInt ≠ 0) (c15 : (lg_cmp (xqs (xvv xs)) (0 : Int64)).toInt ≠ 0) (c16 : (lg_cmp (xqs (xqs (xvv xs))) (0 : Int64)).toInt = 0) (c17 : (xbn (xq (xqs (xvv xs)))).toInt = B.toInt - 30) (c18 : (xq (xqs (xvv xs))).toInt ≠ 0) (c19 : 0 ≤ (xq (xqs (xvv xs))).toInt) (c20 : K.toInt ≠ 0) (c21 : K / (30 : Int32) = 0) (c22 : K - K / (30 : Int32) * (30 : Int32) = P) (c23 : ((0 : Int32) ||| (xH (xq (xqs (xvv xs))) P)).toInt ≠ 0) (c24 : 0 ≤ ((0 : Int32) ||| (xH (xq (xqs (xvv xs))) P)).toInt) (c25 : (xbn ((0 : Int32) ||| (xH (xq (xqs (xvv xs))) P))).toInt = 4) (c26 : G.toInt = B.toInt - 31) (hr : xRun (d + 6) 180 [Value.ref 128, Value.int (xs 1), Value.ref 129, Value.int (xs 4), Value.int 0, Value.int 0, Value.int (xs 5)] (((((w.set 129 (Sum.inr (13, [Value.ref 130, Value.int 0]))).set 130 (Sum.inl (0, 4700, xup (fun _ => Value.int 0) (0 : Int32).toInt.toNat (Value.int (xq (xvv xs)))))).set 129 (Sum.inr (13, [Value.ref 130, Value.int 1]))).set 130 (Sum.inl (0, 4700, xup (xup (fun _ => Value.int 0) (0 : Int32).toInt.toNat (Value.int (xq (xvv xs)))) (1 : Int32).toInt.toNat (Value.int (xq (xqs (xvv xs))))))).set 129 (Sum.inr (13, [Value.ref 130, Value.int 2]))) (.inl (some (Value.int b))) w2) : xRun (d + 7) 177 [Value.ref 128, Value.int (xs 1), Value.long (xvv xs), Value.int (xs 4), Value.int (xs 5)] w (.inl (some (Value.int b))) w2 := by
  refine xRun.of ?_
  refine i_177_0 (x := (xs 1)) rfl ?_
  refine i_177_1 (Nat.le_of_ble_eq_true rfl) (s_168_0 (by omega) (by omega)) ?_
  refine i_177_4 (x := (xs 4)) rfl ?_
  refine i_177_6 ?_
  refine i_177_8 ?_
  refine i_177_10 (Nat.le_of_ble_eq_true rfl) (s_169_1 (by omega) (by omega)) ?_
  refine i_177_13 (Nat.le_of_ble_eq_true rfl) (s_170_0) ?_
  refine i_177_16 (x := (xs 5)) rfl ?_
  refine i_177_18 (Nat.le_of_ble_eq_true rfl) (s_178_0 (by omega) (by omega)) ?_
  refine i_177_21 (x := (xvv xs)) rfl ?_
  refine i_177_22 ?_
  refine i_177_23 (c := (lg_cmp (xvv xs) (0 : Int64))) rfl ?_
  refine i_177_24 (fun _ => ?_) (fun h => absurd (show (lg_cmp (xvv xs) (0 : Int64)).toInt ≠ 0 by omega) (fun g => g h))
  refine i_177_35 (x := 128) rfl ?_
  refine i_177_36 (v := Value.ref 129) hm rfl ?_
  refine i_177_39 (x := (xvv xs)) rfl ?_
  refine i_177_40 ?_
  refine i_177_41 (c := (lg_cmp (xvv xs) (0 : Int64))) rfl ?_
  refine i_177_42 (fun _ => ?_) (fun h => absurd (show 0 ≤ (lg_cmp (xvv xs) (0 : Int64)).toInt by omega) (Int.not_le.mpr h))
  refine i_177_50 (x := (xvv xs)) rfl ?_
  refine i_177_51 ((hk 129 (by decide) (by decide)).trans W0_129) (Nat.le_of_ble_eq_true rfl) (s_179_4 ((hk 129 (by decide) (by decide)).trans W0_129) (by omega) ((hk 130 (by decide) (by decide)).trans W0_130) (by omega) (show (lg_cmp (xqs (xqs (xvv xs))) (0 : Int64)) = 0 from (xge_c (n := 0) (by omega) rfl))) ?_
  refine i_177_54 (x := 128) rfl ?_
  refine i_177_55 (x := (xs 1)) rfl ?_
  refine i_177_56 (x := 128) rfl ?_
  refine i_177_57 (v := Value.ref 129) (xgn (by decide) (xgn (by decide) (xgn (by decide) (xgn (by decide) (xgn (by decide) hm))))) rfl ?_
  refine i_177_60 (x := (xs 4)) rfl ?_
  refine i_177_62 ?_
  refine i_177_63 (x := (xvv xs)) rfl ?_
  refine i_177_64 ?_
  refine i_177_65 (c := (lg_cmp (xvv xs) (0 : Int64))) rfl ?_
  refine i_177_66 (fun _ => ?_) (fun h => absurd (show 0 ≤ (lg_cmp (xvv xs) (0 : Int64)).toInt by omega) (Int.not_le.mpr h))
  refine i_177_73 ?_
  refine i_177_74 (x := (xs 5)) rfl ?_
  refine i_177_76 (xgn (by decide) (xgn (by decide) (xgn (by decide) (xgn (by decide) (xgn (by decide) hm))))) (Nat.le_of_ble_eq_true rfl) hr ?_
  exact i_177_79 ⟨rfl, rfl⟩
theorem s_179_5 {d : Nat} {w : xW} {b0 : Int64} (hw0 : w[129]? = some (Sum.inr (13, [Value.ref 130, Value.int 0]))) (e1 : (lg_cmp b0 (0 : Int64)).toInt ≠ 0) (hw2 : w[130]? = some (Sum.inl (0, 4700, fun _ => Value.int 0))) (e3 : (lg_cmp (xqs b0) (0 : Int64)).toInt ≠ 0) (e4 : (lg_cmp (xqs (xqs b0)) (0 : Int64)).toInt ≠ 0) (hg5 : (lg_cmp (xqs (xqs (xqs b0))) (0 : Int64)) = 0) : xRun d 179 [Value.ref 129, Value.long b0] w (.inl none) (((((((w.set 129 (Sum.inr (13, [Value.ref 130, Value.int 0]))).set 130 (Sum.inl (0, 4700, xup (fun _ => Value.int 0) (0 : Int32).toInt.toNat (Value.int (xq b0))))).set 129 (Sum.inr (13, [Value.ref 130, Value.int 1]))).set 130 (Sum.inl (0, 4700, xup (xup (fun _ => Value.int 0) (0 : Int32).toInt.toNat (Value.int (xq b0))) (1 : Int32).toInt.toNat (Value.int (xq (xqs b0)))))).set 129 (Sum.inr (13, [Value.ref 130, Value.int 2]))).set 130 (Sum.inl (0, 4700, xup (xup (xup (fun _ => Value.int 0) (0 : Int32).toInt.toNat (Value.int (xq b0))) (1 : Int32).toInt.toNat (Value.int (xq (xqs b0)))) (2 : Int32).toInt.toNat (Value.int (xq (xqs (xqs b0))))))).set 129 (Sum.inr (13, [Value.ref 130, Value.int 3]))) := by
  refine xRun.of ?_
  refine i_179_0 (x := 129) rfl ?_
  refine i_179_1 ?_
  refine i_179_2 (fs2 := [Value.ref 130, Value.int 0]) hw0 (Nat.le_of_ble_eq_true rfl) rfl (by decide) ?_
  refine i_179_5 (x := b0) rfl ?_
  refine i_179_6 (lv2 := [(3, Value.long b0), (0, Value.ref 129), (1, Value.long b0)]) rfl ?_
  refine i_179_7 (x := b0) rfl ?_
  refine i_179_8 ?_
  refine i_179_9 (c := (lg_cmp b0 (0 : Int64))) rfl ?_
  refine i_179_10 (fun h => absurd e1 (fun g => g h)) (fun _ => ?_)
  refine i_179_13 (x := 129) rfl ?_
  refine i_179_14 (v := Value.ref 130) (xgs hw0) rfl ?_
  refine i_179_17 (x := 129) rfl ?_
  refine i_179_18 (v := Value.int 0) (xgs hw0) rfl ?_
  refine i_179_21 (x := b0) rfl ?_
  refine i_179_22 (c := (xlo b0)) rfl ?_
  refine i_179_23 ?_
  refine i_179_25 (c := (xq b0)) rfl ?_
  refine i_179_26 (v := Value.int (xq b0)) (xgn (by decide) hw2) (by decide) (by decide) (by decide) rfl ?_
  refine i_179_27 (x := 129) rfl ?_
  refine i_179_28 rfl ?_
  refine i_179_29 (v := Value.int 0) (xgn (by decide) (xgs hw0)) rfl ?_
  refine i_179_32 ?_
  refine i_179_33 (c := 1) (by decide) ?_
  refine i_179_34 (fs2 := [Value.ref 130, Value.int 1]) (xgn (by decide) (xgs hw0)) (Nat.le_of_ble_eq_true rfl) rfl (by decide) ?_
  refine i_179_37 (x := b0) rfl ?_
  refine i_179_38 ?_
  refine i_179_40 (c := (xqs b0)) rfl ?_
  refine i_179_41 (lv2 := [(3, Value.long (xqs b0)), (0, Value.ref 129), (1, Value.long b0)]) rfl ?_
  refine i_179_42 ?_
  refine i_179_7 (x := (xqs b0)) rfl ?_
  refine i_179_8 ?_
  refine i_179_9 (c := (lg_cmp (xqs b0) (0 : Int64))) rfl ?_
  refine i_179_10 (fun h => absurd e3 (fun g => g h)) (fun _ => ?_)
  refine i_179_13 (x := 129) rfl ?_
  refine i_179_14 (v := Value.ref 130) (xgs (xgn (by decide) (xgs hw0))) rfl ?_
  refine i_179_17 (x := 129) rfl ?_
  refine i_179_18 (v := Value.int 1) (xgs (xgn (by decide) (xgs hw0))) rfl ?_
  refine i_179_21 (x := (xqs b0)) rfl ?_
  refine i_179_22 (c := (xlo (xqs b0))) rfl ?_
  refine i_179_23 ?_
  refine i_179_25 (c := (xq (xqs b0))) rfl ?_
  refine i_179_26 (v := Value.int (xq (xqs b0))) (xgn (by decide) (xgs (xgn (by decide) hw2))) (by decide) (by decide) (by decide) rfl ?_
  refine i_179_27 (x := 129) rfl ?_
  refine i_179_28 rfl ?_
  refine i_179_29 (v := Value.int 1) (xgn (by decide) (xgs (xgn (by decide) (xgs hw0)))) rfl ?_
  refine i_179_32 ?_
  refine i_179_33 (c := 2) (by decide) ?_
  refine i_179_34 (fs2 := [Value.ref 130, Value.int 2]) (xgn (by decide) (xgs (xgn (by decide) (xgs hw0)))) (Nat.le_of_ble_eq_true rfl) rfl (by decide) ?_
  refine i_179_37 (x := (xqs b0)) rfl ?_
  refine i_179_38 ?_
  refine i_179_40 (c := (xqs (xqs b0))) rfl ?_
  refine i_179_41 (lv2 := [(3, Value.long (xqs (xqs b0))), (0, Value.ref 129), (1, Value.long b0)]) rfl ?_
  refine i_179_42 ?_
  refine i_179_7 (x := (xqs (xqs b0))) rfl ?_
  refine i_179_8 ?_
  refine i_179_9 (c := (lg_cmp (xqs (xqs b0)) (0 : Int64))) rfl ?_
  refine i_179_10 (fun h => absurd e4 (fun g => g h)) (fun _ => ?_)
  refine i_179_13 (x := 129) rfl ?_
  refine i_179_14 (v := Value.ref 130) (xgs (xgn (by decide) (xgs (xgn (by decide) (xgs hw0))))) rfl ?_
  refine i_179_17 (x := 129) rfl ?_
  refine i_179_18 (v := Value.int 2) (xgs (xgn (by decide) (xgs (xgn (by decide) (xgs hw0))))) rfl ?_
  refine i_179_21 (x := (xqs (xqs b0))) rfl ?_
  refine i_179_22 (c := (xlo (xqs (xqs b0)))) rfl ?_
  refine i_179_23 ?_
  refine i_179_25 (c := (xq (xqs (xqs b0)))) rfl ?_
  refine i_179_26 (v := Value.int (xq (xqs (xqs b0)))) (xgn (by decide) (xgs (xgn (by decide) (xgs (xgn (by decide) hw2))))) (by decide) (by decide) (by decide) rfl ?_
  refine i_179_27 (x := 129) rfl ?_
  refine i_179_28 rfl ?_
  refine i_179_29 (v := Value.int 2) (xgn (by decide) (xgs (xgn (by decide) (xgs (xgn (by decide) (xgs hw0)))))) rfl ?_
  refine i_179_32 ?_
  refine i_179_33 (c := 3) (by decide) ?_
  refine i_179_34 (fs2 := [Value.ref 130, Value.int 3]) (xgn (by decide) (xgs (xgn (by decide) (xgs (xgn (by decide) (xgs hw0)))))) (Nat.le_of_ble_eq_true rfl) rfl (by decide) ?_
  refine i_179_37 (x := (xqs (xqs b0))) rfl ?_
  refine i_179_38 ?_
  refine i_179_40 (c := (xqs (xqs (xqs b0)))) rfl ?_
  refine i_179_41 (lv2 := [(3, Value.long (xqs (xqs (xqs b0)))), (0, Value.ref 129), (1, Value.long b0)]) rfl ?_
  refine i_179_42 ?_
  refine i_179_7 (x := (xqs (xqs (xqs b0)))) rfl ?_
  refine i_179_8 ?_
  refine i_179_9 (c := 0) hg5 ?_
  refine i_179_10 (fun _ => ?_) (fun h => absurd h (by decide))
  exact i_179_45 ⟨rfl, rfl⟩
theorem mn3_0_6 {d : Nat} {xs : Nat → Int32} {w w2 : xW} {b : Int32} {B K P G : Int32} (hk : ∀ h, 129 ≤ h → h < 194 → w[h]? = (W0 6 xs)[h]?) (hm : w[128]? = some (Sum.inr (12, [Value.ref 129, Value.ref 131, Value.ref 133, Value.ref 135, Value.ref 137, Value.ref 139, Value.ref 141, Value.ref 143, Value.ref 145, Value.ref 147, Value.ref 149, Value.ref 151, Value.ref 153, Value.ref 154, Value.ref 155, Value.ref 156, Value.ref 157, Value.int (-16384), Value.int 16384, Value.int 0, Value.int 0, Value.int 0, Value.ref 158, Value.ref 159, Value.int 0, Value.int 0, Value.int 0, Value.int 0, Value.int 0, Value.int 0, Value.int 0, Value.int 0]))) (c0 : 0 ≤ (xs 1).toInt) (c1 : (xs 1).toInt < 16) (c2 : (-40000) ≤ (xs 4).toInt) (c3 : (xs 4).toInt ≤ 40000) (c4 : 0 ≤ (xs 5).toInt) (c5 : (xs 5).toInt ≤ 4) (c6 : (lg_cmp (xvv xs) (0 : Int64)).toInt ≠ 0) (c7 : 0 ≤ (lg_cmp (xvv xs) (0 : Int64)).toInt) (c8 : K.toInt = 64 - B.toInt) (c9 : 61 ≤ B.toInt) (c10 : B.toInt ≤ 63) (c11 : (xhi (xvv xs)).toInt ≠ 0) (c12 : (xnlz (xhi (xvv xs))).toInt = 64 - B.toInt) (c13 : (xbf 2 (xlo (xvv xs)) (xhi (xvv xs)) ((32 : Int32) - K)).toInt ≠ 0) (c14 : (lg_cmp (xvv xs) (0 : Int64)).toInt ≠ 0) (c15 : (lg_cmp (xqs (xvv xs)) (0 : Int64)).toInt ≠ 0) (c16 : (lg_cmp (xqs (xqs (xvv xs))) (0 : Int64)).toInt ≠ 0) (c17 : (lg_cmp (xqs (xqs (xqs (xvv xs)))) (0 : Int64)).toInt = 0) (c18 : (xbn (xq (xqs (xqs (xvv xs))))).toInt = B.toInt - 60) (c19 : (xq (xqs (xqs (xvv xs)))).toInt ≠ 0) (c20 : 0 ≤ (xq (xqs (xqs (xvv xs)))).toInt) (c21 : K.toInt ≠ 0) (c22 : K / (30 : Int32) = 0) (c23 : K - K / (30 : Int32) * (30 : Int32) = P) (c24 : ((0 : Int32) ||| (xH (xq (xqs (xqs (xvv xs)))) P)).toInt = 0) (c25 : ((xL (xq (xqs (xqs (xvv xs)))) P) ||| (xH (xq (xqs (xvv xs))) P)).toInt ≠ 0) (c26 : 0 ≤ ((xL (xq (xqs (xqs (xvv xs)))) P) ||| (xH (xq (xqs (xvv xs))) P)).toInt) (c27 : (xbn ((xL (xq (xqs (xqs (xvv xs)))) P) ||| (xH (xq (xqs (xvv xs))) P))).toInt = 4) (c28 : G.toInt = B.toInt - 61) (hr : xRun (d + 6) 180 [Value.ref 128, Value.int (xs 1), Value.ref 129, Value.int (xs 4), Value.int 0, Value.int 0, Value.int (xs 5)] (((((((w.set 129 (Sum.inr (13, [Value.ref 130, Value.int 0]))).set 130 (Sum.inl (0, 4700, xup (fun _ => Value.int 0) (0 : Int32).toInt.toNat (Value.int (xq (xvv xs)))))).set 129 (Sum.inr (13, [Value.ref 130, Value.int 1]))).set 130 (Sum.inl (0, 4700, xup (xup (fun _ => Value.int 0) (0 : Int32).toInt.toNat (Value.int (xq (xvv xs)))) (1 : Int32).toInt.toNat (Value.int (xq (xqs (xvv xs))))))).set 129 (Sum.inr (13, [Value.ref 130, Value.int 2]))).set 130 (Sum.inl (0, 4700, xup (xup (xup (fun _ => Value.int 0) (0 : Int32).toInt.toNat (Value.int (xq (xvv xs)))) (1 : Int32).toInt.toNat (Value.int (xq (xqs (xvv xs))))) (2 : Int32).toInt.toNat (Value.int (xq (xqs (xqs (xvv xs)))))))).set 129 (Sum.inr (13, [Value.ref 130, Value.int 3]))) (.inl (some (Value.int b))) w2) : xRun (d + 7) 177 [Value.ref 128, Value.int (xs 1), Value.long (xvv xs), Value.int (xs 4), Value.int (xs 5)] w (.inl (some (Value.int b))) w2 := by
  refine xRun.of ?_
  refine i_177_0 (x := (xs 1)) rfl ?_
  refine i_177_1 (Nat.le_of_ble_eq_true rfl) (s_168_0 (by omega) (by omega)) ?_
  refine i_177_4 (x := (xs 4)) rfl ?_
  refine i_177_6 ?_
  refine i_177_8 ?_
  refine i_177_10 (Nat.le_of_ble_eq_true rfl) (s_169_1 (by omega) (by omega)) ?_
  refine i_177_13 (Nat.le_of_ble_eq_true rfl) (s_170_0) ?_
  refine i_177_16 (x := (xs 5)) rfl ?_
  refine i_177_18 (Nat.le_of_ble_eq_true rfl) (s_178_0 (by omega) (by omega)) ?_
  refine i_177_21 (x := (xvv xs)) rfl ?_
  refine i_177_22 ?_
  refine i_177_23 (c := (lg_cmp (xvv xs) (0 : Int64))) rfl ?_
  refine i_177_24 (fun _ => ?_) (fun h => absurd (show (lg_cmp (xvv xs) (0 : Int64)).toInt ≠ 0 by omega) (fun g => g h))
  refine i_177_35 (x := 128) rfl ?_
  refine i_177_36 (v := Value.ref 129) hm rfl ?_
  refine i_177_39 (x := (xvv xs)) rfl ?_
  refine i_177_40 ?_
  refine i_177_41 (c := (lg_cmp (xvv xs) (0 : Int64))) rfl ?_
  refine i_177_42 (fun _ => ?_) (fun h => absurd (show 0 ≤ (lg_cmp (xvv xs) (0 : Int64)).toInt by omega) (Int.not_le.mpr h))
  refine i_177_50 (x := (xvv xs)) rfl ?_
  refine i_177_51 ((hk 129 (by decide) (by decide)).trans W0_129) (Nat.le_of_ble_eq_true rfl) (s_179_5 ((hk 129 (by decide) (by decide)).trans W0_129) (by omega) ((hk 130 (by decide) (by decide)).trans W0_130) (by omega) (by omega) (show (lg_cmp (xqs (xqs (xqs (xvv xs)))) (0 : Int64)) = 0 from (xge_c (n := 0) (by omega) rfl))) ?_
  refine i_177_54 (x := 128) rfl ?_
  refine i_177_55 (x := (xs 1)) rfl ?_
  refine i_177_56 (x := 128) rfl ?_
  refine i_177_57 (v := Value.ref 129) (xgn (by decide) (xgn (by decide) (xgn (by decide) (xgn (by decide) (xgn (by decide) (xgn (by decide) (xgn (by decide) hm))))))) rfl ?_
  refine i_177_60 (x := (xs 4)) rfl ?_
  refine i_177_62 ?_
  refine i_177_63 (x := (xvv xs)) rfl ?_
  refine i_177_64 ?_
  refine i_177_65 (c := (lg_cmp (xvv xs) (0 : Int64))) rfl ?_
  refine i_177_66 (fun _ => ?_) (fun h => absurd (show 0 ≤ (lg_cmp (xvv xs) (0 : Int64)).toInt by omega) (Int.not_le.mpr h))
  refine i_177_73 ?_
  refine i_177_74 (x := (xs 5)) rfl ?_
  refine i_177_76 (xgn (by decide) (xgn (by decide) (xgn (by decide) (xgn (by decide) (xgn (by decide) (xgn (by decide) (xgn (by decide) hm))))))) (Nat.le_of_ble_eq_true rfl) hr ?_
  exact i_177_79 ⟨rfl, rfl⟩
theorem mn3_0_7 {d : Nat} {xs : Nat → Int32} {w w2 : xW} {b : Int32} {B K G : Int32} (hk : ∀ h, 129 ≤ h → h < 194 → w[h]? = (W0 6 xs)[h]?) (hm : w[128]? = some (Sum.inr (12, [Value.ref 129, Value.ref 131, Value.ref 133, Value.ref 135, Value.ref 137, Value.ref 139, Value.ref 141, Value.ref 143, Value.ref 145, Value.ref 147, Value.ref 149, Value.ref 151, Value.ref 153, Value.ref 154, Value.ref 155, Value.ref 156, Value.ref 157, Value.int (-16384), Value.int 16384, Value.int 0, Value.int 0, Value.int 0, Value.ref 158, Value.ref 159, Value.int 0, Value.int 0, Value.int 0, Value.int 0, Value.int 0, Value.int 0, Value.int 0, Value.int 0]))) (c0 : 0 ≤ (xs 1).toInt) (c1 : (xs 1).toInt < 16) (c2 : (-40000) ≤ (xs 4).toInt) (c3 : (xs 4).toInt ≤ 40000) (c4 : 0 ≤ (xs 5).toInt) (c5 : (xs 5).toInt ≤ 4) (c6 : (lg_cmp (xvv xs) (0 : Int64)).toInt ≠ 0) (c7 : 0 ≤ (lg_cmp (xvv xs) (0 : Int64)).toInt) (c8 : K.toInt = 64 - B.toInt) (c9 : 64 ≤ B.toInt) (c10 : B.toInt ≤ 64) (c11 : (xhi (xvv xs)).toInt ≠ 0) (c12 : (xnlz (xhi (xvv xs))).toInt = 64 - B.toInt) (c13 : (xbf 2 (xlo (xvv xs)) (xhi (xvv xs)) ((32 : Int32) - K)).toInt ≠ 0) (c14 : (lg_cmp (xvv xs) (0 : Int64)).toInt ≠ 0) (c15 : (lg_cmp (xqs (xvv xs)) (0 : Int64)).toInt ≠ 0) (c16 : (lg_cmp (xqs (xqs (xvv xs))) (0 : Int64)).toInt ≠ 0) (c17 : (lg_cmp (xqs (xqs (xqs (xvv xs)))) (0 : Int64)).toInt = 0) (c18 : (xbn (xq (xqs (xqs (xvv xs))))).toInt = B.toInt - 60) (c19 : (xq (xqs (xqs (xvv xs)))).toInt ≠ 0) (c20 : 0 ≤ (xq (xqs (xqs (xvv xs)))).toInt) (c21 : K.toInt = 0) (c22 : (xbn (xq (xqs (xqs (xvv xs))))).toInt = 4) (c23 : G.toInt = B.toInt - 61) (hr : xRun (d + 6) 180 [Value.ref 128, Value.int (xs 1), Value.ref 129, Value.int (xs 4), Value.int 0, Value.int 0, Value.int (xs 5)] (((((((w.set 129 (Sum.inr (13, [Value.ref 130, Value.int 0]))).set 130 (Sum.inl (0, 4700, xup (fun _ => Value.int 0) (0 : Int32).toInt.toNat (Value.int (xq (xvv xs)))))).set 129 (Sum.inr (13, [Value.ref 130, Value.int 1]))).set 130 (Sum.inl (0, 4700, xup (xup (fun _ => Value.int 0) (0 : Int32).toInt.toNat (Value.int (xq (xvv xs)))) (1 : Int32).toInt.toNat (Value.int (xq (xqs (xvv xs))))))).set 129 (Sum.inr (13, [Value.ref 130, Value.int 2]))).set 130 (Sum.inl (0, 4700, xup (xup (xup (fun _ => Value.int 0) (0 : Int32).toInt.toNat (Value.int (xq (xvv xs)))) (1 : Int32).toInt.toNat (Value.int (xq (xqs (xvv xs))))) (2 : Int32).toInt.toNat (Value.int (xq (xqs (xqs (xvv xs)))))))).set 129 (Sum.inr (13, [Value.ref 130, Value.int 3]))) (.inl (some (Value.int b))) w2) : xRun (d + 7) 177 [Value.ref 128, Value.int (xs 1), Value.long (xvv xs), Value.int (xs 4), Value.int (xs 5)] w (.inl (some (Value.int b))) w2 := by
  refine xRun.of ?_
  refine i_177_0 (x := (xs 1)) rfl ?_
  refine i_177_1 (Nat.le_of_ble_eq_true rfl) (s_168_0 (by omega) (by omega)) ?_
  refine i_177_4 (x := (xs 4)) rfl ?_
  refine i_177_6 ?_
  refine i_177_8 ?_
  refine i_177_10 (Nat.le_of_ble_eq_true rfl) (s_169_1 (by omega) (by omega)) ?_
  refine i_177_13 (Nat.le_of_ble_eq_true rfl) (s_170_0) ?_
  refine i_177_16 (x := (xs 5)) rfl ?_
  refine i_177_18 (Nat.le_of_ble_eq_true rfl) (s_178_0 (by omega) (by omega)) ?_
  refine i_177_21 (x := (xvv xs)) rfl ?_
  refine i_177_22 ?_
  refine i_177_23 (c := (lg_cmp (xvv xs) (0 : Int64))) rfl ?_
  refine i_177_24 (fun _ => ?_) (fun h => absurd (show (lg_cmp (xvv xs) (0 : Int64)).toInt ≠ 0 by omega) (fun g => g h))
  refine i_177_35 (x := 128) rfl ?_
  refine i_177_36 (v := Value.ref 129) hm rfl ?_
  refine i_177_39 (x := (xvv xs)) rfl ?_
  refine i_177_40 ?_
  refine i_177_41 (c := (lg_cmp (xvv xs) (0 : Int64))) rfl ?_
  refine i_177_42 (fun _ => ?_) (fun h => absurd (show 0 ≤ (lg_cmp (xvv xs) (0 : Int64)).toInt by omega) (Int.not_le.mpr h))
  refine i_177_50 (x := (xvv xs)) rfl ?_
  refine i_177_51 ((hk 129 (by decide) (by decide)).trans W0_129) (Nat.le_of_ble_eq_true rfl) (s_179_5 ((hk 129 (by decide) (by decide)).trans W0_129) (by omega) ((hk 130 (by decide) (by decide)).trans W0_130) (by omega) (by omega) (show (lg_cmp (xqs (xqs (xqs (xvv xs)))) (0 : Int64)) = 0 from (xge_c (n := 0) (by omega) rfl))) ?_
  refine i_177_54 (x := 128) rfl ?_
  refine i_177_55 (x := (xs 1)) rfl ?_
  refine i_177_56 (x := 128) rfl ?_
  refine i_177_57 (v := Value.ref 129) (xgn (by decide) (xgn (by decide) (xgn (by decide) (xgn (by decide) (xgn (by decide) (xgn (by decide) (xgn (by decide) hm))))))) rfl ?_
  refine i_177_60 (x := (xs 4)) rfl ?_
  refine i_177_62 ?_
  refine i_177_63 (x := (xvv xs)) rfl ?_
  refine i_177_64 ?_
  refine i_177_65 (c := (lg_cmp (xvv xs) (0 : Int64))) rfl ?_
  refine i_177_66 (fun _ => ?_) (fun h => absurd (show 0 ≤ (lg_cmp (xvv xs) (0 : Int64)).toInt by omega) (Int.not_le.mpr h))
  refine i_177_73 ?_
  refine i_177_74 (x := (xs 5)) rfl ?_
  refine i_177_76 (xgn (by decide) (xgn (by decide) (xgn (by decide) (xgn (by decide) (xgn (by decide) (xgn (by decide) (xgn (by decide) hm))))))) (Nat.le_of_ble_eq_true rfl) hr ?_
  exact i_177_79 ⟨rfl, rfl⟩
theorem mdl3_0 {d : Nat} {xs : Nat → Int32} {w1 : xW} (k1 : xKp (W0 6 xs) w1 xPC) (c0 : 0 ≤ (xs 1).toInt) (c1 : (xs 1).toInt < 16) (c2 : (-40000) ≤ (xs 4).toInt) (c3 : (xs 4).toInt ≤ 40000) (c4 : 0 ≤ (xs 5).toInt) (c5 : (xs 5).toInt ≤ 4) (c6 : (lg_cmp (xvv xs) (0 : Int64)).toInt ≠ 0) (c7 : 0 ≤ (lg_cmp (xvv xs) (0 : Int64)).toInt) : ∃ w2, xRun (d + 8) 176 [Value.ref 128, Value.int (xs 1), Value.long (xvv xs), Value.int (xs 4), Value.int (xs 5)] w1 (.inl (some (Value.int (xres 0 (xvv xs) (xs 4) (xs 5))))) w2 ∧ xKp w1 w2 xPM ∧ ∃ f, w2[128]? = some (xmo f) := by
  have hk1 : ∀ h, 128 ≤ h → h ≠ 194 → w1[h]? = (W0 6 xs)[h]? := fun h h1 h2 => k1.1 h (Or.inl ⟨h1, h2⟩)
  have hm1 : w1[128]? = some (Sum.inr (12, [Value.ref 129, Value.ref 131, Value.ref 133, Value.ref 135, Value.ref 137, Value.ref 139, Value.ref 141, Value.ref 143, Value.ref 145, Value.ref 147, Value.ref 149, Value.ref 151, Value.ref 153, Value.ref 154, Value.ref 155, Value.ref 156, Value.ref 157, Value.int (-16384), Value.int 16384, Value.int 0, Value.int 0, Value.int 0, Value.ref 158, Value.ref 159, Value.int 0, Value.int 0, Value.int 0, Value.int 0, Value.int 0, Value.int 0, Value.int 0, Value.int 0])) := (hk1 128 (by decide) (by decide)).trans W0_128
  have hk : ∀ h, 129 ≤ h → h < 194 → (w1.set 128 (Sum.inr (12, [Value.ref 129, Value.ref 131, Value.ref 133, Value.ref 135, Value.ref 137, Value.ref 139, Value.ref 141, Value.ref 143, Value.ref 145, Value.ref 147, Value.ref 149, Value.ref 151, Value.ref 153, Value.ref 154, Value.ref 155, Value.ref 156, Value.ref 157, Value.int (-16384), Value.int 16384, Value.int 0, Value.int 0, Value.int 0, Value.ref 158, Value.ref 159, Value.int 0, Value.int 0, Value.int 0, Value.int 0, Value.int 0, Value.int 0, Value.int 0, Value.int 0])))[h]? = (W0 6 xs)[h]? := fun h h1 h2 => (xgn (by omega) rfl).trans (hk1 h (by omega) (by omega))
  have hm : (w1.set 128 (Sum.inr (12, [Value.ref 129, Value.ref 131, Value.ref 133, Value.ref 135, Value.ref 137, Value.ref 139, Value.ref 141, Value.ref 143, Value.ref 145, Value.ref 147, Value.ref 149, Value.ref 151, Value.ref 153, Value.ref 154, Value.ref 155, Value.ref 156, Value.ref 157, Value.int (-16384), Value.int 16384, Value.int 0, Value.int 0, Value.int 0, Value.ref 158, Value.ref 159, Value.int 0, Value.int 0, Value.int 0, Value.int 0, Value.int 0, Value.int 0, Value.int 0, Value.int 0])))[128]? = some (Sum.inr (12, [Value.ref 129, Value.ref 131, Value.ref 133, Value.ref 135, Value.ref 137, Value.ref 139, Value.ref 141, Value.ref 143, Value.ref 145, Value.ref 147, Value.ref 149, Value.ref 151, Value.ref 153, Value.ref 154, Value.ref 155, Value.ref 156, Value.ref 157, Value.int (-16384), Value.int 16384, Value.int 0, Value.int 0, Value.int 0, Value.ref 158, Value.ref 159, Value.int 0, Value.int 0, Value.int 0, Value.int 0, Value.int 0, Value.int 0, Value.int 0, Value.int 0])) := xgs hm1
  obtain ⟨B, K, P, G, hB, c8, hr⟩ := xreg (m := (xvv xs)) (xnm_p c6)
  rcases hr with ⟨c9, c10, c11, c12, c13, c14, c15, c16, c17, c18, c19, c20, c21, c22, c23, c24, c25, c26, c27⟩ | ⟨c9, c10, c11, c12, c13, c14, c15, c16, c17, c18, c19, c20, c21, c22, c23, c24, c25, c26⟩ | ⟨c9, c10, c11, c12, c13, c14, c15, c16, c17, c18, c19, c20, c21, c22, c23, c24, c25, c26, c27, c28⟩ | ⟨c9, c10, c11, c12, c13, c14, c15, c16, c17, c18, c19, c20, c21, c22, c23, c24, c25, c26, c27⟩ | ⟨c9, c10, c11, c12, c13, c14, c15, c16, c17, c18, c19, c20, c21, c22, c23, c24, c25, c26⟩ | ⟨c9, c10, c11, c12, c13, c14, c15, c16, c17, c18, c19, c20, c21, c22, c23, c24, c25, c26, c27, c28⟩ | ⟨c9, c10, c11, c12, c13, c14, c15, c16, c17, c18, c19, c20, c21, c22, c23⟩
  · obtain ⟨w2, h1, h2, h3⟩ := rd1_0 (d := d) (xs := xs) (m := (xvv xs)) (sc := (xs 4)) (md := (xs 5)) (w := ((((w1.set 128 (Sum.inr (12, [Value.ref 129, Value.ref 131, Value.ref 133, Value.ref 135, Value.ref 137, Value.ref 139, Value.ref 141, Value.ref 143, Value.ref 145, Value.ref 147, Value.ref 149, Value.ref 151, Value.ref 153, Value.ref 154, Value.ref 155, Value.ref 156, Value.ref 157, Value.int (-16384), Value.int 16384, Value.int 0, Value.int 0, Value.int 0, Value.ref 158, Value.ref 159, Value.int 0, Value.int 0, Value.int 0, Value.int 0, Value.int 0, Value.int 0, Value.int 0, Value.int 0]))).set 129 (Sum.inr (13, [Value.ref 130, Value.int 0]))).set 130 (Sum.inl (0, 4700, xup (fun _ => Value.int 0) (0 : Int32).toInt.toNat (Value.int (xq (xvv xs)))))).set 129 (Sum.inr (13, [Value.ref 130, Value.int 1])))) (P := P) (fun h h1 h2 => (xgn (by omega) (xgn (by omega) (xgn (by omega) (rfl)))).trans (hk h (by omega) h2)) (xgn (by decide) (xgn (by decide) (xgn (by decide) hm))) (xgs (xgn (by decide) (xgs ((hk 129 (by decide) (by decide)).trans W0_129)))) (xgn (by decide) (xgs (xgn (by decide) (((hk 130 (by decide) (by decide)).trans W0_130))))) (xup_s) hB c0 c1 (by omega) (by omega) (by omega) (by omega) c8 c9 c10 c11 c12 c13 c14 c15 c16 c17 c18 c19 c20 c21 c22 c23 c24 c25 c26 c27
    refine ⟨w2, mnum3 hm1 (mn3_0_1 hk hm c0 c1 c2 c3 c4 c5 c6 c7 c8 c9 c10 c11 c12 c13 c14 c15 c16 c17 c18 c19 c20 c21 c22 c23 c24 c25 c26 c27 h1), xKp.trans ?_ h2, h3⟩
    refine xKp.set ?_ (fun h hh => by unfold xPM at hh; omega) (xgn (by decide) (xgs ((hk 129 (by decide) (by decide)).trans W0_129))) xcs_o
    refine xKp.set ?_ (fun h hh => by unfold xPM at hh; omega) (xgn (by decide) (((hk 130 (by decide) (by decide)).trans W0_130))) xcs_a
    refine xKp.set ?_ (fun h hh => by unfold xPM at hh; omega) (((hk 129 (by decide) (by decide)).trans W0_129)) xcs_o
    exact xKp.set xKp.refl (fun h hh => by unfold xPM at hh; omega) hm1 xcs_o
  · obtain ⟨w2, h1, h2, h3⟩ := rd2_0 (d := d) (xs := xs) (m := (xvv xs)) (sc := (xs 4)) (md := (xs 5)) (w := ((((w1.set 128 (Sum.inr (12, [Value.ref 129, Value.ref 131, Value.ref 133, Value.ref 135, Value.ref 137, Value.ref 139, Value.ref 141, Value.ref 143, Value.ref 145, Value.ref 147, Value.ref 149, Value.ref 151, Value.ref 153, Value.ref 154, Value.ref 155, Value.ref 156, Value.ref 157, Value.int (-16384), Value.int 16384, Value.int 0, Value.int 0, Value.int 0, Value.ref 158, Value.ref 159, Value.int 0, Value.int 0, Value.int 0, Value.int 0, Value.int 0, Value.int 0, Value.int 0, Value.int 0]))).set 129 (Sum.inr (13, [Value.ref 130, Value.int 0]))).set 130 (Sum.inl (0, 4700, xup (fun _ => Value.int 0) (0 : Int32).toInt.toNat (Value.int (xq (xvv xs)))))).set 129 (Sum.inr (13, [Value.ref 130, Value.int 1])))) (P := P) (fun h h1 h2 => (xgn (by omega) (xgn (by omega) (xgn (by omega) (rfl)))).trans (hk h (by omega) h2)) (xgn (by decide) (xgn (by decide) (xgn (by decide) hm))) (xgs (xgn (by decide) (xgs ((hk 129 (by decide) (by decide)).trans W0_129)))) (xgn (by decide) (xgs (xgn (by decide) (((hk 130 (by decide) (by decide)).trans W0_130))))) (xup_s) hB c0 c1 (by omega) (by omega) (by omega) (by omega) c8 c9 c10 c11 c12 c13 c14 c15 c16 c17 c18 c19 c20 c21 c22 c23 c24 c25 c26
    refine ⟨w2, mnum3 hm1 (mn3_0_2 hk hm c0 c1 c2 c3 c4 c5 c6 c7 c8 c9 c10 c11 c12 c13 c14 c15 c16 c17 c18 c19 c20 c21 c22 c23 c24 c25 c26 h1), xKp.trans ?_ h2, h3⟩
    refine xKp.set ?_ (fun h hh => by unfold xPM at hh; omega) (xgn (by decide) (xgs ((hk 129 (by decide) (by decide)).trans W0_129))) xcs_o
    refine xKp.set ?_ (fun h hh => by unfold xPM at hh; omega) (xgn (by decide) (((hk 130 (by decide) (by decide)).trans W0_130))) xcs_a
    refine xKp.set ?_ (fun h hh => by unfold xPM at hh; omega) (((hk 129 (by decide) (by decide)).trans W0_129)) xcs_o
    exact xKp.set xKp.refl (fun h hh => by unfold xPM at hh; omega) hm1 xcs_o
  · obtain ⟨w2, h1, h2, h3⟩ := rd3_0 (d := d) (xs := xs) (m := (xvv xs)) (sc := (xs 4)) (md := (xs 5)) (w := ((((((w1.set 128 (Sum.inr (12, [Value.ref 129, Value.ref 131, Value.ref 133, Value.ref 135, Value.ref 137, Value.ref 139, Value.ref 141, Value.ref 143, Value.ref 145, Value.ref 147, Value.ref 149, Value.ref 151, Value.ref 153, Value.ref 154, Value.ref 155, Value.ref 156, Value.ref 157, Value.int (-16384), Value.int 16384, Value.int 0, Value.int 0, Value.int 0, Value.ref 158, Value.ref 159, Value.int 0, Value.int 0, Value.int 0, Value.int 0, Value.int 0, Value.int 0, Value.int 0, Value.int 0]))).set 129 (Sum.inr (13, [Value.ref 130, Value.int 0]))).set 130 (Sum.inl (0, 4700, xup (fun _ => Value.int 0) (0 : Int32).toInt.toNat (Value.int (xq (xvv xs)))))).set 129 (Sum.inr (13, [Value.ref 130, Value.int 1]))).set 130 (Sum.inl (0, 4700, xup (xup (fun _ => Value.int 0) (0 : Int32).toInt.toNat (Value.int (xq (xvv xs)))) (1 : Int32).toInt.toNat (Value.int (xq (xqs (xvv xs))))))).set 129 (Sum.inr (13, [Value.ref 130, Value.int 2])))) (P := P) (fun h h1 h2 => (xgn (by omega) (xgn (by omega) (xgn (by omega) (xgn (by omega) (xgn (by omega) (rfl)))))).trans (hk h (by omega) h2)) (xgn (by decide) (xgn (by decide) (xgn (by decide) (xgn (by decide) (xgn (by decide) hm))))) (xgs (xgn (by decide) (xgs (xgn (by decide) (xgs ((hk 129 (by decide) (by decide)).trans W0_129)))))) (xgn (by decide) (xgs (xgn (by decide) (xgs (xgn (by decide) (((hk 130 (by decide) (by decide)).trans W0_130))))))) (xup_n (by decide) xup_s) (xup_s) hB c0 c1 (by omega) (by omega) (by omega) (by omega) c8 c9 c10 c11 c12 c13 c14 c15 c16 c17 c18 c19 c20 c21 c22 c23 c24 c25 c26 c27 c28
    refine ⟨w2, mnum3 hm1 (mn3_0_3 hk hm c0 c1 c2 c3 c4 c5 c6 c7 c8 c9 c10 c11 c12 c13 c14 c15 c16 c17 c18 c19 c20 c21 c22 c23 c24 c25 c26 c27 c28 h1), xKp.trans ?_ h2, h3⟩
    refine xKp.set ?_ (fun h hh => by unfold xPM at hh; omega) (xgn (by decide) (xgs (xgn (by decide) (xgs ((hk 129 (by decide) (by decide)).trans W0_129))))) xcs_o
    refine xKp.set ?_ (fun h hh => by unfold xPM at hh; omega) (xgn (by decide) (xgs (xgn (by decide) (((hk 130 (by decide) (by decide)).trans W0_130))))) xcs_a
    refine xKp.set ?_ (fun h hh => by unfold xPM at hh; omega) (xgn (by decide) (xgs ((hk 129 (by decide) (by decide)).trans W0_129))) xcs_o
    refine xKp.set ?_ (fun h hh => by unfold xPM at hh; omega) (xgn (by decide) (((hk 130 (by decide) (by decide)).trans W0_130))) xcs_a
    refine xKp.set ?_ (fun h hh => by unfold xPM at hh; omega) (((hk 129 (by decide) (by decide)).trans W0_129)) xcs_o
    exact xKp.set xKp.refl (fun h hh => by unfold xPM at hh; omega) hm1 xcs_o
  · obtain ⟨w2, h1, h2, h3⟩ := rd4_0 (d := d) (xs := xs) (m := (xvv xs)) (sc := (xs 4)) (md := (xs 5)) (w := ((((((w1.set 128 (Sum.inr (12, [Value.ref 129, Value.ref 131, Value.ref 133, Value.ref 135, Value.ref 137, Value.ref 139, Value.ref 141, Value.ref 143, Value.ref 145, Value.ref 147, Value.ref 149, Value.ref 151, Value.ref 153, Value.ref 154, Value.ref 155, Value.ref 156, Value.ref 157, Value.int (-16384), Value.int 16384, Value.int 0, Value.int 0, Value.int 0, Value.ref 158, Value.ref 159, Value.int 0, Value.int 0, Value.int 0, Value.int 0, Value.int 0, Value.int 0, Value.int 0, Value.int 0]))).set 129 (Sum.inr (13, [Value.ref 130, Value.int 0]))).set 130 (Sum.inl (0, 4700, xup (fun _ => Value.int 0) (0 : Int32).toInt.toNat (Value.int (xq (xvv xs)))))).set 129 (Sum.inr (13, [Value.ref 130, Value.int 1]))).set 130 (Sum.inl (0, 4700, xup (xup (fun _ => Value.int 0) (0 : Int32).toInt.toNat (Value.int (xq (xvv xs)))) (1 : Int32).toInt.toNat (Value.int (xq (xqs (xvv xs))))))).set 129 (Sum.inr (13, [Value.ref 130, Value.int 2])))) (P := P) (fun h h1 h2 => (xgn (by omega) (xgn (by omega) (xgn (by omega) (xgn (by omega) (xgn (by omega) (rfl)))))).trans (hk h (by omega) h2)) (xgn (by decide) (xgn (by decide) (xgn (by decide) (xgn (by decide) (xgn (by decide) hm))))) (xgs (xgn (by decide) (xgs (xgn (by decide) (xgs ((hk 129 (by decide) (by decide)).trans W0_129)))))) (xgn (by decide) (xgs (xgn (by decide) (xgs (xgn (by decide) (((hk 130 (by decide) (by decide)).trans W0_130))))))) (xup_n (by decide) xup_s) (xup_s) hB c0 c1 (by omega) (by omega) (by omega) (by omega) c8 c9 c10 c11 c12 c13 c14 c15 c16 c17 c18 c19 c20 c21 c22 c23 c24 c25 c26 c27
    refine ⟨w2, mnum3 hm1 (mn3_0_4 hk hm c0 c1 c2 c3 c4 c5 c6 c7 c8 c9 c10 c11 c12 c13 c14 c15 c16 c17 c18 c19 c20 c21 c22 c23 c24 c25 c26 c27 h1), xKp.trans ?_ h2, h3⟩
    refine xKp.set ?_ (fun h hh => by unfold xPM at hh; omega) (xgn (by decide) (xgs (xgn (by decide) (xgs ((hk 129 (by decide) (by decide)).trans W0_129))))) xcs_o
    refine xKp.set ?_ (fun h hh => by unfold xPM at hh; omega) (xgn (by decide) (xgs (xgn (by decide) (((hk 130 (by decide) (by decide)).trans W0_130))))) xcs_a
    refine xKp.set ?_ (fun h hh => by unfold xPM at hh; omega) (xgn (by decide) (xgs ((hk 129 (by decide) (by decide)).trans W0_129))) xcs_o
    refine xKp.set ?_ (fun h hh => by unfold xPM at hh; omega) (xgn (by decide) (((hk 130 (by decide) (by decide)).trans W0_130))) xcs_a
    refine xKp.set ?_ (fun h hh => by unfold xPM at hh; omega) (((hk 129 (by decide) (by decide)).trans W0_129)) xcs_o
    exact xKp.set xKp.refl (fun h hh => by unfold xPM at hh; omega) hm1 xcs_o
  · obtain ⟨w2, h1, h2, h3⟩ := rd5_0 (d := d) (xs := xs) (m := (xvv xs)) (sc := (xs 4)) (md := (xs 5)) (w := ((((((w1.set 128 (Sum.inr (12, [Value.ref 129, Value.ref 131, Value.ref 133, Value.ref 135, Value.ref 137, Value.ref 139, Value.ref 141, Value.ref 143, Value.ref 145, Value.ref 147, Value.ref 149, Value.ref 151, Value.ref 153, Value.ref 154, Value.ref 155, Value.ref 156, Value.ref 157, Value.int (-16384), Value.int 16384, Value.int 0, Value.int 0, Value.int 0, Value.ref 158, Value.ref 159, Value.int 0, Value.int 0, Value.int 0, Value.int 0, Value.int 0, Value.int 0, Value.int 0, Value.int 0]))).set 129 (Sum.inr (13, [Value.ref 130, Value.int 0]))).set 130 (Sum.inl (0, 4700, xup (fun _ => Value.int 0) (0 : Int32).toInt.toNat (Value.int (xq (xvv xs)))))).set 129 (Sum.inr (13, [Value.ref 130, Value.int 1]))).set 130 (Sum.inl (0, 4700, xup (xup (fun _ => Value.int 0) (0 : Int32).toInt.toNat (Value.int (xq (xvv xs)))) (1 : Int32).toInt.toNat (Value.int (xq (xqs (xvv xs))))))).set 129 (Sum.inr (13, [Value.ref 130, Value.int 2])))) (P := P) (fun h h1 h2 => (xgn (by omega) (xgn (by omega) (xgn (by omega) (xgn (by omega) (xgn (by omega) (rfl)))))).trans (hk h (by omega) h2)) (xgn (by decide) (xgn (by decide) (xgn (by decide) (xgn (by decide) (xgn (by decide) hm))))) (xgs (xgn (by decide) (xgs (xgn (by decide) (xgs ((hk 129 (by decide) (by decide)).trans W0_129)))))) (xgn (by decide) (xgs (xgn (by decide) (xgs (xgn (by decide) (((hk 130 (by decide) (by decide)).trans W0_130))))))) (xup_n (by decide) xup_s) (xup_s) hB c0 c1 (by omega) (by omega) (by omega) (by omega) c8 c9 c10 c11 c12 c13 c14 c15 c16 c17 c18 c19 c20 c21 c22 c23 c24 c25 c26
    refine ⟨w2, mnum3 hm1 (mn3_0_5 hk hm c0 c1 c2 c3 c4 c5 c6 c7 c8 c9 c10 c11 c12 c13 c14 c15 c16 c17 c18 c19 c20 c21 c22 c23 c24 c25 c26 h1), xKp.trans ?_ h2, h3⟩
    refine xKp.set ?_ (fun h hh => by unfold xPM at hh; omega) (xgn (by decide) (xgs (xgn (by decide) (xgs ((hk 129 (by decide) (by decide)).trans W0_129))))) xcs_o
    refine xKp.set ?_ (fun h hh => by unfold xPM at hh; omega) (xgn (by decide) (xgs (xgn (by decide) (((hk 130 (by decide) (by decide)).trans W0_130))))) xcs_a
    refine xKp.set ?_ (fun h hh => by unfold xPM at hh; omega) (xgn (by decide) (xgs ((hk 129 (by decide) (by decide)).trans W0_129))) xcs_o
    refine xKp.set ?_ (fun h hh => by unfold xPM at hh; omega) (xgn (by decide) (((hk 130 (by decide) (by decide)).trans W0_130))) xcs_a
    refine xKp.set ?_ (fun h hh => by unfold xPM at hh; omega) (((hk 129 (by decide) (by decide)).trans W0_129)) xcs_o
    exact xKp.set xKp.refl (fun h hh => by unfold xPM at hh; omega) hm1 xcs_o
  · obtain ⟨w2, h1, h2, h3⟩ := rd6_0 (d := d) (xs := xs) (m := (xvv xs)) (sc := (xs 4)) (md := (xs 5)) (w := ((((((((w1.set 128 (Sum.inr (12, [Value.ref 129, Value.ref 131, Value.ref 133, Value.ref 135, Value.ref 137, Value.ref 139, Value.ref 141, Value.ref 143, Value.ref 145, Value.ref 147, Value.ref 149, Value.ref 151, Value.ref 153, Value.ref 154, Value.ref 155, Value.ref 156, Value.ref 157, Value.int (-16384), Value.int 16384, Value.int 0, Value.int 0, Value.int 0, Value.ref 158, Value.ref 159, Value.int 0, Value.int 0, Value.int 0, Value.int 0, Value.int 0, Value.int 0, Value.int 0, Value.int 0]))).set 129 (Sum.inr (13, [Value.ref 130, Value.int 0]))).set 130 (Sum.inl (0, 4700, xup (fun _ => Value.int 0) (0 : Int32).toInt.toNat (Value.int (xq (xvv xs)))))).set 129 (Sum.inr (13, [Value.ref 130, Value.int 1]))).set 130 (Sum.inl (0, 4700, xup (xup (fun _ => Value.int 0) (0 : Int32).toInt.toNat (Value.int (xq (xvv xs)))) (1 : Int32).toInt.toNat (Value.int (xq (xqs (xvv xs))))))).set 129 (Sum.inr (13, [Value.ref 130, Value.int 2]))).set 130 (Sum.inl (0, 4700, xup (xup (xup (fun _ => Value.int 0) (0 : Int32).toInt.toNat (Value.int (xq (xvv xs)))) (1 : Int32).toInt.toNat (Value.int (xq (xqs (xvv xs))))) (2 : Int32).toInt.toNat (Value.int (xq (xqs (xqs (xvv xs)))))))).set 129 (Sum.inr (13, [Value.ref 130, Value.int 3])))) (P := P) (fun h h1 h2 => (xgn (by omega) (xgn (by omega) (xgn (by omega) (xgn (by omega) (xgn (by omega) (xgn (by omega) (xgn (by omega) (rfl)))))))).trans (hk h (by omega) h2)) (xgn (by decide) (xgn (by decide) (xgn (by decide) (xgn (by decide) (xgn (by decide) (xgn (by decide) (xgn (by decide) hm))))))) (xgs (xgn (by decide) (xgs (xgn (by decide) (xgs (xgn (by decide) (xgs ((hk 129 (by decide) (by decide)).trans W0_129)))))))) (xgn (by decide) (xgs (xgn (by decide) (xgs (xgn (by decide) (xgs (xgn (by decide) (((hk 130 (by decide) (by decide)).trans W0_130))))))))) (xup_n (by decide) (xup_n (by decide) xup_s)) (xup_n (by decide) xup_s) (xup_s) hB c0 c1 (by omega) (by omega) (by omega) (by omega) c8 c9 c10 c11 c12 c13 c14 c15 c16 c17 c18 c19 c20 c21 c22 c23 c24 c25 c26 c27 c28
    refine ⟨w2, mnum3 hm1 (mn3_0_6 hk hm c0 c1 c2 c3 c4 c5 c6 c7 c8 c9 c10 c11 c12 c13 c14 c15 c16 c17 c18 c19 c20 c21 c22 c23 c24 c25 c26 c27 c28 h1), xKp.trans ?_ h2, h3⟩
    refine xKp.set ?_ (fun h hh => by unfold xPM at hh; omega) (xgn (by decide) (xgs (xgn (by decide) (xgs (xgn (by decide) (xgs ((hk 129 (by decide) (by decide)).trans W0_129))))))) xcs_o
    refine xKp.set ?_ (fun h hh => by unfold xPM at hh; omega) (xgn (by decide) (xgs (xgn (by decide) (xgs (xgn (by decide) (((hk 130 (by decide) (by decide)).trans W0_130))))))) xcs_a
    refine xKp.set ?_ (fun h hh => by unfold xPM at hh; omega) (xgn (by decide) (xgs (xgn (by decide) (xgs ((hk 129 (by decide) (by decide)).trans W0_129))))) xcs_o
    refine xKp.set ?_ (fun h hh => by unfold xPM at hh; omega) (xgn (by decide) (xgs (xgn (by decide) (((hk 130 (by decide) (by decide)).trans W0_130))))) xcs_a
    refine xKp.set ?_ (fun h hh => by unfold xPM at hh; omega) (xgn (by decide) (xgs ((hk 129 (by decide) (by decide)).trans W0_129))) xcs_o
    refine xKp.set ?_ (fun h hh => by unfold xPM at hh; omega) (xgn (by decide) (((hk 130 (by decide) (by decide)).trans W0_130))) xcs_a
    refine xKp.set ?_ (fun h hh => by unfold xPM at hh; omega) (((hk 129 (by decide) (by decide)).trans W0_129)) xcs_o
    exact xKp.set xKp.refl (fun h hh => by unfold xPM at hh; omega) hm1 xcs_o
  · obtain ⟨w2, h1, h2, h3⟩ := rd7_0 (d := d) (xs := xs) (m := (xvv xs)) (sc := (xs 4)) (md := (xs 5)) (w := ((((((((w1.set 128 (Sum.inr (12, [Value.ref 129, Value.ref 131, Value.ref 133, Value.ref 135, Value.ref 137, Value.ref 139, Value.ref 141, Value.ref 143, Value.ref 145, Value.ref 147, Value.ref 149, Value.ref 151, Value.ref 153, Value.ref 154, Value.ref 155, Value.ref 156, Value.ref 157, Value.int (-16384), Value.int 16384, Value.int 0, Value.int 0, Value.int 0, Value.ref 158, Value.ref 159, Value.int 0, Value.int 0, Value.int 0, Value.int 0, Value.int 0, Value.int 0, Value.int 0, Value.int 0]))).set 129 (Sum.inr (13, [Value.ref 130, Value.int 0]))).set 130 (Sum.inl (0, 4700, xup (fun _ => Value.int 0) (0 : Int32).toInt.toNat (Value.int (xq (xvv xs)))))).set 129 (Sum.inr (13, [Value.ref 130, Value.int 1]))).set 130 (Sum.inl (0, 4700, xup (xup (fun _ => Value.int 0) (0 : Int32).toInt.toNat (Value.int (xq (xvv xs)))) (1 : Int32).toInt.toNat (Value.int (xq (xqs (xvv xs))))))).set 129 (Sum.inr (13, [Value.ref 130, Value.int 2]))).set 130 (Sum.inl (0, 4700, xup (xup (xup (fun _ => Value.int 0) (0 : Int32).toInt.toNat (Value.int (xq (xvv xs)))) (1 : Int32).toInt.toNat (Value.int (xq (xqs (xvv xs))))) (2 : Int32).toInt.toNat (Value.int (xq (xqs (xqs (xvv xs)))))))).set 129 (Sum.inr (13, [Value.ref 130, Value.int 3])))) (P := P) (fun h h1 h2 => (xgn (by omega) (xgn (by omega) (xgn (by omega) (xgn (by omega) (xgn (by omega) (xgn (by omega) (xgn (by omega) (rfl)))))))).trans (hk h (by omega) h2)) (xgn (by decide) (xgn (by decide) (xgn (by decide) (xgn (by decide) (xgn (by decide) (xgn (by decide) (xgn (by decide) hm))))))) (xgs (xgn (by decide) (xgs (xgn (by decide) (xgs (xgn (by decide) (xgs ((hk 129 (by decide) (by decide)).trans W0_129)))))))) (xgn (by decide) (xgs (xgn (by decide) (xgs (xgn (by decide) (xgs (xgn (by decide) (((hk 130 (by decide) (by decide)).trans W0_130))))))))) (xup_n (by decide) (xup_n (by decide) xup_s)) (xup_n (by decide) xup_s) (xup_s) hB c0 c1 (by omega) (by omega) (by omega) (by omega) c8 c9 c10 c11 c12 c13 c14 c15 c16 c17 c18 c19 c20 c21 c22 c23
    refine ⟨w2, mnum3 hm1 (mn3_0_7 hk hm c0 c1 c2 c3 c4 c5 c6 c7 c8 c9 c10 c11 c12 c13 c14 c15 c16 c17 c18 c19 c20 c21 c22 c23 h1), xKp.trans ?_ h2, h3⟩
    refine xKp.set ?_ (fun h hh => by unfold xPM at hh; omega) (xgn (by decide) (xgs (xgn (by decide) (xgs (xgn (by decide) (xgs ((hk 129 (by decide) (by decide)).trans W0_129))))))) xcs_o
    refine xKp.set ?_ (fun h hh => by unfold xPM at hh; omega) (xgn (by decide) (xgs (xgn (by decide) (xgs (xgn (by decide) (((hk 130 (by decide) (by decide)).trans W0_130))))))) xcs_a
    refine xKp.set ?_ (fun h hh => by unfold xPM at hh; omega) (xgn (by decide) (xgs (xgn (by decide) (xgs ((hk 129 (by decide) (by decide)).trans W0_129))))) xcs_o
    refine xKp.set ?_ (fun h hh => by unfold xPM at hh; omega) (xgn (by decide) (xgs (xgn (by decide) (((hk 130 (by decide) (by decide)).trans W0_130))))) xcs_a
    refine xKp.set ?_ (fun h hh => by unfold xPM at hh; omega) (xgn (by decide) (xgs ((hk 129 (by decide) (by decide)).trans W0_129))) xcs_o
    refine xKp.set ?_ (fun h hh => by unfold xPM at hh; omega) (xgn (by decide) (((hk 130 (by decide) (by decide)).trans W0_130))) xcs_a
    refine xKp.set ?_ (fun h hh => by unfold xPM at hh; omega) (((hk 129 (by decide) (by decide)).trans W0_129)) xcs_o
    exact xKp.set xKp.refl (fun h hh => by unfold xPM at hh; omega) hm1 xcs_o
theorem mn3_1_1 {d : Nat} {xs : Nat → Int32} {w w2 : xW} {b : Int32} {B K P G : Int32} (hk : ∀ h, 129 ≤ h → h < 194 → w[h]? = (W0 6 xs)[h]?) (hm : w[128]? = some (Sum.inr (12, [Value.ref 129, Value.ref 131, Value.ref 133, Value.ref 135, Value.ref 137, Value.ref 139, Value.ref 141, Value.ref 143, Value.ref 145, Value.ref 147, Value.ref 149, Value.ref 151, Value.ref 153, Value.ref 154, Value.ref 155, Value.ref 156, Value.ref 157, Value.int (-16384), Value.int 16384, Value.int 0, Value.int 0, Value.int 0, Value.ref 158, Value.ref 159, Value.int 0, Value.int 0, Value.int 0, Value.int 0, Value.int 0, Value.int 0, Value.int 0, Value.int 0]))) (c0 : 0 ≤ (xs 1).toInt) (c1 : (xs 1).toInt < 16) (c2 : (-40000) ≤ (xs 4).toInt) (c3 : (xs 4).toInt ≤ 40000) (c4 : 0 ≤ (xs 5).toInt) (c5 : (xs 5).toInt ≤ 4) (c6 : (lg_cmp (xvv xs) (0 : Int64)).toInt ≠ 0) (c7 : (lg_cmp (xvv xs) (0 : Int64)).toInt < 0) (c8 : K.toInt = 64 - B.toInt) (c9 : 1 ≤ B.toInt) (c10 : B.toInt ≤ 4) (c11 : (xhi (-(xvv xs))).toInt = 0) (c12 : (xlo (-(xvv xs))).toInt ≠ 0) (c13 : (xnlz (xlo (-(xvv xs)))).toInt = 32 - B.toInt) (c14 : (xbf 1 (xlo (-(xvv xs))) (0 : Int32) ((32 : Int32) - K)).toInt ≠ 0) (c15 : (lg_cmp (-(xvv xs)) (0 : Int64)).toInt ≠ 0) (c16 : (lg_cmp (xqs (-(xvv xs))) (0 : Int64)).toInt = 0) (c17 : (xbn (xq (-(xvv xs)))).toInt = B.toInt) (c18 : (xq (-(xvv xs))).toInt ≠ 0) (c19 : 0 ≤ (xq (-(xvv xs))).toInt) (c20 : K.toInt ≠ 0) (c21 : K / (30 : Int32) = 2) (c22 : K - K / (30 : Int32) * (30 : Int32) = P) (c23 : ((0 : Int32) ||| (xH (xq (-(xvv xs))) P)).toInt = 0) (c24 : (xL (xq (-(xvv xs))) P).toInt ≠ 0) (c25 : 0 ≤ (xL (xq (-(xvv xs))) P).toInt) (c26 : (xbn (xL (xq (-(xvv xs))) P)).toInt = 4) (c27 : G.toInt = B.toInt - 1) (hr : xRun (d + 6) 180 [Value.ref 128, Value.int (xs 1), Value.ref 129, Value.int (xs 4), Value.int 0, Value.int 1, Value.int (xs 5)] (((w.set 129 (Sum.inr (13, [Value.ref 130, Value.int 0]))).set 130 (Sum.inl (0, 4700, xup (fun _ => Value.int 0) (0 : Int32).toInt.toNat (Value.int (xq (-(xvv xs))))))).set 129 (Sum.inr (13, [Value.ref 130, Value.int 1]))) (.inl (some (Value.int b))) w2) : xRun (d + 7) 177 [Value.ref 128, Value.int (xs 1), Value.long (xvv xs), Value.int (xs 4), Value.int (xs 5)] w (.inl (some (Value.int b))) w2 := by
  refine xRun.of ?_
  refine i_177_0 (x := (xs 1)) rfl ?_
  refine i_177_1 (Nat.le_of_ble_eq_true rfl) (s_168_0 (by omega) (by omega)) ?_
  refine i_177_4 (x := (xs 4)) rfl ?_
  refine i_177_6 ?_
  refine i_177_8 ?_
  refine i_177_10 (Nat.le_of_ble_eq_true rfl) (s_169_1 (by omega) (by omega)) ?_
  refine i_177_13 (Nat.le_of_ble_eq_true rfl) (s_170_0) ?_
  refine i_177_16 (x := (xs 5)) rfl ?_
  refine i_177_18 (Nat.le_of_ble_eq_true rfl) (s_178_0 (by omega) (by omega)) ?_
  refine i_177_21 (x := (xvv xs)) rfl ?_
  refine i_177_22 ?_
  refine i_177_23 (c := (lg_cmp (xvv xs) (0 : Int64))) rfl ?_
  refine i_177_24 (fun _ => ?_) (fun h => absurd (show (lg_cmp (xvv xs) (0 : Int64)).toInt ≠ 0 by omega) (fun g => g h))
  refine i_177_35 (x := 128) rfl ?_
  refine i_177_36 (v := Value.ref 129) hm rfl ?_
  refine i_177_39 (x := (xvv xs)) rfl ?_
  refine i_177_40 ?_
  refine i_177_41 (c := (lg_cmp (xvv xs) (0 : Int64))) rfl ?_
  refine i_177_42 (fun h => absurd (show (lg_cmp (xvv xs) (0 : Int64)).toInt < 0 by omega) (Int.not_lt.mpr h)) (fun _ => ?_)
  refine i_177_45 (x := (xvv xs)) rfl ?_
  refine i_177_46 (c := (-(xvv xs))) rfl ?_
  refine i_177_47 ?_
  refine i_177_51 ((hk 129 (by decide) (by decide)).trans W0_129) (Nat.le_of_ble_eq_true rfl) (s_179_3 ((hk 129 (by decide) (by decide)).trans W0_129) (by omega) ((hk 130 (by decide) (by decide)).trans W0_130) (show (lg_cmp (xqs (-(xvv xs))) (0 : Int64)) = 0 from (xge_c (n := 0) (by omega) rfl))) ?_
  refine i_177_54 (x := 128) rfl ?_
  refine i_177_55 (x := (xs 1)) rfl ?_
  refine i_177_56 (x := 128) rfl ?_
  refine i_177_57 (v := Value.ref 129) (xgn (by decide) (xgn (by decide) (xgn (by decide) hm))) rfl ?_
  refine i_177_60 (x := (xs 4)) rfl ?_
  refine i_177_62 ?_
  refine i_177_63 (x := (xvv xs)) rfl ?_
  refine i_177_64 ?_
  refine i_177_65 (c := (lg_cmp (xvv xs) (0 : Int64))) rfl ?_
  refine i_177_66 (fun h => absurd (show (lg_cmp (xvv xs) (0 : Int64)).toInt < 0 by omega) (Int.not_lt.mpr h)) (fun _ => ?_)
  refine i_177_69 ?_
  refine i_177_70 ?_
  refine i_177_74 (x := (xs 5)) rfl ?_
  refine i_177_76 (xgn (by decide) (xgn (by decide) (xgn (by decide) hm))) (Nat.le_of_ble_eq_true rfl) hr ?_
  exact i_177_79 ⟨rfl, rfl⟩
theorem mn3_1_2 {d : Nat} {xs : Nat → Int32} {w w2 : xW} {b : Int32} {B K P G : Int32} (hk : ∀ h, 129 ≤ h → h < 194 → w[h]? = (W0 6 xs)[h]?) (hm : w[128]? = some (Sum.inr (12, [Value.ref 129, Value.ref 131, Value.ref 133, Value.ref 135, Value.ref 137, Value.ref 139, Value.ref 141, Value.ref 143, Value.ref 145, Value.ref 147, Value.ref 149, Value.ref 151, Value.ref 153, Value.ref 154, Value.ref 155, Value.ref 156, Value.ref 157, Value.int (-16384), Value.int 16384, Value.int 0, Value.int 0, Value.int 0, Value.ref 158, Value.ref 159, Value.int 0, Value.int 0, Value.int 0, Value.int 0, Value.int 0, Value.int 0, Value.int 0, Value.int 0]))) (c0 : 0 ≤ (xs 1).toInt) (c1 : (xs 1).toInt < 16) (c2 : (-40000) ≤ (xs 4).toInt) (c3 : (xs 4).toInt ≤ 40000) (c4 : 0 ≤ (xs 5).toInt) (c5 : (xs 5).toInt ≤ 4) (c6 : (lg_cmp (xvv xs) (0 : Int64)).toInt ≠ 0) (c7 : (lg_cmp (xvv xs) (0 : Int64)).toInt < 0) (c8 : K.toInt = 64 - B.toInt) (c9 : 5 ≤ B.toInt) (c10 : B.toInt ≤ 30) (c11 : (xhi (-(xvv xs))).toInt = 0) (c12 : (xlo (-(xvv xs))).toInt ≠ 0) (c13 : (xnlz (xlo (-(xvv xs)))).toInt = 32 - B.toInt) (c14 : (xbf 1 (xlo (-(xvv xs))) (0 : Int32) ((32 : Int32) - K)).toInt ≠ 0) (c15 : (lg_cmp (-(xvv xs)) (0 : Int64)).toInt ≠ 0) (c16 : (lg_cmp (xqs (-(xvv xs))) (0 : Int64)).toInt = 0) (c17 : (xbn (xq (-(xvv xs)))).toInt = B.toInt) (c18 : (xq (-(xvv xs))).toInt ≠ 0) (c19 : 0 ≤ (xq (-(xvv xs))).toInt) (c20 : K.toInt ≠ 0) (c21 : K / (30 : Int32) = 1) (c22 : K - K / (30 : Int32) * (30 : Int32) = P) (c23 : ((0 : Int32) ||| (xH (xq (-(xvv xs))) P)).toInt ≠ 0) (c24 : 0 ≤ ((0 : Int32) ||| (xH (xq (-(xvv xs))) P)).toInt) (c25 : (xbn ((0 : Int32) ||| (xH (xq (-(xvv xs))) P))).toInt = 4) (c26 : G.toInt = B.toInt - 1) (hr : xRun (d + 6) 180 [Value.ref 128, Value.int (xs 1), Value.ref 129, Value.int (xs 4), Value.int 0, Value.int 1, Value.int (xs 5)] (((w.set 129 (Sum.inr (13, [Value.ref 130, Value.int 0]))).set 130 (Sum.inl (0, 4700, xup (fun _ => Value.int 0) (0 : Int32).toInt.toNat (Value.int (xq (-(xvv xs))))))).set 129 (Sum.inr (13, [Value.ref 130, Value.int 1]))) (.inl (some (Value.int b))) w2) : xRun (d + 7) 177 [Value.ref 128, Value.int (xs 1), Value.long (xvv xs), Value.int (xs 4), Value.int (xs 5)] w (.inl (some (Value.int b))) w2 := by
  refine xRun.of ?_
  refine i_177_0 (x := (xs 1)) rfl ?_
  refine i_177_1 (Nat.le_of_ble_eq_true rfl) (s_168_0 (by omega) (by omega)) ?_
  refine i_177_4 (x := (xs 4)) rfl ?_
  refine i_177_6 ?_
  refine i_177_8 ?_
  refine i_177_10 (Nat.le_of_ble_eq_true rfl) (s_169_1 (by omega) (by omega)) ?_
  refine i_177_13 (Nat.le_of_ble_eq_true rfl) (s_170_0) ?_
  refine i_177_16 (x := (xs 5)) rfl ?_
  refine i_177_18 (Nat.le_of_ble_eq_true rfl) (s_178_0 (by omega) (by omega)) ?_
  refine i_177_21 (x := (xvv xs)) rfl ?_
  refine i_177_22 ?_
  refine i_177_23 (c := (lg_cmp (xvv xs) (0 : Int64))) rfl ?_
  refine i_177_24 (fun _ => ?_) (fun h => absurd (show (lg_cmp (xvv xs) (0 : Int64)).toInt ≠ 0 by omega) (fun g => g h))
  refine i_177_35 (x := 128) rfl ?_
  refine i_177_36 (v := Value.ref 129) hm rfl ?_
  refine i_177_39 (x := (xvv xs)) rfl ?_
  refine i_177_40 ?_
  refine i_177_41 (c := (lg_cmp (xvv xs) (0 : Int64))) rfl ?_
  refine i_177_42 (fun h => absurd (show (lg_cmp (xvv xs) (0 : Int64)).toInt < 0 by omega) (Int.not_lt.mpr h)) (fun _ => ?_)
  refine i_177_45 (x := (xvv xs)) rfl ?_
  refine i_177_46 (c := (-(xvv xs))) rfl ?_
  refine i_177_47 ?_
  refine i_177_51 ((hk 129 (by decide) (by decide)).trans W0_129) (Nat.le_of_ble_eq_true rfl) (s_179_3 ((hk 129 (by decide) (by decide)).trans W0_129) (by omega) ((hk 130 (by decide) (by decide)).trans W0_130) (show (lg_cmp (xqs (-(xvv xs))) (0 : Int64)) = 0 from (xge_c (n := 0) (by omega) rfl))) ?_
  refine i_177_54 (x := 128) rfl ?_
  refine i_177_55 (x := (xs 1)) rfl ?_
  refine i_177_56 (x := 128) rfl ?_
  refine i_177_57 (v := Value.ref 129) (xgn (by decide) (xgn (by decide) (xgn (by decide) hm))) rfl ?_
  refine i_177_60 (x := (xs 4)) rfl ?_
  refine i_177_62 ?_
  refine i_177_63 (x := (xvv xs)) rfl ?_
  refine i_177_64 ?_
  refine i_177_65 (c := (lg_cmp (xvv xs) (0 : Int64))) rfl ?_
  refine i_177_66 (fun h => absurd (show (lg_cmp (xvv xs) (0 : Int64)).toInt < 0 by omega) (Int.not_lt.mpr h)) (fun _ => ?_)
  refine i_177_69 ?_
  refine i_177_70 ?_
  refine i_177_74 (x := (xs 5)) rfl ?_
  refine i_177_76 (xgn (by decide) (xgn (by decide) (xgn (by decide) hm))) (Nat.le_of_ble_eq_true rfl) hr ?_
  exact i_177_79 ⟨rfl, rfl⟩
theorem mn3_1_3 {d : Nat} {xs : Nat → Int32} {w w2 : xW} {b : Int32} {B K P G : Int32} (hk : ∀ h, 129 ≤ h → h < 194 → w[h]? = (W0 6 xs)[h]?) (hm : w[128]? = some (Sum.inr (12, [Value.ref 129, Value.ref 131, Value.ref 133, Value.ref 135, Value.ref 137, Value.ref 139, Value.ref 141, Value.ref 143, Value.ref 145, Value.ref 147, Value.ref 149, Value.ref 151, Value.ref 153, Value.ref 154, Value.ref 155, Value.ref 156, Value.ref 157, Value.int (-16384), Value.int 16384, Value.int 0, Value.int 0, Value.int 0, Value.ref 158, Value.ref 159, Value.int 0, Value.int 0, Value.int 0, Value.int 0, Value.int 0, Value.int 0, Value.int 0, Value.int 0]))) (c0 : 0 ≤ (xs 1).toInt) (c1 : (xs 1).toInt < 16) (c2 : (-40000) ≤ (xs 4).toInt) (c3 : (xs 4).toInt ≤ 40000) (c4 : 0 ≤ (xs 5).toInt) (c5 : (xs 5).toInt ≤ 4) (c6 : (lg_cmp (xvv xs) (0 : Int64)).toInt ≠ 0) (c7 : (lg_cmp (xvv xs) (0 : Int64)).toInt < 0) (c8 : K.toInt = 64 - B.toInt) (c9 : 31 ≤ B.toInt) (c10 : B.toInt ≤ 32) (c11 : (xhi (-(xvv xs))).toInt = 0) (c12 : (xlo (-(xvv xs))).toInt ≠ 0) (c13 : (xnlz (xlo (-(xvv xs)))).toInt = 32 - B.toInt) (c14 : (xbf 1 (xlo (-(xvv xs))) (0 : Int32) ((32 : Int32) - K)).toInt ≠ 0) (c15 : (lg_cmp (-(xvv xs)) (0 : Int64)).toInt ≠ 0) (c16 : (lg_cmp (xqs (-(xvv xs))) (0 : Int64)).toInt ≠ 0) (c17 : (lg_cmp (xqs (xqs (-(xvv xs)))) (0 : Int64)).toInt = 0) (c18 : (xbn (xq (xqs (-(xvv xs))))).toInt = B.toInt - 30) (c19 : (xq (xqs (-(xvv xs)))).toInt ≠ 0) (c20 : 0 ≤ (xq (xqs (-(xvv xs)))).toInt) (c21 : K.toInt ≠ 0) (c22 : K / (30 : Int32) = 1) (c23 : K - K / (30 : Int32) * (30 : Int32) = P) (c24 : ((0 : Int32) ||| (xH (xq (xqs (-(xvv xs)))) P)).toInt = 0) (c25 : ((xL (xq (xqs (-(xvv xs)))) P) ||| (xH (xq (-(xvv xs))) P)).toInt ≠ 0) (c26 : 0 ≤ ((xL (xq (xqs (-(xvv xs)))) P) ||| (xH (xq (-(xvv xs))) P)).toInt) (c27 : (xbn ((xL (xq (xqs (-(xvv xs)))) P) ||| (xH (xq (-(xvv xs))) P))).toInt = 4) (c28 : G.toInt = B.toInt - 31) (hr : xRun (d + 6) 180 [Value.ref 128, Value.int (xs 1), Value.ref 129, Value.int (xs 4), Value.int 0, Value.int 1, Value.int (xs 5)] (((((w.set 129 (Sum.inr (13, [Value.ref 130, Value.int 0]))).set 130 (Sum.inl (0, 4700, xup (fun _ => Value.int 0) (0 : Int32).toInt.toNat (Value.int (xq (-(xvv xs))))))).set 129 (Sum.inr (13, [Value.ref 130, Value.int 1]))).set 130 (Sum.inl (0, 4700, xup (xup (fun _ => Value.int 0) (0 : Int32).toInt.toNat (Value.int (xq (-(xvv xs))))) (1 : Int32).toInt.toNat (Value.int (xq (xqs (-(xvv xs)))))))).set 129 (Sum.inr (13, [Value.ref 130, Value.int 2]))) (.inl (some (Value.int b))) w2) : xRun (d + 7) 177 [Value.ref 128, Value.int (xs 1), Value.long (xvv xs), Value.int (xs 4), Value.int (xs 5)] w (.inl (some (Value.int b))) w2 := by
  refine xRun.of ?_
  refine i_177_0 (x := (xs 1)) rfl ?_
  refine i_177_1 (Nat.le_of_ble_eq_true rfl) (s_168_0 (by omega) (by omega)) ?_
  refine i_177_4 (x := (xs 4)) rfl ?_
  refine i_177_6 ?_
  refine i_177_8 ?_
  refine i_177_10 (Nat.le_of_ble_eq_true rfl) (s_169_1 (by omega) (by omega)) ?_
  refine i_177_13 (Nat.le_of_ble_eq_true rfl) (s_170_0) ?_
  refine i_177_16 (x := (xs 5)) rfl ?_
  refine i_177_18 (Nat.le_of_ble_eq_true rfl) (s_178_0 (by omega) (by omega)) ?_
  refine i_177_21 (x := (xvv xs)) rfl ?_
  refine i_177_22 ?_
  refine i_177_23 (c := (lg_cmp (xvv xs) (0 : Int64))) rfl ?_
  refine i_177_24 (fun _ => ?_) (fun h => absurd (show (lg_cmp (xvv xs) (0 : Int64)).toInt ≠ 0 by omega) (fun g => g h))
  refine i_177_35 (x := 128) rfl ?_
  refine i_177_36 (v := Value.ref 129) hm rfl ?_
  refine i_177_39 (x := (xvv xs)) rfl ?_
  refine i_177_40 ?_
  refine i_177_41 (c := (lg_cmp (xvv xs) (0 : Int64))) rfl ?_
  refine i_177_42 (fun h => absurd (show (lg_cmp (xvv xs) (0 : Int64)).toInt < 0 by omega) (Int.not_lt.mpr h)) (fun _ => ?_)
  refine i_177_45 (x := (xvv xs)) rfl ?_
  refine i_177_46 (c := (-(xvv xs))) rfl ?_
  refine i_177_47 ?_
  refine i_177_51 ((hk 129 (by decide) (by decide)).trans W0_129) (Nat.le_of_ble_eq_true rfl) (s_179_4 ((hk 129 (by decide) (by decide)).trans W0_129) (by omega) ((hk 130 (by decide) (by decide)).trans W0_130) (by omega) (show (lg_cmp (xqs (xqs (-(xvv xs)))) (0 : Int64)) = 0 from (xge_c (n := 0) (by omega) rfl))) ?_
  refine i_177_54 (x := 128) rfl ?_
  refine i_177_55 (x := (xs 1)) rfl ?_
  refine i_177_56 (x := 128) rfl ?_
  refine i_177_57 (v := Value.ref 129) (xgn (by decide) (xgn (by decide) (xgn (by decide) (xgn (by decide) (xgn (by decide) hm))))) rfl ?_
  refine i_177_60 (x := (xs 4)) rfl ?_
  refine i_177_62 ?_
  refine i_177_63 (x := (xvv xs)) rfl ?_
  refine i_177_64 ?_
  refine i_177_65 (c := (lg_cmp (xvv xs) (0 : Int64))) rfl ?_
  refine i_177_66 (fun h => absurd (show (lg_cmp (xvv xs) (0 : Int64)).toInt < 0 by omega) (Int.not_lt.mpr h)) (fun _ => ?_)
  refine i_177_69 ?_
  refine i_177_70 ?_
  refine i_177_74 (x := (xs 5)) rfl ?_
  refine i_177_76 (xgn (by decide) (xgn (by decide) (xgn (by decide) (xgn (by decide) (xgn (by decide) hm))))) (Nat.le_of_ble_eq_true rfl) hr ?_
  exact i_177_79 ⟨rfl, rfl⟩
theorem mn3_1_4 {d : Nat} {xs : Nat → Int32} {w w2 : xW} {b : Int32} {B K P G : Int32} (hk : ∀ h, 129 ≤ h → h < 194 → w[h]? = (W0 6 xs)[h]?) (hm : w[128]? = some (Sum.inr (12, [Value.ref 129, Value.ref 131, Value.ref 133, Value.ref 135, Value.ref 137, Value.ref 139, Value.ref 141, Value.ref 143, Value.ref 145, Value.ref 147, Value.ref 149, Value.ref 151, Value.ref 153, Value.ref 154, Value.ref 155, Value.ref 156, Value.ref 157, Value.int (-16384), Value.int 16384, Value.int 0, Value.int 0, Value.int 0, Value.ref 158, Value.ref 159, Value.int 0, Value.int 0, Value.int 0, Value.int 0, Value.int 0, Value.int 0, Value.int 0, Value.int 0]))) (c0 : 0 ≤ (xs 1).toInt) (c1 : (xs 1).toInt < 16) (c2 : (-40000) ≤ (xs 4).toInt) (c3 : (xs 4).toInt ≤ 40000) (c4 : 0 ≤ (xs 5).toInt) (c5 : (xs 5).toInt ≤ 4) (c6 : (lg_cmp (xvv xs) (0 : Int64)).toInt ≠ 0) (c7 : (lg_cmp (xvv xs) (0 : Int64)).toInt < 0) (c8 : K.toInt = 64 - B.toInt) (c9 : 33 ≤ B.toInt) (c10 : B.toInt ≤ 34) (c11 : (xhi (-(xvv xs))).toInt ≠ 0) (c12 : (xnlz (xhi (-(xvv xs)))).toInt = 64 - B.toInt) (c13 : (xbf 2 (xlo (-(xvv xs))) (xhi (-(xvv xs))) ((32 : Int32) - K)).toInt ≠ 0) (c14 : (lg_cmp (-(xvv xs)) (0 : Int64)).toInt ≠ 0) (c15 : (lg_cmp (xqs (-(xvv xs))) (0 : Int64)).toInt ≠ 0) (c16 : (lg_cmp (xqs (xqs (-(xvv xs)))) (0 : Int64)).toInt = 0) (c17 : (xbn (xq (xqs (-(xvv xs))))).toInt = B.toInt - 30) (c18 : (xq (xqs (-(xvv xs)))).toInt ≠ 0) (c19 : 0 ≤ (xq (xqs (-(xvv xs)))).toInt) (c20 : K.toInt ≠ 0) (c21 : K / (30 : Int32) = 1) (c22 : K - K / (30 : Int32) * (30 : Int32) = P) (c23 : ((0 : Int32) ||| (xH (xq (xqs (-(xvv xs)))) P)).toInt = 0) (c24 : ((xL (xq (xqs (-(xvv xs)))) P) ||| (xH (xq (-(xvv xs))) P)).toInt ≠ 0) (c25 : 0 ≤ ((xL (xq (xqs (-(xvv xs)))) P) ||| (xH (xq (-(xvv xs))) P)).toInt) (c26 : (xbn ((xL (xq (xqs (-(xvv xs)))) P) ||| (xH (xq (-(xvv xs))) P))).toInt = 4) (c27 : G.toInt = B.toInt - 31) (hr : xRun (d + 6) 180 [Value.ref 128, Value.int (xs 1), Value.ref 129, Value.int (xs 4), Value.int 0, Value.int 1, Value.int (xs 5)] (((((w.set 129 (Sum.inr (13, [Value.ref 130, Value.int 0]))).set 130 (Sum.inl (0, 4700, xup (fun _ => Value.int 0) (0 : Int32).toInt.toNat (Value.int (xq (-(xvv xs))))))).set 129 (Sum.inr (13, [Value.ref 130, Value.int 1]))).set 130 (Sum.inl (0, 4700, xup (xup (fun _ => Value.int 0) (0 : Int32).toInt.toNat (Value.int (xq (-(xvv xs))))) (1 : Int32).toInt.toNat (Value.int (xq (xqs (-(xvv xs)))))))).set 129 (Sum.inr (13, [Value.ref 130, Value.int 2]))) (.inl (some (Value.int b))) w2) : xRun (d + 7) 177 [Value.ref 128, Value.int (xs 1), Value.long (xvv xs), Value.int (xs 4), Value.int (xs 5)] w (.inl (some (Value.int b))) w2 := by
  refine xRun.of ?_
  refine i_177_0 (x := (xs 1)) rfl ?_
  refine i_177_1 (Nat.le_of_ble_eq_true rfl) (s_168_0 (by omega) (by omega)) ?_
  refine i_177_4 (x := (xs 4)) rfl ?_
  refine i_177_6 ?_
  refine i_177_8 ?_
  refine i_177_10 (Nat.le_of_ble_eq_true rfl) (s_169_1 (by omega) (by omega)) ?_
  refine i_177_13 (Nat.le_of_ble_eq_true rfl) (s_170_0) ?_
  refine i_177_16 (x := (xs 5)) rfl ?_
  refine i_177_18 (Nat.le_of_ble_eq_true rfl) (s_178_0 (by omega) (by omega)) ?_
  refine i_177_21 (x := (xvv xs)) rfl ?_
  refine i_177_22 ?_
  refine i_177_23 (c := (lg_cmp (xvv xs) (0 : Int64))) rfl ?_
  refine i_177_24 (fun _ => ?_) (fun h => absurd (show (lg_cmp (xvv xs) (0 : Int64)).toInt ≠ 0 by omega) (fun g => g h))
  refine i_177_35 (x := 128) rfl ?_
  refine i_177_36 (v := Value.ref 129) hm rfl ?_
  refine i_177_39 (x := (xvv xs)) rfl ?_
  refine i_177_40 ?_
  refine i_177_41 (c := (lg_cmp (xvv xs) (0 : Int64))) rfl ?_
  refine i_177_42 (fun h => absurd (show (lg_cmp (xvv xs) (0 : Int64)).toInt < 0 by omega) (Int.not_lt.mpr h)) (fun _ => ?_)
  refine i_177_45 (x := (xvv xs)) rfl ?_
  refine i_177_46 (c := (-(xvv xs))) rfl ?_
  refine i_177_47 ?_
  refine i_177_51 ((hk 129 (by decide) (by decide)).trans W0_129) (Nat.le_of_ble_eq_true rfl) (s_179_4 ((hk 129 (by decide) (by decide)).trans W0_129) (by omega) ((hk 130 (by decide) (by decide)).trans W0_130) (by omega) (show (lg_cmp (xqs (xqs (-(xvv xs)))) (0 : Int64)) = 0 from (xge_c (n := 0) (by omega) rfl))) ?_
  refine i_177_54 (x := 128) rfl ?_
  refine i_177_55 (x := (xs 1)) rfl ?_
  refine i_177_56 (x := 128) rfl ?_
  refine i_177_57 (v := Value.ref 129) (xgn (by decide) (xgn (by decide) (xgn (by decide) (xgn (by decide) (xgn (by decide) hm))))) rfl ?_
  refine i_177_60 (x := (xs 4)) rfl ?_
  refine i_177_62 ?_
  refine i_177_63 (x := (xvv xs)) rfl ?_
  refine i_177_64 ?_
  refine i_177_65 (c := (lg_cmp (xvv xs) (0 : Int64))) rfl ?_
  refine i_177_66 (fun h => absurd (show (lg_cmp (xvv xs) (0 : Int64)).toInt < 0 by omega) (Int.not_lt.mpr h)) (fun _ => ?_)
  refine i_177_69 ?_
  refine i_177_70 ?_
  refine i_177_74 (x := (xs 5)) rfl ?_
  refine i_177_76 (xgn (by decide) (xgn (by decide) (xgn (by decide) (xgn (by decide) (xgn (by decide) hm))))) (Nat.le_of_ble_eq_true rfl) hr ?_
  exact i_177_79 ⟨rfl, rfl⟩
theorem mn3_1_5 {d : Nat} {xs : Nat → Int32} {w w2 : xW} {b : Int32} {B K P G : Int32} (hk : ∀ h, 129 ≤ h → h < 194 → w[h]? = (W0 6 xs)[h]?) (hm : w[128]? = some (Sum.inr (12, [Value.ref 129, Value.ref 131, Value.ref 133, Value.ref 135, Value.ref 137, Value.ref 139, Value.ref 141, Value.ref 143, Value.ref 145, Value.ref 147, Value.ref 149, Value.ref 151, Value.ref 153, Value.ref 154, Value.ref 155, Value.ref 156, Value.ref 157, Value.int (-16384), Value.int 16384, Value.int 0, Value.int 0, Value.int 0, Value.ref 158, Value.ref 159, Value.int 0, Value.int 0, Value.int 0, Value.int 0, Value.int 0, Value.int 0, Value.int 0, Value.int 0]))) (c0 : 0 ≤ (xs 1).toInt) (c1 : (xs 1).toInt < 16) (c2 : (-40000) ≤ (xs 4).toInt) (c3 : (xs 4).toInt ≤ 40000) (c4 : 0 ≤ (xs 5).toInt) (c5 : (xs 5).toInt ≤ 4) (c6 : (lg_cmp (xvv xs) (0 : Int64)).toInt ≠ 0) (c7 : (lg_cmp (xvv xs) (0 : Int64)).toInt < 0) (c8 : K.toInt = 64 - B.toInt) (c9 : 35 ≤ B.toInt) (c10 : B.toInt ≤ 60) (c11 : (xhi (-(xvv xs))).toInt ≠ 0) (c12 : (xnlz (xhi (-(xvv xs)))).toInt = 64 - B.toInt) (c13 : (xbf 2 (xlo (-(xvv xs))) (xhi (-(xvv xs))) ((32 : Int32) - K)).toInt ≠ 0) (c14 : (lg_cmp (-(xvv xs)) (0 : Int64)).toInt ≠ 0) (c15 : (lg_cmp (xqs (-(xvv xs))) (0 : Int64)).toInt ≠ 0) (c16 : (lg_cmp (xqs (xqs (-(xvv xs)))) (0 : Int64)).toInt = 0) (c17 : (xbn (xq (xqs (-(xvv xs))))).toInt = B.toInt - 30) (c18 : (xq (xqs (-(xvv xs)))).toInt ≠ 0) (c19 : 0 ≤ (xq (xqs (-(xvv xs)))).toInt) (c20 : K.toInt ≠ 0) (c21 : K / (30 : Int32) = 0) (c22 : K - K / (30 : Int32) * (30 : Int32) = P) (c23 : ((0 : Int32) ||| (xH (xq (xqs (-(xvv xs)))) P)).toInt ≠ 0) (c24 : 0 ≤ ((0 : Int32) ||| (xH (xq (xqs (-(xvv xs)))) P)).toInt) (c25 : (xbn ((0 : Int32) ||| (xH (xq (xqs (-(xvv xs)))) P))).toInt = 4) (c26 : G.toInt = B.toInt - 31) (hr : xRun (d + 6) 180 [Value.ref 128, Value.int (xs 1), Value.ref 129, Value.int (xs 4), Value.int 0, Value.int 1, Value.int (xs 5)] (((((w.set 129 (Sum.inr (13, [Value.ref 130, Value.int 0]))).set 130 (Sum.inl (0, 4700, xup (fun _ => Value.int 0) (0 : Int32).toInt.toNat (Value.int (xq (-(xvv xs))))))).set 129 (Sum.inr (13, [Value.ref 130, Value.int 1]))).set 130 (Sum.inl (0, 4700, xup (xup (fun _ => Value.int 0) (0 : Int32).toInt.toNat (Value.int (xq (-(xvv xs))))) (1 : Int32).toInt.toNat (Value.int (xq (xqs (-(xvv xs)))))))).set 129 (Sum.inr (13, [Value.ref 130, Value.int 2]))) (.inl (some (Value.int b))) w2) : xRun (d + 7) 177 [Value.ref 128, Value.int (xs 1), Value.long (xvv xs), Value.int (xs 4), Value.int (xs 5)] w (.inl (some (Value.int b))) w2 := by
  refine xRun.of ?_
  refine i_177_0 (x := (xs 1)) rfl ?_
  refine i_177_1 (Nat.le_of_ble_eq_true rfl) (s_168_0 (by omega) (by omega)) ?_
  refine i_177_4 (x := (xs 4)) rfl ?_
  refine i_177_6 ?_
  refine i_177_8 ?_
  refine i_177_10 (Nat.le_of_ble_eq_true rfl) (s_169_1 (by omega) (by omega)) ?_
  refine i_177_13 (Nat.le_of_ble_eq_true rfl) (s_170_0) ?_
  refine i_177_16 (x := (xs 5)) rfl ?_
  refine i_177_18 (Nat.le_of_ble_eq_true rfl) (s_178_0 (by omega) (by omega)) ?_
  refine i_177_21 (x := (xvv xs)) rfl ?_
  refine i_177_22 ?_
  refine i_177_23 (c := (lg_cmp (xvv xs) (0 : Int64))) rfl ?_
  refine i_177_24 (fun _ => ?_) (fun h => absurd (show (lg_cmp (xvv xs) (0 : Int64)).toInt ≠ 0 by omega) (fun g => g h))
  refine i_177_35 (x := 128) rfl ?_
  refine i_177_36 (v := Value.ref 129) hm rfl ?_
  refine i_177_39 (x := (xvv xs)) rfl ?_
  refine i_177_40 ?_
  refine i_177_41 (c := (lg_cmp (xvv xs) (0 : Int64))) rfl ?_
  refine i_177_42 (fun h => absurd (show (lg_cmp (xvv xs) (0 : Int64)).toInt < 0 by omega) (Int.not_lt.mpr h)) (fun _ => ?_)
  refine i_177_45 (x := (xvv xs)) rfl ?_
  refine i_177_46 (c := (-(xvv xs))) rfl ?_
  refine i_177_47 ?_
  refine i_177_51 ((hk 129 (by decide) (by decide)).trans W0_129) (Nat.le_of_ble_eq_true rfl) (s_179_4 ((hk 129 (by decide) (by decide)).trans W0_129) (by omega) ((hk 130 (by decide) (by decide)).trans W0_130) (by omega) (show (lg_cmp (xqs (xqs (-(xvv xs)))) (0 : Int64)) = 0 from (xge_c (n := 0) (by omega) rfl))) ?_
  refine i_177_54 (x := 128) rfl ?_
  refine i_177_55 (x := (xs 1)) rfl ?_
  refine i_177_56 (x := 128) rfl ?_
  refine i_177_57 (v := Value.ref 129) (xgn (by decide) (xgn (by decide) (xgn (by decide) (xgn (by decide) (xgn (by decide) hm))))) rfl ?_
  refine i_177_60 (x := (xs 4)) rfl ?_
  refine i_177_62 ?_
  refine i_177_63 (x := (xvv xs)) rfl ?_
  refine i_177_64 ?_
  refine i_177_65 (c := (lg_cmp (xvv xs) (0 : Int64))) rfl ?_
  refine i_177_66 (fun h => absurd (show (lg_cmp (xvv xs) (0 : Int64)).toInt < 0 by omega) (Int.not_lt.mpr h)) (fun _ => ?_)
  refine i_177_69 ?_
  refine i_177_70 ?_
  refine i_177_74 (x := (xs 5)) rfl ?_
  refine i_177_76 (xgn (by decide) (xgn (by decide) (xgn (by decide) (xgn (by decide) (xgn (by decide) hm))))) (Nat.le_of_ble_eq_true rfl) hr ?_
  exact i_177_79 ⟨rfl, rfl⟩
theorem mn3_1_6 {d : Nat} {xs : Nat → Int32} {w w2 : xW} {b : Int32} {B K P G : Int32} (hk : ∀ h, 129 ≤ h → h < 194 → w[h]? = (W0 6 xs)[h]?) (hm : w[128]? = some (Sum.inr (12, [Value.ref 129, Value.ref 131, Value.ref 133, Value.ref 135, Value.ref 137, Value.ref 139, Value.ref 141, Value.ref 143, Value.ref 145, Value.ref 147, Value.ref 149, Value.ref 151, Value.ref 153, Value.ref 154, Value.ref 155, Value.ref 156, Value.ref 157, Value.int (-16384), Value.int 16384, Value.int 0, Value.int 0, Value.int 0, Value.ref 158, Value.ref 159, Value.int 0, Value.int 0, Value.int 0, Value.int 0, Value.int 0, Value.int 0, Value.int 0, Value.int 0]))) (c0 : 0 ≤ (xs 1).toInt) (c1 : (xs 1).toInt < 16) (c2 : (-40000) ≤ (xs 4).toInt) (c3 : (xs 4).toInt ≤ 40000) (c4 : 0 ≤ (xs 5).toInt) (c5 : (xs 5).toInt ≤ 4) (c6 : (lg_cmp (xvv xs) (0 : Int64)).toInt ≠ 0) (c7 : (lg_cmp (xvv xs) (0 : Int64)).toInt < 0) (c8 : K.toInt = 64 - B.toInt) (c9 : 61 ≤ B.toInt) (c10 : B.toInt ≤ 63) (c11 : (xhi (-(xvv xs))).toInt ≠ 0) (c12 : (xnlz (xhi (-(xvv xs)))).toInt = 64 - B.toInt) (c13 : (xbf 2 (xlo (-(xvv xs))) (xhi (-(xvv xs))) ((32 : Int32) - K)).toInt ≠ 0) (c14 : (lg_cmp (-(xvv xs)) (0 : Int64)).toInt ≠ 0) (c15 : (lg_cmp (xqs (-(xvv xs))) (0 : Int64)).toInt ≠ 0) (c16 : (lg_cmp (xqs (xqs (-(xvv xs)))) (0 : Int64)).toInt ≠ 0) (c17 : (lg_cmp (xqs (xqs (xqs (-(xvv xs))))) (0 : Int64)).toInt = 0) (c18 : (xbn (xq (xqs (xqs (-(xvv xs)))))).toInt = B.toInt - 60) (c19 : (xq (xqs (xqs (-(xvv xs))))).toInt ≠ 0) (c20 : 0 ≤ (xq (xqs (xqs (-(xvv xs))))).toInt) (c21 : K.toInt ≠ 0) (c22 : K / (30 : Int32) = 0) (c23 : K - K / (30 : Int32) * (30 : Int32) = P) (c24 : ((0 : Int32) ||| (xH (xq (xqs (xqs (-(xvv xs))))) P)).toInt = 0) (c25 : ((xL (xq (xqs (xqs (-(xvv xs))))) P) ||| (xH (xq (xqs (-(xvv xs)))) P)).toInt ≠ 0) (c26 : 0 ≤ ((xL (xq (xqs (xqs (-(xvv xs))))) P) ||| (xH (xq (xqs (-(xvv xs)))) P)).toInt) (c27 : (xbn ((xL (xq (xqs (xqs (-(xvv xs))))) P) ||| (xH (xq (xqs (-(xvv xs)))) P))).toInt = 4) (c28 : G.toInt = B.toInt - 61) (hr : xRun (d + 6) 180 [Value.ref 128, Value.int (xs 1), Value.ref 129, Value.int (xs 4), Value.int 0, Value.int 1, Value.int (xs 5)] (((((((w.set 129 (Sum.inr (13, [Value.ref 130, Value.int 0]))).set 130 (Sum.inl (0, 4700, xup (fun _ => Value.int 0) (0 : Int32).toInt.toNat (Value.int (xq (-(xvv xs))))))).set 129 (Sum.inr (13, [Value.ref 130, Value.int 1]))).set 130 (Sum.inl (0, 4700, xup (xup (fun _ => Value.int 0) (0 : Int32).toInt.toNat (Value.int (xq (-(xvv xs))))) (1 : Int32).toInt.toNat (Value.int (xq (xqs (-(xvv xs)))))))).set 129 (Sum.inr (13, [Value.ref 130, Value.int 2]))).set 130 (Sum.inl (0, 4700, xup (xup (xup (fun _ => Value.int 0) (0 : Int32).toInt.toNat (Value.int (xq (-(xvv xs))))) (1 : Int32).toInt.toNat (Value.int (xq (xqs (-(xvv xs)))))) (2 : Int32).toInt.toNat (Value.int (xq (xqs (xqs (-(xvv xs))))))))).set 129 (Sum.inr (13, [Value.ref 130, Value.int 3]))) (.inl (some (Value.int b))) w2) : xRun (d + 7) 177 [Value.ref 128, Value.int (xs 1), Value.long (xvv xs), Value.int (xs 4), Value.int (xs 5)] w (.inl (some (Value.int b))) w2 := by
  refine xRun.of ?_
  refine i_177_0 (x := (xs 1)) rfl ?_
  refine i_177_1 (Nat.le_of_ble_eq_true rfl) (s_168_0 (by omega) (by omega)) ?_
  refine i_177_4 (x := (xs 4)) rfl ?_
  refine i_177_6 ?_
  refine i_177_8 ?_
  refine i_177_10 (Nat.le_of_ble_eq_true rfl) (s_169_1 (by omega) (by omega)) ?_
  refine i_177_13 (Nat.le_of_ble_eq_true rfl) (s_170_0) ?_
  refine i_177_16 (x := (xs 5)) rfl ?_
  refine i_177_18 (Nat.le_of_ble_eq_true rfl) (s_178_0 (by omega) (by omega)) ?_
  refine i_177_21 (x := (xvv xs)) rfl ?_
  refine i_177_22 ?_
  refine i_177_23 (c := (lg_cmp (xvv xs) (0 : Int64))) rfl ?_
  refine i_177_24 (fun _ => ?_) (fun h => absurd (show (lg_cmp (xvv xs) (0 : Int64)).toInt ≠ 0 by omega) (fun g => g h))
  refine i_177_35 (x := 128) rfl ?_
  refine i_177_36 (v := Value.ref 129) hm rfl ?_
  refine i_177_39 (x := (xvv xs)) rfl ?_
  refine i_177_40 ?_
  refine i_177_41 (c := (lg_cmp (xvv xs) (0 : Int64))) rfl ?_
  refine i_177_42 (fun h => absurd (show (lg_cmp (xvv xs) (0 : Int64)).toInt < 0 by omega) (Int.not_lt.mpr h)) (fun _ => ?_)
  refine i_177_45 (x := (xvv xs)) rfl ?_
  refine i_177_46 (c := (-(xvv xs))) rfl ?_
  refine i_177_47 ?_
  refine i_177_51 ((hk 129 (by decide) (by decide)).trans W0_129) (Nat.le_of_ble_eq_true rfl) (s_179_5 ((hk 129 (by decide) (by decide)).trans W0_129) (by omega) ((hk 130 (by decide) (by decide)).trans W0_130) (by omega) (by omega) (show (lg_cmp (xqs (xqs (xqs (-(xvv xs))))) (0 : Int64)) = 0 from (xge_c (n := 0) (by omega) rfl))) ?_
  refine i_177_54 (x := 128) rfl ?_
  refine i_177_55 (x := (xs 1)) rfl ?_
  refine i_177_56 (x := 128) rfl ?_
  refine i_177_57 (v := Value.ref 129) (xgn (by decide) (xgn (by decide) (xgn (by decide) (xgn (by decide) (xgn (by decide) (xgn (by decide) (xgn (by decide) hm))))))) rfl ?_
  refine i_177_60 (x := (xs 4)) rfl ?_
  refine i_177_62 ?_
  refine i_177_63 (x := (xvv xs)) rfl ?_
  refine i_177_64 ?_
  refine i_177_65 (c := (lg_cmp (xvv xs) (0 : Int64))) rfl ?_
  refine i_177_66 (fun h => absurd (show (lg_cmp (xvv xs) (0 : Int64)).toInt < 0 by omega) (Int.not_lt.mpr h)) (fun _ => ?_)
  refine i_177_69 ?_
  refine i_177_70 ?_
  refine i_177_74 (x := (xs 5)) rfl ?_
  refine i_177_76 (xgn (by decide) (xgn (by decide) (xgn (by decide) (xgn (by decide) (xgn (by decide) (xgn (by decide) (xgn (by decide) hm))))))) (Nat.le_of_ble_eq_true rfl) hr ?_
  exact i_177_79 ⟨rfl, rfl⟩
theorem mn3_1_7 {d : Nat} {xs : Nat → Int32} {w w2 : xW} {b : Int32} {B K G : Int32} (hk : ∀ h, 129 ≤ h → h < 194 → w[h]? = (W0 6 xs)[h]?) (hm : w[128]? = some (Sum.inr (12, [Value.ref 129, Value.ref 131, Value.ref 133, Value.ref 135, Value.ref 137, Value.ref 139, Value.ref 141, Value.ref 143, Value.ref 145, Value.ref 147, Value.ref 149, Value.ref 151, Value.ref 153, Value.ref 154, Value.ref 155, Value.ref 156, Value.ref 157, Value.int (-16384), Value.int 16384, Value.int 0, Value.int 0, Value.int 0, Value.ref 158, Value.ref 159, Value.int 0, Value.int 0, Value.int 0, Value.int 0, Value.int 0, Value.int 0, Value.int 0, Value.int 0]))) (c0 : 0 ≤ (xs 1).toInt) (c1 : (xs 1).toInt < 16) (c2 : (-40000) ≤ (xs 4).toInt) (c3 : (xs 4).toInt ≤ 40000) (c4 : 0 ≤ (xs 5).toInt) (c5 : (xs 5).toInt ≤ 4) (c6 : (lg_cmp (xvv xs) (0 : Int64)).toInt ≠ 0) (c7 : (lg_cmp (xvv xs) (0 : Int64)).toInt < 0) (c8 : K.toInt = 64 - B.toInt) (c9 : 64 ≤ B.toInt) (c10 : B.toInt ≤ 64) (c11 : (xhi (-(xvv xs))).toInt ≠ 0) (c12 : (xnlz (xhi (-(xvv xs)))).toInt = 64 - B.toInt) (c13 : (xbf 2 (xlo (-(xvv xs))) (xhi (-(xvv xs))) ((32 : Int32) - K)).toInt ≠ 0) (c14 : (lg_cmp (-(xvv xs)) (0 : Int64)).toInt ≠ 0) (c15 : (lg_cmp (xqs (-(xvv xs))) (0 : Int64)).toInt ≠ 0) (c16 : (lg_cmp (xqs (xqs (-(xvv xs)))) (0 : Int64)).toInt ≠ 0) (c17 : (lg_cmp (xqs (xqs (xqs (-(xvv xs))))) (0 : Int64)).toInt = 0) (c18 : (xbn (xq (xqs (xqs (-(xvv xs)))))).toInt = B.toInt - 60) (c19 : (xq (xqs (xqs (-(xvv xs))))).toInt ≠ 0) (c20 : 0 ≤ (xq (xqs (xqs (-(xvv xs))))).toInt) (c21 : K.toInt = 0) (c22 : (xbn (xq (xqs (xqs (-(xvv xs)))))).toInt = 4) (c23 : G.toInt = B.toInt - 61) (hr : xRun (d + 6) 180 [Value.ref 128, Value.int (xs 1), Value.ref 129, Value.int (xs 4), Value.int 0, Value.int 1, Value.int (xs 5)] (((((((w.set 129 (Sum.inr (13, [Value.ref 130, Value.int 0]))).set 130 (Sum.inl (0, 4700, xup (fun _ => Value.int 0) (0 : Int32).toInt.toNat (Value.int (xq (-(xvv xs))))))).set 129 (Sum.inr (13, [Value.ref 130, Value.int 1]))).set 130 (Sum.inl (0, 4700, xup (xup (fun _ => Value.int 0) (0 : Int32).toInt.toNat (Value.int (xq (-(xvv xs))))) (1 : Int32).toInt.toNat (Value.int (xq (xqs (-(xvv xs)))))))).set 129 (Sum.inr (13, [Value.ref 130, Value.int 2]))).set 130 (Sum.inl (0, 4700, xup (xup (xup (fun _ => Value.int 0) (0 : Int32).toInt.toNat (Value.int (xq (-(xvv xs))))) (1 : Int32).toInt.toNat (Value.int (xq (xqs (-(xvv xs)))))) (2 : Int32).toInt.toNat (Value.int (xq (xqs (xqs (-(xvv xs))))))))).set 129 (Sum.inr (13, [Value.ref 130, Value.int 3]))) (.inl (some (Value.int b))) w2) : xRun (d + 7) 177 [Value.ref 128, Value.int (xs 1), Value.long (xvv xs), Value.int (xs 4), Value.int (xs 5)] w (.inl (some (Value.int b))) w2 := by
  refine xRun.of ?_
  refine i_177_0 (x := (xs 1)) rfl ?_
  refine i_177_1 (Nat.le_of_ble_eq_true rfl) (s_168_0 (by omega) (by omega)) ?_
  refine i_177_4 (x := (xs 4)) rfl ?_
  refine i_177_6 ?_
  refine i_177_8 ?_
  refine i_177_10 (Nat.le_of_ble_eq_true rfl) (s_169_1 (by omega) (by omega)) ?_
  refine i_177_13 (Nat.le_of_ble_eq_true rfl) (s_170_0) ?_
  refine i_177_16 (x := (xs 5)) rfl ?_
  refine i_177_18 (Nat.le_of_ble_eq_true rfl) (s_178_0 (by omega) (by omega)) ?_
  refine i_177_21 (x := (xvv xs)) rfl ?_
  refine i_177_22 ?_
  refine i_177_23 (c := (lg_cmp (xvv xs) (0 : Int64))) rfl ?_
  refine i_177_24 (fun _ => ?_) (fun h => absurd (show (lg_cmp (xvv xs) (0 : Int64)).toInt ≠ 0 by omega) (fun g => g h))
  refine i_177_35 (x := 128) rfl ?_
  refine i_177_36 (v := Value.ref 129) hm rfl ?_
  refine i_177_39 (x := (xvv xs)) rfl ?_
  refine i_177_40 ?_
  refine i_177_41 (c := (lg_cmp (xvv xs) (0 : Int64))) rfl ?_
  refine i_177_42 (fun h => absurd (show (lg_cmp (xvv xs) (0 : Int64)).toInt < 0 by omega) (Int.not_lt.mpr h)) (fun _ => ?_)
  refine i_177_45 (x := (xvv xs)) rfl ?_
  refine i_177_46 (c := (-(xvv xs))) rfl ?_
  refine i_177_47 ?_
  refine i_177_51 ((hk 129 (by decide) (by decide)).trans W0_129) (Nat.le_of_ble_eq_true rfl) (s_179_5 ((hk 129 (by decide) (by decide)).trans W0_129) (by omega) ((hk 130 (by decide) (by decide)).trans W0_130) (by omega) (by omega) (show (lg_cmp (xqs (xqs (xqs (-(xvv xs))))) (0 : Int64)) = 0 from (xge_c (n := 0) (by omega) rfl))) ?_
  refine i_177_54 (x := 128) rfl ?_
  refine i_177_55 (x := (xs 1)) rfl ?_
  refine i_177_56 (x := 128) rfl ?_
  refine i_177_57 (v := Value.ref 129) (xgn (by decide) (xgn (by decide) (xgn (by decide) (xgn (by decide) (xgn (by decide) (xgn (by decide) (xgn (by decide) hm))))))) rfl ?_
  refine i_177_60 (x := (xs 4)) rfl ?_
  refine i_177_62 ?_
  refine i_177_63 (x := (xvv xs)) rfl ?_
  refine i_177_64 ?_
  refine i_177_65 (c := (lg_cmp (xvv xs) (0 : Int64))) rfl ?_
  refine i_177_66 (fun h => absurd (show (lg_cmp (xvv xs) (0 : Int64)).toInt < 0 by omega) (Int.not_lt.mpr h)) (fun _ => ?_)
  refine i_177_69 ?_
  refine i_177_70 ?_
  refine i_177_74 (x := (xs 5)) rfl ?_
  refine i_177_76 (xgn (by decide) (xgn (by decide) (xgn (by decide) (xgn (by decide) (xgn (by decide) (xgn (by decide) (xgn (by decide) hm))))))) (Nat.le_of_ble_eq_true rfl) hr ?_
  exact i_177_79 ⟨rfl, rfl⟩
theorem mdl3_1 {d : Nat} {xs : Nat → Int32} {w1 : xW} (k1 : xKp (W0 6 xs) w1 xPC) (c0 : 0 ≤ (xs 1).toInt) (c1 : (xs 1).toInt < 16) (c2 : (-40000) ≤ (xs 4).toInt) (c3 : (xs 4).toInt ≤ 40000) (c4 : 0 ≤ (xs 5).toInt) (c5 : (xs 5).toInt ≤ 4) (c6 : (lg_cmp (xvv xs) (0 : Int64)).toInt ≠ 0) (c7 : (lg_cmp (xvv xs) (0 : Int64)).toInt < 0) : ∃ w2, xRun (d + 8) 176 [Value.ref 128, Value.int (xs 1), Value.long (xvv xs), Value.int (xs 4), Value.int (xs 5)] w1 (.inl (some (Value.int (xres 1 (-(xvv xs)) (xs 4) (xs 5))))) w2 ∧ xKp w1 w2 xPM ∧ ∃ f, w2[128]? = some (xmo f) := by
  have hk1 : ∀ h, 128 ≤ h → h ≠ 194 → w1[h]? = (W0 6 xs)[h]? := fun h h1 h2 => k1.1 h (Or.inl ⟨h1, h2⟩)
  have hm1 : w1[128]? = some (Sum.inr (12, [Value.ref 129, Value.ref 131, Value.ref 133, Value.ref 135, Value.ref 137, Value.ref 139, Value.ref 141, Value.ref 143, Value.ref 145, Value.ref 147, Value.ref 149, Value.ref 151, Value.ref 153, Value.ref 154, Value.ref 155, Value.ref 156, Value.ref 157, Value.int (-16384), Value.int 16384, Value.int 0, Value.int 0, Value.int 0, Value.ref 158, Value.ref 159, Value.int 0, Value.int 0, Value.int 0, Value.int 0, Value.int 0, Value.int 0, Value.int 0, Value.int 0])) := (hk1 128 (by decide) (by decide)).trans W0_128
  have hk : ∀ h, 129 ≤ h → h < 194 → (w1.set 128 (Sum.inr (12, [Value.ref 129, Value.ref 131, Value.ref 133, Value.ref 135, Value.ref 137, Value.ref 139, Value.ref 141, Value.ref 143, Value.ref 145, Value.ref 147, Value.ref 149, Value.ref 151, Value.ref 153, Value.ref 154, Value.ref 155, Value.ref 156, Value.ref 157, Value.int (-16384), Value.int 16384, Value.int 0, Value.int 0, Value.int 0, Value.ref 158, Value.ref 159, Value.int 0, Value.int 0, Value.int 0, Value.int 0, Value.int 0, Value.int 0, Value.int 0, Value.int 0])))[h]? = (W0 6 xs)[h]? := fun h h1 h2 => (xgn (by omega) rfl).trans (hk1 h (by omega) (by omega))
  have hm : (w1.set 128 (Sum.inr (12, [Value.ref 129, Value.ref 131, Value.ref 133, Value.ref 135, Value.ref 137, Value.ref 139, Value.ref 141, Value.ref 143, Value.ref 145, Value.ref 147, Value.ref 149, Value.ref 151, Value.ref 153, Value.ref 154, Value.ref 155, Value.ref 156, Value.ref 157, Value.int (-16384), Value.int 16384, Value.int 0, Value.int 0, Value.int 0, Value.ref 158, Value.ref 159, Value.int 0, Value.int 0, Value.int 0, Value.int 0, Value.int 0, Value.int 0, Value.int 0, Value.int 0])))[128]? = some (Sum.inr (12, [Value.ref 129, Value.ref 131, Value.ref 133, Value.ref 135, Value.ref 137, Value.ref 139, Value.ref 141, Value.ref 143, Value.ref 145, Value.ref 147, Value.ref 149, Value.ref 151, Value.ref 153, Value.ref 154, Value.ref 155, Value.ref 156, Value.ref 157, Value.int (-16384), Value.int 16384, Value.int 0, Value.int 0, Value.int 0, Value.ref 158, Value.ref 159, Value.int 0, Value.int 0, Value.int 0, Value.int 0, Value.int 0, Value.int 0, Value.int 0, Value.int 0])) := xgs hm1
  obtain ⟨B, K, P, G, hB, c8, hr⟩ := xreg (m := (-(xvv xs))) (xnm_n c6)
  rcases hr with ⟨c9, c10, c11, c12, c13, c14, c15, c16, c17, c18, c19, c20, c21, c22, c23, c24, c25, c26, c27⟩ | ⟨c9, c10, c11, c12, c13, c14, c15, c16, c17, c18, c19, c20, c21, c22, c23, c24, c25, c26⟩ | ⟨c9, c10, c11, c12, c13, c14, c15, c16, c17, c18, c19, c20, c21, c22, c23, c24, c25, c26, c27, c28⟩ | ⟨c9, c10, c11, c12, c13, c14, c15, c16, c17, c18, c19, c20, c21, c22, c23, c24, c25, c26, c27⟩ | ⟨c9, c10, c11, c12, c13, c14, c15, c16, c17, c18, c19, c20, c21, c22, c23, c24, c25, c26⟩ | ⟨c9, c10, c11, c12, c13, c14, c15, c16, c17, c18, c19, c20, c21, c22, c23, c24, c25, c26, c27, c28⟩ | ⟨c9, c10, c11, c12, c13, c14, c15, c16, c17, c18, c19, c20, c21, c22, c23⟩
  · obtain ⟨w2, h1, h2, h3⟩ := rd1_1 (d := d) (xs := xs) (m := (-(xvv xs))) (sc := (xs 4)) (md := (xs 5)) (w := ((((w1.set 128 (Sum.inr (12, [Value.ref 129, Value.ref 131, Value.ref 133, Value.ref 135, Value.ref 137, Value.ref 139, Value.ref 141, Value.ref 143, Value.ref 145, Value.ref 147, Value.ref 149, Value.ref 151, Value.ref 153, Value.ref 154, Value.ref 155, Value.ref 156, Value.ref 157, Value.int (-16384), Value.int 16384, Value.int 0, Value.int 0, Value.int 0, Value.ref 158, Value.ref 159, Value.int 0, Value.int 0, Value.int 0, Value.int 0, Value.int 0, Value.int 0, Value.int 0, Value.int 0]))).set 129 (Sum.inr (13, [Value.ref 130, Value.int 0]))).set 130 (Sum.inl (0, 4700, xup (fun _ => Value.int 0) (0 : Int32).toInt.toNat (Value.int (xq (-(xvv xs))))))).set 129 (Sum.inr (13, [Value.ref 130, Value.int 1])))) (P := P) (fun h h1 h2 => (xgn (by omega) (xgn (by omega) (xgn (by omega) (rfl)))).trans (hk h (by omega) h2)) (xgn (by decide) (xgn (by decide) (xgn (by decide) hm))) (xgs (xgn (by decide) (xgs ((hk 129 (by decide) (by decide)).trans W0_129)))) (xgn (by decide) (xgs (xgn (by decide) (((hk 130 (by decide) (by decide)).trans W0_130))))) (xup_s) hB c0 c1 (by omega) (by omega) (by omega) (by omega) c8 c9 c10 c11 c12 c13 c14 c15 c16 c17 c18 c19 c20 c21 c22 c23 c24 c25 c26 c27
    refine ⟨w2, mnum3 hm1 (mn3_1_1 hk hm c0 c1 c2 c3 c4 c5 c6 c7 c8 c9 c10 c11 c12 c13 c14 c15 c16 c17 c18 c19 c20 c21 c22 c23 c24 c25 c26 c27 h1), xKp.trans ?_ h2, h3⟩
    refine xKp.set ?_ (fun h hh => by unfold xPM at hh; omega) (xgn (by decide) (xgs ((hk 129 (by decide) (by decide)).trans W0_129))) xcs_o
    refine xKp.set ?_ (fun h hh => by unfold xPM at hh; omega) (xgn (by decide) (((hk 130 (by decide) (by decide)).trans W0_130))) xcs_a
    refine xKp.set ?_ (fun h hh => by unfold xPM at hh; omega) (((hk 129 (by decide) (by decide)).trans W0_129)) xcs_o
    exact xKp.set xKp.refl (fun h hh => by unfold xPM at hh; omega) hm1 xcs_o
  · obtain ⟨w2, h1, h2, h3⟩ := rd2_1 (d := d) (xs := xs) (m := (-(xvv xs))) (sc := (xs 4)) (md := (xs 5)) (w := ((((w1.set 128 (Sum.inr (12, [Value.ref 129, Value.ref 131, Value.ref 133, Value.ref 135, Value.ref 137, Value.ref 139, Value.ref 141, Value.ref 143, Value.ref 145, Value.ref 147, Value.ref 149, Value.ref 151, Value.ref 153, Value.ref 154, Value.ref 155, Value.ref 156, Value.ref 157, Value.int (-16384), Value.int 16384, Value.int 0, Value.int 0, Value.int 0, Value.ref 158, Value.ref 159, Value.int 0, Value.int 0, Value.int 0, Value.int 0, Value.int 0, Value.int 0, Value.int 0, Value.int 0]))).set 129 (Sum.inr (13, [Value.ref 130, Value.int 0]))).set 130 (Sum.inl (0, 4700, xup (fun _ => Value.int 0) (0 : Int32).toInt.toNat (Value.int (xq (-(xvv xs))))))).set 129 (Sum.inr (13, [Value.ref 130, Value.int 1])))) (P := P) (fun h h1 h2 => (xgn (by omega) (xgn (by omega) (xgn (by omega) (rfl)))).trans (hk h (by omega) h2)) (xgn (by decide) (xgn (by decide) (xgn (by decide) hm))) (xgs (xgn (by decide) (xgs ((hk 129 (by decide) (by decide)).trans W0_129)))) (xgn (by decide) (xgs (xgn (by decide) (((hk 130 (by decide) (by decide)).trans W0_130))))) (xup_s) hB c0 c1 (by omega) (by omega) (by omega) (by omega) c8 c9 c10 c11 c12 c13 c14 c15 c16 c17 c18 c19 c20 c21 c22 c23 c24 c25 c26
    refine ⟨w2, mnum3 hm1 (mn3_1_2 hk hm c0 c1 c2 c3 c4 c5 c6 c7 c8 c9 c10 c11 c12 c13 c14 c15 c16 c17 c18 c19 c20 c21 c22 c23 c24 c25 c26 h1), xKp.trans ?_ h2, h3⟩
    refine xKp.set ?_ (fun h hh => by unfold xPM at hh; omega) (xgn (by decide) (xgs ((hk 129 (by decide) (by decide)).trans W0_129))) xcs_o
    refine xKp.set ?_ (fun h hh => by unfold xPM at hh; omega) (xgn (by decide) (((hk 130 (by decide) (by decide)).trans W0_130))) xcs_a
    refine xKp.set ?_ (fun h hh => by unfold xPM at hh; omega) (((hk 129 (by decide) (by decide)).trans W0_129)) xcs_o
    exact xKp.set xKp.refl (fun h hh => by unfold xPM at hh; omega) hm1 xcs_o
  · obtain ⟨w2, h1, h2, h3⟩ := rd3_1 (d := d) (xs := xs) (m := (-(xvv xs))) (sc := (xs 4)) (md := (xs 5)) (w := ((((((w1.set 128 (Sum.inr (12, [Value.ref 129, Value.ref 131, Value.ref 133, Value.ref 135, Value.ref 137, Value.ref 139, Value.ref 141, Value.ref 143, Value.ref 145, Value.ref 147, Value.ref 149, Value.ref 151, Value.ref 153, Value.ref 154, Value.ref 155, Value.ref 156, Value.ref 157, Value.int (-16384), Value.int 16384, Value.int 0, Value.int 0, Value.int 0, Value.ref 158, Value.ref 159, Value.int 0, Value.int 0, Value.int 0, Value.int 0, Value.int 0, Value.int 0, Value.int 0, Value.int 0]))).set 129 (Sum.inr (13, [Value.ref 130, Value.int 0]))).set 130 (Sum.inl (0, 4700, xup (fun _ => Value.int 0) (0 : Int32).toInt.toNat (Value.int (xq (-(xvv xs))))))).set 129 (Sum.inr (13, [Value.ref 130, Value.int 1]))).set 130 (Sum.inl (0, 4700, xup (xup (fun _ => Value.int 0) (0 : Int32).toInt.toNat (Value.int (xq (-(xvv xs))))) (1 : Int32).toInt.toNat (Value.int (xq (xqs (-(xvv xs)))))))).set 129 (Sum.inr (13, [Value.ref 130, Value.int 2])))) (P := P) (fun h h1 h2 => (xgn (by omega) (xgn (by omega) (xgn (by omega) (xgn (by omega) (xgn (by omega) (rfl)))))).trans (hk h (by omega) h2)) (xgn (by decide) (xgn (by decide) (xgn (by decide) (xgn (by decide) (xgn (by decide) hm))))) (xgs (xgn (by decide) (xgs (xgn (by decide) (xgs ((hk 129 (by decide) (by decide)).trans W0_129)))))) (xgn (by decide) (xgs (xgn (by decide) (xgs (xgn (by decide) (((hk 130 (by decide) (by decide)).trans W0_130))))))) (xup_n (by decide) xup_s) (xup_s) hB c0 c1 (by omega) (by omega) (by omega) (by omega) c8 c9 c10 c11 c12 c13 c14 c15 c16 c17 c18 c19 c20 c21 c22 c23 c24 c25 c26 c27 c28
    refine ⟨w2, mnum3 hm1 (mn3_1_3 hk hm c0 c1 c2 c3 c4 c5 c6 c7 c8 c9 c10 c11 c12 c13 c14 c15 c16 c17 c18 c19 c20 c21 c22 c23 c24 c25 c26 c27 c28 h1), xKp.trans ?_ h2, h3⟩
    refine xKp.set ?_ (fun h hh => by unfold xPM at hh; omega) (xgn (by decide) (xgs (xgn (by decide) (xgs ((hk 129 (by decide) (by decide)).trans W0_129))))) xcs_o
    refine xKp.set ?_ (fun h hh => by unfold xPM at hh; omega) (xgn (by decide) (xgs (xgn (by decide) (((hk 130 (by decide) (by decide)).trans W0_130))))) xcs_a
    refine xKp.set ?_ (fun h hh => by unfold xPM at hh; omega) (xgn (by decide) (xgs ((hk 129 (by decide) (by decide)).trans W0_129))) xcs_o
    refine xKp.set ?_ (fun h hh => by unfold xPM at hh; omega) (xgn (by decide) (((hk 130 (by decide) (by decide)).trans W0_130))) xcs_a
    refine xKp.set ?_ (fun h hh => by unfold xPM at hh; omega) (((hk 129 (by decide) (by decide)).trans W0_129)) xcs_o
    exact xKp.set xKp.refl (fun h hh => by unfold xPM at hh; omega) hm1 xcs_o
  · obtain ⟨w2, h1, h2, h3⟩ := rd4_1 (d := d) (xs := xs) (m := (-(xvv xs))) (sc := (xs 4)) (md := (xs 5)) (w := ((((((w1.set 128 (Sum.inr (12, [Value.ref 129, Value.ref 131, Value.ref 133, Value.ref 135, Value.ref 137, Value.ref 139, Value.ref 141, Value.ref 143, Value.ref 145, Value.ref 147, Value.ref 149, Value.ref 151, Value.ref 153, Value.ref 154, Value.ref 155, Value.ref 156, Value.ref 157, Value.int (-16384), Value.int 16384, Value.int 0, Value.int 0, Value.int 0, Value.ref 158, Value.ref 159, Value.int 0, Value.int 0, Value.int 0, Value.int 0, Value.int 0, Value.int 0, Value.int 0, Value.int 0]))).set 129 (Sum.inr (13, [Value.ref 130, Value.int 0]))).set 130 (Sum.inl (0, 4700, xup (fun _ => Value.int 0) (0 : Int32).toInt.toNat (Value.int (xq (-(xvv xs))))))).set 129 (Sum.inr (13, [Value.ref 130, Value.int 1]))).set 130 (Sum.inl (0, 4700, xup (xup (fun _ => Value.int 0) (0 : Int32).toInt.toNat (Value.int (xq (-(xvv xs))))) (1 : Int32).toInt.toNat (Value.int (xq (xqs (-(xvv xs)))))))).set 129 (Sum.inr (13, [Value.ref 130, Value.int 2])))) (P := P) (fun h h1 h2 => (xgn (by omega) (xgn (by omega) (xgn (by omega) (xgn (by omega) (xgn (by omega) (rfl)))))).trans (hk h (by omega) h2)) (xgn (by decide) (xgn (by decide) (xgn (by decide) (xgn (by decide) (xgn (by decide) hm))))) (xgs (xgn (by decide) (xgs (xgn (by decide) (xgs ((hk 129 (by decide) (by decide)).trans W0_129)))))) (xgn (by decide) (xgs (xgn (by decide) (xgs (xgn (by decide) (((hk 130 (by decide) (by decide)).trans W0_130))))))) (xup_n (by decide) xup_s) (xup_s) hB c0 c1 (by omega) (by omega) (by omega) (by omega) c8 c9 c10 c11 c12 c13 c14 c15 c16 c17 c18 c19 c20 c21 c22 c23 c24 c25 c26 c27
    refine ⟨w2, mnum3 hm1 (mn3_1_4 hk hm c0 c1 c2 c3 c4 c5 c6 c7 c8 c9 c10 c11 c12 c13 c14 c15 c16 c17 c18 c19 c20 c21 c22 c23 c24 c25 c26 c27 h1), xKp.trans ?_ h2, h3⟩
    refine xKp.set ?_ (fun h hh => by unfold xPM at hh; omega) (xgn (by decide) (xgs (xgn (by decide) (xgs ((hk 129 (by decide) (by decide)).trans W0_129))))) xcs_o
    refine xKp.set ?_ (fun h hh => by unfold xPM at hh; omega) (xgn (by decide) (xgs (xgn (by decide) (((hk 130 (by decide) (by decide)).trans W0_130))))) xcs_a
    refine xKp.set ?_ (fun h hh => by unfold xPM at hh; omega) (xgn (by decide) (xgs ((hk 129 (by decide) (by decide)).trans W0_129))) xcs_o
    refine xKp.set ?_ (fun h hh => by unfold xPM at hh; omega) (xgn (by decide) (((hk 130 (by decide) (by decide)).trans W0_130))) xcs_a
    refine xKp.set ?_ (fun h hh => by unfold xPM at hh; omega) (((hk 129 (by decide) (by decide)).trans W0_129)) xcs_o
    exact xKp.set xKp.refl (fun h hh => by unfold xPM at hh; omega) hm1 xcs_o
  · obtain ⟨w2, h1, h2, h3⟩ := rd5_1 (d := d) (xs := xs) (m := (-(xvv xs))) (sc := (xs 4)) (md := (xs 5)) (w := ((((((w1.set 128 (Sum.inr (12, [Value.ref 129, Value.ref 131, Value.ref 133, Value.ref 135, Value.ref 137, Value.ref 139, Value.ref 141, Value.ref 143, Value.ref 145, Value.ref 147, Value.ref 149, Value.ref 151, Value.ref 153, Value.ref 154, Value.ref 155, Value.ref 156, Value.ref 157, Value.int (-16384), Value.int 16384, Value.int 0, Value.int 0, Value.int 0, Value.ref 158, Value.ref 159, Value.int 0, Value.int 0, Value.int 0, Value.int 0, Value.int 0, Value.int 0, Value.int 0, Value.int 0]))).set 129 (Sum.inr (13, [Value.ref 130, Value.int 0]))).set 130 (Sum.inl (0, 4700, xup (fun _ => Value.int 0) (0 : Int32).toInt.toNat (Value.int (xq (-(xvv xs))))))).set 129 (Sum.inr (13, [Value.ref 130, Value.int 1]))).set 130 (Sum.inl (0, 4700, xup (xup (fun _ => Value.int 0) (0 : Int32).toInt.toNat (Value.int (xq (-(xvv xs))))) (1 : Int32).toInt.toNat (Value.int (xq (xqs (-(xvv xs)))))))).set 129 (Sum.inr (13, [Value.ref 130, Value.int 2])))) (P := P) (fun h h1 h2 => (xgn (by omega) (xgn (by omega) (xgn (by omega) (xgn (by omega) (xgn (by omega) (rfl)))))).trans (hk h (by omega) h2)) (xgn (by decide) (xgn (by decide) (xgn (by decide) (xgn (by decide) (xgn (by decide) hm))))) (xgs (xgn (by decide) (xgs (xgn (by decide) (xgs ((hk 129 (by decide) (by decide)).trans W0_129)))))) (xgn (by decide) (xgs (xgn (by decide) (xgs (xgn (by decide) (((hk 130 (by decide) (by decide)).trans W0_130))))))) (xup_n (by decide) xup_s) (xup_s) hB c0 c1 (by omega) (by omega) (by omega) (by omega) c8 c9 c10 c11 c12 c13 c14 c15 c16 c17 c18 c19 c20 c21 c22 c23 c24 c25 c26
    refine ⟨w2, mnum3 hm1 (mn3_1_5 hk hm c0 c1 c2 c3 c4 c5 c6 c7 c8 c9 c10 c11 c12 c13 c14 c15 c16 c17 c18 c19 c20 c21 c22 c23 c24 c25 c26 h1), xKp.trans ?_ h2, h3⟩
    refine xKp.set ?_ (fun h hh => by unfold xPM at hh; omega) (xgn (by decide) (xgs (xgn (by decide) (xgs ((hk 129 (by decide) (by decide)).trans W0_129))))) xcs_o
    refine xKp.set ?_ (fun h hh => by unfold xPM at hh; omega) (xgn (by decide) (xgs (xgn (by decide) (((hk 130 (by decide) (by decide)).trans W0_130))))) xcs_a
    refine xKp.set ?_ (fun h hh => by unfold xPM at hh; omega) (xgn (by decide) (xgs ((hk 129 (by decide) (by decide)).trans W0_129))) xcs_o
    refine xKp.set ?_ (fun h hh => by unfold xPM at hh; omega) (xgn (by decide) (((hk 130 (by decide) (by decide)).trans W0_130))) xcs_a
    refine xKp.set ?_ (fun h hh => by unfold xPM at hh; omega) (((hk 129 (by decide) (by decide)).trans W0_129)) xcs_o
    exact xKp.set xKp.refl (fun h hh => by unfold xPM at hh; omega) hm1 xcs_o
  · obtain ⟨w2, h1, h2, h3⟩ := rd6_1 (d := d) (xs := xs) (m := (-(xvv xs))) (sc := (xs 4)) (md := (xs 5)) (w := ((((((((w1.set 128 (Sum.inr (12, [Value.ref 129, Value.ref 131, Value.ref 133, Value.ref 135, Value.ref 137, Value.ref 139, Value.ref 141, Value.ref 143, Value.ref 145, Value.ref 147, Value.ref 149, Value.ref 151, Value.ref 153, Value.ref 154, Value.ref 155, Value.ref 156, Value.ref 157, Value.int (-16384), Value.int 16384, Value.int 0, Value.int 0, Value.int 0, Value.ref 158, Value.ref 159, Value.int 0, Value.int 0, Value.int 0, Value.int 0, Value.int 0, Value.int 0, Value.int 0, Value.int 0]))).set 129 (Sum.inr (13, [Value.ref 130, Value.int 0]))).set 130 (Sum.inl (0, 4700, xup (fun _ => Value.int 0) (0 : Int32).toInt.toNat (Value.int (xq (-(xvv xs))))))).set 129 (Sum.inr (13, [Value.ref 130, Value.int 1]))).set 130 (Sum.inl (0, 4700, xup (xup (fun _ => Value.int 0) (0 : Int32).toInt.toNat (Value.int (xq (-(xvv xs))))) (1 : Int32).toInt.toNat (Value.int (xq (xqs (-(xvv xs)))))))).set 129 (Sum.inr (13, [Value.ref 130, Value.int 2]))).set 130 (Sum.inl (0, 4700, xup (xup (xup (fun _ => Value.int 0) (0 : Int32).toInt.toNat (Value.int (xq (-(xvv xs))))) (1 : Int32).toInt.toNat (Value.int (xq (xqs (-(xvv xs)))))) (2 : Int32).toInt.toNat (Value.int (xq (xqs (xqs (-(xvv xs))))))))).set 129 (Sum.inr (13, [Value.ref 130, Value.int 3])))) (P := P) (fun h h1 h2 => (xgn (by omega) (xgn (by omega) (xgn (by omega) (xgn (by omega) (xgn (by omega) (xgn (by omega) (xgn (by omega) (rfl)))))))).trans (hk h (by omega) h2)) (xgn (by decide) (xgn (by decide) (xgn (by decide) (xgn (by decide) (xgn (by decide) (xgn (by decide) (xgn (by decide) hm))))))) (xgs (xgn (by decide) (xgs (xgn (by decide) (xgs (xgn (by decide) (xgs ((hk 129 (by decide) (by decide)).trans W0_129)))))))) (xgn (by decide) (xgs (xgn (by decide) (xgs (xgn (by decide) (xgs (xgn (by decide) (((hk 130 (by decide) (by decide)).trans W0_130))))))))) (xup_n (by decide) (xup_n (by decide) xup_s)) (xup_n (by decide) xup_s) (xup_s) hB c0 c1 (by omega) (by omega) (by omega) (by omega) c8 c9 c10 c11 c12 c13 c14 c15 c16 c17 c18 c19 c20 c21 c22 c23 c24 c25 c26 c27 c28
    refine ⟨w2, mnum3 hm1 (mn3_1_6 hk hm c0 c1 c2 c3 c4 c5 c6 c7 c8 c9 c10 c11 c12 c13 c14 c15 c16 c17 c18 c19 c20 c21 c22 c23 c24 c25 c26 c27 c28 h1), xKp.trans ?_ h2, h3⟩
    refine xKp.set ?_ (fun h hh => by unfold xPM at hh; omega) (xgn (by decide) (xgs (xgn (by decide) (xgs (xgn (by decide) (xgs ((hk 129 (by decide) (by decide)).trans W0_129))))))) xcs_o
    refine xKp.set ?_ (fun h hh => by unfold xPM at hh; omega) (xgn (by decide) (xgs (xgn (by decide) (xgs (xgn (by decide) (((hk 130 (by decide) (by decide)).trans W0_130))))))) xcs_a
    refine xKp.set ?_ (fun h hh => by unfold xPM at hh; omega) (xgn (by decide) (xgs (xgn (by decide) (xgs ((hk 129 (by decide) (by decide)).trans W0_129))))) xcs_o
    refine xKp.set ?_ (fun h hh => by unfold xPM at hh; omega) (xgn (by decide) (xgs (xgn (by decide) (((hk 130 (by decide) (by decide)).trans W0_130))))) xcs_a
    refine xKp.set ?_ (fun h hh => by unfold xPM at hh; omega) (xgn (by decide) (xgs ((hk 129 (by decide) (by decide)).trans W0_129))) xcs_o
    refine xKp.set ?_ (fun h hh => by unfold xPM at hh; omega) (xgn (by decide) (((hk 130 (by decide) (by decide)).trans W0_130))) xcs_a
    refine xKp.set ?_ (fun h hh => by unfold xPM at hh; omega) (((hk 129 (by decide) (by decide)).trans W0_129)) xcs_o
    exact xKp.set xKp.refl (fun h hh => by unfold xPM at hh; omega) hm1 xcs_o
  · obtain ⟨w2, h1, h2, h3⟩ := rd7_1 (d := d) (xs := xs) (m := (-(xvv xs))) (sc := (xs 4)) (md := (xs 5)) (w := ((((((((w1.set 128 (Sum.inr (12, [Value.ref 129, Value.ref 131, Value.ref 133, Value.ref 135, Value.ref 137, Value.ref 139, Value.ref 141, Value.ref 143, Value.ref 145, Value.ref 147, Value.ref 149, Value.ref 151, Value.ref 153, Value.ref 154, Value.ref 155, Value.ref 156, Value.ref 157, Value.int (-16384), Value.int 16384, Value.int 0, Value.int 0, Value.int 0, Value.ref 158, Value.ref 159, Value.int 0, Value.int 0, Value.int 0, Value.int 0, Value.int 0, Value.int 0, Value.int 0, Value.int 0]))).set 129 (Sum.inr (13, [Value.ref 130, Value.int 0]))).set 130 (Sum.inl (0, 4700, xup (fun _ => Value.int 0) (0 : Int32).toInt.toNat (Value.int (xq (-(xvv xs))))))).set 129 (Sum.inr (13, [Value.ref 130, Value.int 1]))).set 130 (Sum.inl (0, 4700, xup (xup (fun _ => Value.int 0) (0 : Int32).toInt.toNat (Value.int (xq (-(xvv xs))))) (1 : Int32).toInt.toNat (Value.int (xq (xqs (-(xvv xs)))))))).set 129 (Sum.inr (13, [Value.ref 130, Value.int 2]))).set 130 (Sum.inl (0, 4700, xup (xup (xup (fun _ => Value.int 0) (0 : Int32).toInt.toNat (Value.int (xq (-(xvv xs))))) (1 : Int32).toInt.toNat (Value.int (xq (xqs (-(xvv xs)))))) (2 : Int32).toInt.toNat (Value.int (xq (xqs (xqs (-(xvv xs))))))))).set 129 (Sum.inr (13, [Value.ref 130, Value.int 3])))) (P := P) (fun h h1 h2 => (xgn (by omega) (xgn (by omega) (xgn (by omega) (xgn (by omega) (xgn (by omega) (xgn (by omega) (xgn (by omega) (rfl)))))))).trans (hk h (by omega) h2)) (xgn (by decide) (xgn (by decide) (xgn (by decide) (xgn (by decide) (xgn (by decide) (xgn (by decide) (xgn (by decide) hm))))))) (xgs (xgn (by decide) (xgs (xgn (by decide) (xgs (xgn (by decide) (xgs ((hk 129 (by decide) (by decide)).trans W0_129)))))))) (xgn (by decide) (xgs (xgn (by decide) (xgs (xgn (by decide) (xgs (xgn (by decide) (((hk 130 (by decide) (by decide)).trans W0_130))))))))) (xup_n (by decide) (xup_n (by decide) xup_s)) (xup_n (by decide) xup_s) (xup_s) hB c0 c1 (by omega) (by omega) (by omega) (by omega) c8 c9 c10 c11 c12 c13 c14 c15 c16 c17 c18 c19 c20 c21 c22 c23
    refine ⟨w2, mnum3 hm1 (mn3_1_7 hk hm c0 c1 c2 c3 c4 c5 c6 c7 c8 c9 c10 c11 c12 c13 c14 c15 c16 c17 c18 c19 c20 c21 c22 c23 h1), xKp.trans ?_ h2, h3⟩
    refine xKp.set ?_ (fun h hh => by unfold xPM at hh; omega) (xgn (by decide) (xgs (xgn (by decide) (xgs (xgn (by decide) (xgs ((hk 129 (by decide) (by decide)).trans W0_129))))))) xcs_o
    refine xKp.set ?_ (fun h hh => by unfold xPM at hh; omega) (xgn (by decide) (xgs (xgn (by decide) (xgs (xgn (by decide) (((hk 130 (by decide) (by decide)).trans W0_130))))))) xcs_a
    refine xKp.set ?_ (fun h hh => by unfold xPM at hh; omega) (xgn (by decide) (xgs (xgn (by decide) (xgs ((hk 129 (by decide) (by decide)).trans W0_129))))) xcs_o
    refine xKp.set ?_ (fun h hh => by unfold xPM at hh; omega) (xgn (by decide) (xgs (xgn (by decide) (((hk 130 (by decide) (by decide)).trans W0_130))))) xcs_a
    refine xKp.set ?_ (fun h hh => by unfold xPM at hh; omega) (xgn (by decide) (xgs ((hk 129 (by decide) (by decide)).trans W0_129))) xcs_o
    refine xKp.set ?_ (fun h hh => by unfold xPM at hh; omega) (xgn (by decide) (((hk 130 (by decide) (by decide)).trans W0_130))) xcs_a
    refine xKp.set ?_ (fun h hh => by unfold xPM at hh; omega) (((hk 129 (by decide) (by decide)).trans W0_129)) xcs_o
    exact xKp.set xKp.refl (fun h hh => by unfold xPM at hh; omega) hm1 xcs_o
