/-! raise of the class's powers -/
abbrev PT := Nat × Int × Int
def pCut (most : Int) (v : Nat) (sc cut : Int) : PT := (v / 2 ^ (32 * cutc v most), sc + 32 * ((cutc v most : Nat) : Int), orI cut (nany v (32 * ((cutc v most : Nat) : Int)) = true))
def pSq (most : Int) (x : PT) : PT := pCut most (x.1 * x.1) (x.2.1 + x.2.1) x.2.2
def pMu (most : Int) (F : Nat) (sF : Int) (x : PT) : PT := pCut most (x.1 * F) (x.2.1 + sF) x.2.2
def pSt (most : Int) (F : Nat) (sF : Int) (b : Nat) (x : PT) : PT := if b = 0 then pSq most x else pMu most F sF (pSq most x)
/-- the last i bits of n -/
def pF (most : Int) (F : Nat) (sF : Int) (n : Nat) : Nat → PT → PT
  | 0, x => x
  | i + 1, x => pF most F sF n i (pSt most F sF (n / 2 ^ i % 2) x)
/-- all numbers on the way are small enough -/
def pOk (most : Int) (F : Nat) (sF : Int) (n : Nat) : Nat → PT → Prop
  | 0, _ => True
  | i + 1, x => xbl x.1 ≤ 310000 ∧ xbl (pSq most x).1 ≤ 310000 ∧ pOk most F sF n i (pSt most F sF (n / 2 ^ i % 2) x)
def pS (S : Nat → Nat → Int) (V : Nat → Nat) (S1 : Nat → Nat → Int) (V1 : Nat → Nat) (hv hs F : Nat) (x : PT) : Prop :=
  (∀ b j, b ≠ 79 → S1 b j = S b j) ∧ S1 79 0 = (hv : Int) ∧ S1 79 1 = (hs : Int) ∧ S1 79 3 = x.2.1 ∧ S1 79 4 = x.2.2 ∧ V1 hv = x.1 ∧ V1 84 = F ∧ (∀ k, k ≠ 80 → k ≠ 82 → k ≠ 84 → V1 k = V k) ∧ ((hv = 80 ∧ hs = 82) ∨ (hv = 82 ∧ hs = 80)) ∧ (x.2.2 = 0 ∨ x.2.2 = 1)
theorem o_ubit {n : Int} {k : Nat} (h0 : 0 ≤ n) (h1 : n < 2147483648) (hk : k < 32) : (((Int32.ofInt n).toUInt32 >>> ((Int32.ofInt (k : Int)).toUInt32 &&& Int32.toUInt32 31)).toInt32) &&& (1 : Int32) = Int32.ofInt ((n.toNat / 2 ^ k % 2 : Nat) : Int) := by
  have e : (Int32.ofInt (k : Int)).toInt = (k : Int) := oI (by omega) (by omega)
  have e2 : xun (Int32.ofInt n) = n.toNat := by have := xun_m n; omega
  apply xun_inj
  rw [xun_and1, xushr_n (by omega) (by omega), e, e2, show ((k : Int)).toNat = k from rfl]
  have h2 := xun_m ((n.toNat / 2 ^ k % 2 : Nat) : Int)
  have h3 := Nat.mod_lt (n.toNat / 2 ^ k) (show 0 < 2 by decide)
  omega
section
variable {w0 w : xW} {L Z : Nat} {S S1 : Nat → Nat → Int} {V V1 : Nat → Nat} {d hv hs F : Nat} {x : PT} {lv : xLv} {Q : Option Value ⊕ Nat → xW → Prop} {most n sF : Int}
theorem pw_sq (hR : cX w0 L Z S1 V1 w) (hp : pS S V S1 V1 hv hs F x) (hx : xbl x.1 ≤ 310000) (hm : 0 ≤ most ∧ most ≤ 20000000) (l0 : xld lv 0 = some (Value.ref 79)) (l3 : xld lv 3 = some (Value.int (Int32.ofInt most))) (l4 : xld lv 4 = some (Value.int (Int32.ofInt sF))) (hQ : ∀ w' S2 V2, cX w0 L Z S2 V2 w' → pS S V S2 V2 hs hv F (pSq most x) → xEv (d + 5) 83 89 lv [] w' Q) : xEv (d + 5) 83 51 lv [] w Q := by
  have hp0 := hp
  obtain ⟨p1, p2, p3, p4, p5, p6, p7, p8, p9, p10⟩ := hp
  have khv : kd hv = 3 := by rcases p9 with ⟨rfl, rfl⟩ | ⟨rfl, rfl⟩ <;> decide +kernel
  have khs : kd hs = 3 := by rcases p9 with ⟨rfl, rfl⟩ | ⟨rfl, rfl⟩ <;> decide +kernel
  refine i_83_51 (x := 79) l0 ?_
  refine i_83_52 (v := Value.ref (S1 79 1).toNat) (hR.k6 kq_79) rfl ?_
  rw [show (S1 79 1).toNat = hs by rw [p3]; rfl]
  refine i_83_55 (x := 79) l0 ?_
  refine i_83_56 (v := Value.ref (S1 79 0).toNat) (hR.k6 kq_79) rfl ?_
  rw [show (S1 79 0).toNat = hv by rw [p2]; rfl]
  obtain ⟨fs, hobj⟩ := hR.nat khs
  obtain ⟨w, hrun, hR⟩ := X_square (d := d + 1) (h := hs) (ha := hv) (u := x.1) hR khs khv (by omega) (p6) (by omega)
  refine i_83_59 hobj (Nat.le_of_ble_eq_true rfl) hrun ?_
  refine i_83_62 (x := 79) l0 ?_
  have hobj := hR.k6 kq_79
  obtain ⟨w, hrun, hR⟩ := x_swap (d := d + 4) (hv := hv) (hs := hs) hR (by rw [p2]) (by rw [p3])
  refine i_83_63 hobj (Nat.le_of_ble_eq_true rfl) hrun ?_
  refine i_83_66 (x := 79) l0 ?_
  refine i_83_67 rfl ?_
  refine i_83_68 (v := Value.int (Int32.ofInt ((u2 (u2 S1 79 0 (hs : Int)) 79 1 (hv : Int)) 79 3))) (hR.k6 kq_79) rfl ?_
  rw [show Int32.ofInt ((u2 (u2 S1 79 0 (hs : Int)) 79 1 (hv : Int)) 79 3) = Int32.ofInt (S1 79 3) by rw [u2_eq, if_neg (fun e => absurd e.2 (by decide)), u2_eq, if_neg (fun e => absurd e.2 (by decide))]]
  rw [p4]
  refine i_83_71 (x := 79) l0 ?_
  refine i_83_72 (v := Value.int (Int32.ofInt ((u2 (u2 S1 79 0 (hs : Int)) 79 1 (hv : Int)) 79 3))) (hR.k6 kq_79) rfl ?_
  rw [show Int32.ofInt ((u2 (u2 S1 79 0 (hs : Int)) 79 1 (hv : Int)) 79 3) = Int32.ofInt (S1 79 3) by rw [u2_eq, if_neg (fun e => absurd e.2 (by decide)), u2_eq, if_neg (fun e => absurd e.2 (by decide))]]
  rw [p4]
  refine i_83_75 (x := 79) l0 ?_
  refine i_83_76 (x := 79) l0 ?_
  refine i_83_77 (v := Value.ref ((u2 (u2 S1 79 0 (hs : Int)) 79 1 (hv : Int)) 79 0).toNat) (hR.k6 kq_79) rfl ?_
  rw [show ((u2 (u2 S1 79 0 (hs : Int)) 79 1 (hv : Int)) 79 0).toNat = hs by rw [u2_eq, if_neg (fun e => absurd e.2 (by decide)), u2_eq, if_pos ⟨rfl, rfl⟩]; rfl]
  refine i_83_80 (x := Int32.ofInt most) l3 ?_
  have hobj := hR.k6 kq_79
  have ecu2 : (u2 (u2 S1 79 0 (hs : Int)) 79 1 (hv : Int)) 79 4 = x.2.2 := by rw [u2_eq, if_neg (fun e => absurd e.2 (by decide)), u2_eq, if_neg (fun e => absurd e.2 (by decide)), p5]
  have ev2 : (uv V1 hs (x.1 * x.1)) hs = x.1 * x.1 := uv_s
  obtain ⟨w, hrun, hR⟩ := x_cut (d := d) (h := hs) (most := most) hR khs (by rw [ecu2]; first | exact orI_01 _ _ | omega) ⟨by omega, by omega⟩
  rw [ev2] at hrun
  rw [ecu2, ev2] at hR
  rw [uvv] at hR
  refine i_83_81 hobj (Nat.le_of_ble_eq_true rfl) hrun ?_
  refine i_83_84 (c := Int32.ofInt (x.2.1 + (32 * ((cutc (x.1 * x.1) most : Nat) : Int)))) (o_add x.2.1 (32 * ((cutc (x.1 * x.1) most : Nat) : Int))) ?_
  refine i_83_85 (c := Int32.ofInt (x.2.1 + (x.2.1 + (32 * ((cutc (x.1 * x.1) most : Nat) : Int))))) (o_add x.2.1 (x.2.1 + (32 * ((cutc (x.1 * x.1) most : Nat) : Int)))) ?_
  refine i_83_86 (fs2 := f6 (u1 ((u2 (u2 (u2 S1 79 0 (hs : Int)) 79 1 (hv : Int)) 79 4 (orI x.2.2 (nany (x.1 * x.1) (32 * ((cutc (x.1 * x.1) most : Nat) : Int)) = true))) 79) 3 (x.2.1 + (x.2.1 + (32 * ((cutc (x.1 * x.1) most : Nat) : Int)))))) (hR.k6 kq_79) (Nat.le_of_ble_eq_true rfl) rfl (h7k kq_79 (by decide)) ?_
  refine xgen (P := cX w0 L Z (u2 (u2 (u2 (u2 S1 79 0 (hs : Int)) 79 1 (hv : Int)) 79 4 (orI x.2.2 (nany (x.1 * x.1) (32 * ((cutc (x.1 * x.1) most : Nat) : Int)) = true))) 79 3 (x.2.1 + (x.2.1 + (32 * ((cutc (x.1 * x.1) most : Nat) : Int))))) (uv V1 hs ((x.1 * x.1) / 2 ^ (32 * cutc (x.1 * x.1) most)))) (hR.p6 kq_79) (fun w hR => ?_)
  refine hQ _ _ _ hR ⟨fun b j hb => by rw [u2_eq, if_neg (fun e => hb e.1), u2_eq, if_neg (fun e => hb e.1), u2_eq, if_neg (fun e => hb e.1), u2_eq, if_neg (fun e => hb e.1)]; exact p1 b j hb, ?_, ?_, ?_, ?_, ?_, ?_, ?_, by omega, ?_⟩
  · rw [u2_eq, if_neg (fun e => absurd e.2 (by decide)), u2_eq, if_neg (fun e => absurd e.2 (by decide)), u2_eq, if_neg (fun e => absurd e.2 (by decide)), u2_eq, if_pos ⟨rfl, rfl⟩]
  · rw [u2_eq, if_neg (fun e => absurd e.2 (by decide)), u2_eq, if_neg (fun e => absurd e.2 (by decide)), u2_eq, if_pos ⟨rfl, rfl⟩]
  · rw [u2_eq, if_pos ⟨rfl, rfl⟩]; show _ = _ + _; omega
  · rw [u2_eq, if_neg (fun e => absurd e.2 (by decide)), u2_eq, if_pos ⟨rfl, rfl⟩]; rfl
  · exact uv_s
  · exact (uv_n (by omega)).trans (p7)
  · exact fun k k1 k2 k3 => (uv_n (by omega)).trans (p8 k k1 k2 k3)
  · exact orI_01 _ _
theorem pw_mu (hR : cX w0 L Z S1 V1 w) (hp : pS S V S1 V1 hv hs F x) (hx : xbl x.1 ≤ 310000) (hF : xbl F ≤ 310000) (hm : 0 ≤ most ∧ most ≤ 20000000) (l0 : xld lv 0 = some (Value.ref 79)) (l3 : xld lv 3 = some (Value.int (Int32.ofInt most))) (l4 : xld lv 4 = some (Value.int (Int32.ofInt sF))) (hQ : ∀ w' S2 V2, cX w0 L Z S2 V2 w' → pS S V S2 V2 hs hv F (pMu most F sF x) → xEv (d + 5) 83 138 lv [] w' Q) : xEv (d + 5) 83 98 lv [] w Q := by
  have hp0 := hp
  obtain ⟨p1, p2, p3, p4, p5, p6, p7, p8, p9, p10⟩ := hp
  have khv : kd hv = 3 := by rcases p9 with ⟨rfl, rfl⟩ | ⟨rfl, rfl⟩ <;> decide +kernel
  have khs : kd hs = 3 := by rcases p9 with ⟨rfl, rfl⟩ | ⟨rfl, rfl⟩ <;> decide +kernel
  refine i_83_98 (x := 79) l0 ?_
  refine i_83_99 (v := Value.ref (S1 79 1).toNat) (hR.k6 kq_79) rfl ?_
  rw [show (S1 79 1).toNat = hs by rw [p3]; rfl]
  refine i_83_102 (x := 79) l0 ?_
  refine i_83_103 (v := Value.ref (S1 79 0).toNat) (hR.k6 kq_79) rfl ?_
  rw [show (S1 79 0).toNat = hv by rw [p2]; rfl]
  refine i_83_106 (x := 79) l0 ?_
  refine i_83_107 (v := Value.ref 84) (hR.k6 kq_79) rfl ?_
  obtain ⟨fs, hobj⟩ := hR.nat khs
  obtain ⟨w, hrun, hR⟩ := X_prod (d := d + 1) (h := hs) (ha := hv) (hb := 84) (u := x.1) (v2 := F) hR khs khv kq_84 (by omega) (by omega) (p6) (p7) (by omega)
  refine i_83_110 hobj (Nat.le_of_ble_eq_true rfl) hrun ?_
  refine i_83_113 (x := 79) l0 ?_
  have hobj := hR.k6 kq_79
  obtain ⟨w, hrun, hR⟩ := x_swap (d := d + 4) (hv := hv) (hs := hs) hR (by rw [p2]) (by rw [p3])
  refine i_83_114 hobj (Nat.le_of_ble_eq_true rfl) hrun ?_
  refine i_83_117 (x := 79) l0 ?_
  refine i_83_118 rfl ?_
  refine i_83_119 (v := Value.int (Int32.ofInt ((u2 (u2 S1 79 0 (hs : Int)) 79 1 (hv : Int)) 79 3))) (hR.k6 kq_79) rfl ?_
  rw [show Int32.ofInt ((u2 (u2 S1 79 0 (hs : Int)) 79 1 (hv : Int)) 79 3) = Int32.ofInt (S1 79 3) by rw [u2_eq, if_neg (fun e => absurd e.2 (by decide)), u2_eq, if_neg (fun e => absurd e.2 (by decide))]]
  rw [p4]
  refine i_83_122 (x := Int32.ofInt sF) l4 ?_
  refine i_83_124 (x := 79) l0 ?_
  refine i_83_125 (x := 79) l0 ?_
  refine i_83_126 (v := Value.ref ((u2 (u2 S1 79 0 (hs : Int)) 79 1 (hv : Int)) 79 0).toNat) (hR.k6 kq_79) rfl ?_
  rw [show ((u2 (u2 S1 79 0 (hs : Int)) 79 1 (hv : Int)) 79 0).toNat = hs by rw [u2_eq, if_neg (fun e => absurd e.2 (by decide)), u2_eq, if_pos ⟨rfl, rfl⟩]; rfl]
  refine i_83_129 (x := Int32.ofInt most) l3 ?_
  have hobj := hR.k6 kq_79
  have ecu2 : (u2 (u2 S1 79 0 (hs : Int)) 79 1 (hv : Int)) 79 4 = x.2.2 := by rw [u2_eq, if_neg (fun e => absurd e.2 (by decide)), u2_eq, if_neg (fun e => absurd e.2 (by decide)), p5]
  have ev2 : (uv V1 hs (x.1 * F)) hs = x.1 * F := uv_s
  obtain ⟨w, hrun, hR⟩ := x_cut (d := d) (h := hs) (most := most) hR khs (by rw [ecu2]; first | exact orI_01 _ _ | omega) ⟨by omega, by omega⟩
  rw [ev2] at hrun
  rw [ecu2, ev2] at hR
  rw [uvv] at hR
  refine i_83_130 hobj (Nat.le_of_ble_eq_true rfl) hrun ?_
  refine i_83_133 (c := Int32.ofInt (sF + (32 * ((cutc (x.1 * F) most : Nat) : Int)))) (o_add sF (32 * ((cutc (x.1 * F) most : Nat) : Int))) ?_
  refine i_83_134 (c := Int32.ofInt (x.2.1 + (sF + (32 * ((cutc (x.1 * F) most : Nat) : Int))))) (o_add x.2.1 (sF + (32 * ((cutc (x.1 * F) most : Nat) : Int)))) ?_
  refine i_83_135 (fs2 := f6 (u1 ((u2 (u2 (u2 S1 79 0 (hs : Int)) 79 1 (hv : Int)) 79 4 (orI x.2.2 (nany (x.1 * F) (32 * ((cutc (x.1 * F) most : Nat) : Int)) = true))) 79) 3 (x.2.1 + (sF + (32 * ((cutc (x.1 * F) most : Nat) : Int)))))) (hR.k6 kq_79) (Nat.le_of_ble_eq_true rfl) rfl (h7k kq_79 (by decide)) ?_
  refine xgen (P := cX w0 L Z (u2 (u2 (u2 (u2 S1 79 0 (hs : Int)) 79 1 (hv : Int)) 79 4 (orI x.2.2 (nany (x.1 * F) (32 * ((cutc (x.1 * F) most : Nat) : Int)) = true))) 79 3 (x.2.1 + (sF + (32 * ((cutc (x.1 * F) most : Nat) : Int))))) (uv V1 hs ((x.1 * F) / 2 ^ (32 * cutc (x.1 * F) most)))) (hR.p6 kq_79) (fun w hR => ?_)
  refine hQ _ _ _ hR ⟨fun b j hb => by rw [u2_eq, if_neg (fun e => hb e.1), u2_eq, if_neg (fun e => hb e.1), u2_eq, if_neg (fun e => hb e.1), u2_eq, if_neg (fun e => hb e.1)]; exact p1 b j hb, ?_, ?_, ?_, ?_, ?_, ?_, ?_, by omega, ?_⟩
  · rw [u2_eq, if_neg (fun e => absurd e.2 (by decide)), u2_eq, if_neg (fun e => absurd e.2 (by decide)), u2_eq, if_neg (fun e => absurd e.2 (by decide)), u2_eq, if_pos ⟨rfl, rfl⟩]
  · rw [u2_eq, if_neg (fun e => absurd e.2 (by decide)), u2_eq, if_neg (fun e => absurd e.2 (by decide)), u2_eq, if_pos ⟨rfl, rfl⟩]
  · rw [u2_eq, if_pos ⟨rfl, rfl⟩]; show _ = _ + _; omega
  · rw [u2_eq, if_neg (fun e => absurd e.2 (by decide)), u2_eq, if_pos ⟨rfl, rfl⟩]; rfl
  · exact uv_s
  · exact (uv_n (by omega)).trans (p7)
  · exact fun k k1 k2 k3 => (uv_n (by omega)).trans (p8 k k1 k2 k3)
  · exact orI_01 _ _
end
