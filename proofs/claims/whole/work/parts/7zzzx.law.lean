/-! the law's loop: the calls, second half -/
section
variable {W w : xW} {L Z d n i : Nat} {f : Nat → Int} {lv : xLv} {Q : Option Value ⊕ Nat → xW → Prop}
theorem lw_12 (hIV : IV0 W L Z w) (h0 : W[0]? = some (.inl (0, n, fun j => .int (Int32.ofInt (f j))))) (hf : ∀ j, -2147483648 ≤ f j ∧ f j < 2147483648) (hi : i + 6 ≤ n) (hn : n ≤ 3072) (hl : lvB lv i) (k : lwN W d L Z i Q) : xEv (d + 21) 287 1253 lv [] w Q := by
  obtain ⟨l0, l1, l2, l3, l4⟩ := id hl
  have hw := hIV.c0.trans h0
  obtain ⟨kk, w3, hrun, hkb, v, w4, hr4, hK3, L', Z', hL, hZ, hV⟩ := st_nei (W := W) (L := L) (Z := Z) (d := d) (w := w) (r := f (i + 1)) (up := bz (f (i + 2))) hIV (hf _) (bz_b _)
  have hw3 := (hK3.1 0 (by decide)).trans h0
  obtain ⟨fs, h128⟩ := hK3.2
  refine i_287_1253 l1 ?_
  refine i_287_1254 l0 ?_
  refine i_287_1255 l4 ?_
  refine i_287_1257 ?_
  refine i_287_1258 jad1 ?_
  refine i_287_1259 hw (jx 1 hi hn (by decide)).1 (jx 1 hi hn (by decide)).2.1 (jv (f := f) 1 hi hn (by decide)) ?_
  refine i_287_1260 l0 ?_
  refine i_287_1261 l4 ?_
  refine i_287_1263 ?_
  refine i_287_1264 jad2 ?_
  refine i_287_1265 hw (jx 2 hi hn (by decide)).1 (jx 2 hi hn (by decide)).2.1 (jv (f := f) 2 hi hn (by decide)) ?_
  have kb1 : xEv (d + 21) 287 1274 lv [Value.int (Int32.ofInt (bz (f (i + 2)))), Value.int (Int32.ofInt (f (i + 1))), Value.ref 7] w Q := by
    refine i_287_1274 l3 ?_
    refine i_287_1275 (Nat.le_of_ble_eq_true rfl) hrun ?_
    refine i_287_1278 rfl ?_
    have hl5 := hl.s5 (v := .int (Int32.ofInt kk))
    have m5 : xld (xst1 lv 5 (.int (Int32.ofInt kk))) 5 = some (.int (Int32.ofInt kk)) := xld_s1
    generalize xst1 lv 5 (.int (Int32.ofInt kk)) = lv5 at hl5 m5 ⊢
    obtain ⟨m0, m1, m2, m3, m4⟩ := id hl5
    refine i_287_1280 m2 ?_
    refine i_287_1281 m0 ?_
    refine i_287_1282 m4 ?_
    refine i_287_1284 ?_
    refine i_287_1285 jad1 ?_
    refine i_287_1286 hw3 (jx 1 hi hn (by decide)).1 (jx 1 hi hn (by decide)).2.1 (jv (f := f) 1 hi hn (by decide)) ?_
    refine i_287_1287 m0 ?_
    refine i_287_1288 m4 ?_
    refine i_287_1290 ?_
    refine i_287_1291 jad2 ?_
    refine i_287_1292 hw3 (jx 2 hi hn (by decide)).1 (jx 2 hi hn (by decide)).2.1 (jv (f := f) 2 hi hn (by decide)) ?_
    have kb2 : xEv (d + 21) 287 1301 lv5 [Value.int (Int32.ofInt (bz (f (i + 2)))), Value.int (Int32.ofInt (f (i + 1))), Value.ref 128] w3 Q := by
      refine i_287_1301 h128 (Nat.le_of_ble_eq_true rfl) hr4 ?_
      refine i_287_1304 rfl ?_
      have hl6 := hl5.s6 (v := .int v)
      have p5 : xld (xst1 lv5 6 (.int v)) 5 = some (.int (Int32.ofInt kk)) := xld_n1 rfl rfl m5
      have p6 : xld (xst1 lv5 6 (.int v)) 6 = some (.int v) := xld_s1
      generalize xst1 lv5 6 (.int v) = lv6 at hl6 p5 p6 ⊢
      obtain ⟨p0, p1, p2, p3, p4⟩ := id hl6
      obtain ⟨S, V, Sm, Vm, g, hW, hI, hM, hJ, hE, h31, hg⟩ := id hV
      have hthr := s_thrown (d := d + 19) hW.2.1
      rw [h31] at hthr
      refine i_287_1306 p2 ?_
      refine i_287_1307 hW.2.1.2.1 (Nat.le_of_ble_eq_true rfl) hthr ?_
      refine i_287_1310 p5 ?_
      refine i_287_1312 (fun _ => ?_) (fun h => absurd rfl h)
      refine i_287_1317 p5 ?_
      refine i_287_1319 (fun _ => ?_) (fun h => ?_)
      · refine i_287_1334 ?_
        exact k L' Z' w4 lv6 hL hZ hV.w hl6
      · have k0 : kk = 0 := by
          rw [oI hkb.1 hkb.2] at h
          exact h
        refine i_287_1322 p3 ?_
        refine i_287_1323 ?_
        refine i_287_1324 hW.2.2.1 (by decide) (by decide) (hg k0) ?_
        refine i_287_1325 p6 ?_
        refine i_287_1327 rfl ?_
        refine i_287_1328 (c := 0) lgc ?_
        refine i_287_1329 (fun _ => ?_) (fun h => absurd rfl h)
        refine i_287_1334 ?_
        exact k L' Z' w4 lv6 hL hZ hV.w hl6
    refine i_287_1293 (fun h => ?_) (fun h => ?_)
    · rw [oI (hf _).1 (hf _).2] at h
      refine i_287_1300 ?_
      rw [show bz (f (i + 2)) = 0 from if_pos h, show Int32.ofInt 0 = (0 : Int32) from rfl] at kb2
      exact kb2
    · rw [oI (hf _).1 (hf _).2] at h
      refine i_287_1296 ?_
      refine i_287_1297 ?_
      rw [show bz (f (i + 2)) = 1 from if_neg h, show Int32.ofInt 1 = (1 : Int32) from rfl] at kb2
      exact kb2
  refine i_287_1266 (fun h => ?_) (fun h => ?_)
  · rw [oI (hf _).1 (hf _).2] at h
    refine i_287_1273 ?_
    rw [show bz (f (i + 2)) = 0 from if_pos h, show Int32.ofInt 0 = (0 : Int32) from rfl] at kb1
    exact kb1
  · rw [oI (hf _).1 (hf _).2] at h
    refine i_287_1269 ?_
    refine i_287_1270 ?_
    rw [show bz (f (i + 2)) = 1 from if_neg h, show Int32.ofInt 1 = (1 : Int32) from rfl] at kb1
    exact kb1
theorem lw_13 (hIV : IV0 W L Z w) (h0 : W[0]? = some (.inl (0, n, fun j => .int (Int32.ofInt (f j))))) (hf : ∀ j, -2147483648 ≤ f j ∧ f j < 2147483648) (hi : i + 6 ≤ n) (hn : n ≤ 3072) (hl : lvB lv i) (k : lwN W d L Z i Q) : xEv (d + 21) 287 1337 lv [] w Q := by
  obtain ⟨l0, l1, l2, l3, l4⟩ := id hl
  have hw := hIV.c0.trans h0
  obtain ⟨kk, w3, hrun, hkb, v, w4, hr4, hK3, L', Z', hL, hZ, hV⟩ := st_cmp (W := W) (L := L) (Z := Z) (d := d) (w := w) (a := f (i + 1)) (b := f (i + 2)) hIV (hf _) (hf _)
  have hw3 := (hK3.1 0 (by decide)).trans h0
  obtain ⟨fs, h128⟩ := hK3.2
  refine i_287_1337 l1 ?_
  refine i_287_1338 l0 ?_
  refine i_287_1339 l4 ?_
  refine i_287_1341 ?_
  refine i_287_1342 jad1 ?_
  refine i_287_1343 hw (jx 1 hi hn (by decide)).1 (jx 1 hi hn (by decide)).2.1 (jv (f := f) 1 hi hn (by decide)) ?_
  refine i_287_1344 l0 ?_
  refine i_287_1345 l4 ?_
  refine i_287_1347 ?_
  refine i_287_1348 jad2 ?_
  refine i_287_1349 hw (jx 2 hi hn (by decide)).1 (jx 2 hi hn (by decide)).2.1 (jv (f := f) 2 hi hn (by decide)) ?_
  refine i_287_1350 l3 ?_
  refine i_287_1351 (Nat.le_of_ble_eq_true rfl) hrun ?_
  refine i_287_1354 rfl ?_
  have hl5 := hl.s5 (v := .int (Int32.ofInt kk))
  have m5 : xld (xst1 lv 5 (.int (Int32.ofInt kk))) 5 = some (.int (Int32.ofInt kk)) := xld_s1
  generalize xst1 lv 5 (.int (Int32.ofInt kk)) = lv5 at hl5 m5 ⊢
  obtain ⟨m0, m1, m2, m3, m4⟩ := id hl5
  refine i_287_1356 m2 ?_
  refine i_287_1357 m0 ?_
  refine i_287_1358 m4 ?_
  refine i_287_1360 ?_
  refine i_287_1361 jad1 ?_
  refine i_287_1362 hw3 (jx 1 hi hn (by decide)).1 (jx 1 hi hn (by decide)).2.1 (jv (f := f) 1 hi hn (by decide)) ?_
  refine i_287_1363 m0 ?_
  refine i_287_1364 m4 ?_
  refine i_287_1366 ?_
  refine i_287_1367 jad2 ?_
  refine i_287_1368 hw3 (jx 2 hi hn (by decide)).1 (jx 2 hi hn (by decide)).2.1 (jv (f := f) 2 hi hn (by decide)) ?_
  refine i_287_1369 h128 (Nat.le_of_ble_eq_true rfl) hr4 ?_
  refine i_287_1372 rfl ?_
  have hl6 := hl5.s6 (v := .int v)
  have p5 : xld (xst1 lv5 6 (.int v)) 5 = some (.int (Int32.ofInt kk)) := xld_n1 rfl rfl m5
  have p6 : xld (xst1 lv5 6 (.int v)) 6 = some (.int v) := xld_s1
  generalize xst1 lv5 6 (.int v) = lv6 at hl6 p5 p6 ⊢
  obtain ⟨p0, p1, p2, p3, p4⟩ := id hl6
  obtain ⟨S, V, Sm, Vm, g, hW, hI, hM, hJ, hE, h31, hg⟩ := id hV
  have hthr := s_thrown (d := d + 19) hW.2.1
  rw [h31] at hthr
  refine i_287_1374 p2 ?_
  refine i_287_1375 hW.2.1.2.1 (Nat.le_of_ble_eq_true rfl) hthr ?_
  refine i_287_1378 p5 ?_
  refine i_287_1380 (fun _ => ?_) (fun h => absurd rfl h)
  refine i_287_1385 p5 ?_
  refine i_287_1387 (fun _ => ?_) (fun h => ?_)
  · refine i_287_1402 ?_
    exact k L' Z' w4 lv6 hL hZ hV.w hl6
  · have k0 : kk = 0 := by
      rw [oI hkb.1 hkb.2] at h
      exact h
    refine i_287_1390 p3 ?_
    refine i_287_1391 ?_
    refine i_287_1392 hW.2.2.1 (by decide) (by decide) (hg k0) ?_
    refine i_287_1393 p6 ?_
    refine i_287_1395 rfl ?_
    refine i_287_1396 (c := 0) lgc ?_
    refine i_287_1397 (fun _ => ?_) (fun h => absurd rfl h)
    refine i_287_1402 ?_
    exact k L' Z' w4 lv6 hL hZ hV.w hl6
theorem lw_14 (hIV : IV0 W L Z w) (h0 : W[0]? = some (.inl (0, n, fun j => .int (Int32.ofInt (f j))))) (hf : ∀ j, -2147483648 ≤ f j ∧ f j < 2147483648) (hi : i + 6 ≤ n) (hn : n ≤ 3072) (hl : lvB lv i) (k : lwN W d L Z i Q) : xEv (d + 21) 287 1405 lv [] w Q := by
  obtain ⟨l0, l1, l2, l3, l4⟩ := id hl
  have hw := hIV.c0.trans h0
  obtain ⟨kk, w3, hrun, hkb, v, w4, hr4, hK3, L', Z', hL, hZ, hV⟩ := st_look (W := W) (L := L) (Z := Z) (d := d) (w := w) (r := f (i + 1)) (wh := f (i + 2)) hIV (hf _) (hf _)
  have hw3 := (hK3.1 0 (by decide)).trans h0
  obtain ⟨fs, h128⟩ := hK3.2
  refine i_287_1405 l1 ?_
  refine i_287_1406 l0 ?_
  refine i_287_1407 l4 ?_
  refine i_287_1409 ?_
  refine i_287_1410 jad1 ?_
  refine i_287_1411 hw (jx 1 hi hn (by decide)).1 (jx 1 hi hn (by decide)).2.1 (jv (f := f) 1 hi hn (by decide)) ?_
  refine i_287_1412 l0 ?_
  refine i_287_1413 l4 ?_
  refine i_287_1415 ?_
  refine i_287_1416 jad2 ?_
  refine i_287_1417 hw (jx 2 hi hn (by decide)).1 (jx 2 hi hn (by decide)).2.1 (jv (f := f) 2 hi hn (by decide)) ?_
  refine i_287_1418 l3 ?_
  refine i_287_1419 (Nat.le_of_ble_eq_true rfl) hrun ?_
  refine i_287_1422 rfl ?_
  have hl5 := hl.s5 (v := .int (Int32.ofInt kk))
  have m5 : xld (xst1 lv 5 (.int (Int32.ofInt kk))) 5 = some (.int (Int32.ofInt kk)) := xld_s1
  generalize xst1 lv 5 (.int (Int32.ofInt kk)) = lv5 at hl5 m5 ⊢
  obtain ⟨m0, m1, m2, m3, m4⟩ := id hl5
  refine i_287_1424 m2 ?_
  refine i_287_1425 m0 ?_
  refine i_287_1426 m4 ?_
  refine i_287_1428 ?_
  refine i_287_1429 jad1 ?_
  refine i_287_1430 hw3 (jx 1 hi hn (by decide)).1 (jx 1 hi hn (by decide)).2.1 (jv (f := f) 1 hi hn (by decide)) ?_
  refine i_287_1431 m0 ?_
  refine i_287_1432 m4 ?_
  refine i_287_1434 ?_
  refine i_287_1435 jad2 ?_
  refine i_287_1436 hw3 (jx 2 hi hn (by decide)).1 (jx 2 hi hn (by decide)).2.1 (jv (f := f) 2 hi hn (by decide)) ?_
  refine i_287_1437 h128 (Nat.le_of_ble_eq_true rfl) hr4 ?_
  refine i_287_1440 rfl ?_
  have hl6 := hl5.s6 (v := .int v)
  have p5 : xld (xst1 lv5 6 (.int v)) 5 = some (.int (Int32.ofInt kk)) := xld_n1 rfl rfl m5
  have p6 : xld (xst1 lv5 6 (.int v)) 6 = some (.int v) := xld_s1
  generalize xst1 lv5 6 (.int v) = lv6 at hl6 p5 p6 ⊢
  obtain ⟨p0, p1, p2, p3, p4⟩ := id hl6
  obtain ⟨S, V, Sm, Vm, g, hW, hI, hM, hJ, hE, h31, hg⟩ := id hV
  have hthr := s_thrown (d := d + 19) hW.2.1
  rw [h31] at hthr
  refine i_287_1442 p2 ?_
  refine i_287_1443 hW.2.1.2.1 (Nat.le_of_ble_eq_true rfl) hthr ?_
  refine i_287_1446 p5 ?_
  refine i_287_1448 (fun _ => ?_) (fun h => absurd rfl h)
  refine i_287_1453 p5 ?_
  refine i_287_1455 (fun _ => ?_) (fun h => ?_)
  · refine i_287_1470 ?_
    exact k L' Z' w4 lv6 hL hZ hV.w hl6
  · have k0 : kk = 0 := by
      rw [oI hkb.1 hkb.2] at h
      exact h
    refine i_287_1458 p3 ?_
    refine i_287_1459 ?_
    refine i_287_1460 hW.2.2.1 (by decide) (by decide) (hg k0) ?_
    refine i_287_1461 p6 ?_
    refine i_287_1463 rfl ?_
    refine i_287_1464 (c := 0) lgc ?_
    refine i_287_1465 (fun _ => ?_) (fun h => absurd rfl h)
    refine i_287_1470 ?_
    exact k L' Z' w4 lv6 hL hZ hV.w hl6
theorem lw_15 (hIV : IV0 W L Z w) (h0 : W[0]? = some (.inl (0, n, fun j => .int (Int32.ofInt (f j))))) (hf : ∀ j, -2147483648 ≤ f j ∧ f j < 2147483648) (hi : i + 6 ≤ n) (hn : n ≤ 3072) (hl : lvB lv i) (k : lwN W d L Z i Q) : xEv (d + 21) 287 1473 lv [] w Q := by
  obtain ⟨l0, l1, l2, l3, l4⟩ := id hl
  have hw := hIV.c0.trans h0
  obtain ⟨kk, w3, hrun, hkb, v, w4, hr4, hK3, L', Z', hL, hZ, hV⟩ := st_word (W := W) (L := L) (Z := Z) (d := d) (w := w) (r := f (i + 1)) (k := f (i + 2)) hIV (hf _) (hf _)
  have hw3 := (hK3.1 0 (by decide)).trans h0
  obtain ⟨fs, h128⟩ := hK3.2
  refine i_287_1473 l1 ?_
  refine i_287_1474 l0 ?_
  refine i_287_1475 l4 ?_
  refine i_287_1477 ?_
  refine i_287_1478 jad1 ?_
  refine i_287_1479 hw (jx 1 hi hn (by decide)).1 (jx 1 hi hn (by decide)).2.1 (jv (f := f) 1 hi hn (by decide)) ?_
  refine i_287_1480 l0 ?_
  refine i_287_1481 l4 ?_
  refine i_287_1483 ?_
  refine i_287_1484 jad2 ?_
  refine i_287_1485 hw (jx 2 hi hn (by decide)).1 (jx 2 hi hn (by decide)).2.1 (jv (f := f) 2 hi hn (by decide)) ?_
  refine i_287_1486 l3 ?_
  refine i_287_1487 (Nat.le_of_ble_eq_true rfl) hrun ?_
  refine i_287_1490 rfl ?_
  have hl5 := hl.s5 (v := .int (Int32.ofInt kk))
  have m5 : xld (xst1 lv 5 (.int (Int32.ofInt kk))) 5 = some (.int (Int32.ofInt kk)) := xld_s1
  generalize xst1 lv 5 (.int (Int32.ofInt kk)) = lv5 at hl5 m5 ⊢
  obtain ⟨m0, m1, m2, m3, m4⟩ := id hl5
  refine i_287_1492 m2 ?_
  refine i_287_1493 m0 ?_
  refine i_287_1494 m4 ?_
  refine i_287_1496 ?_
  refine i_287_1497 jad1 ?_
  refine i_287_1498 hw3 (jx 1 hi hn (by decide)).1 (jx 1 hi hn (by decide)).2.1 (jv (f := f) 1 hi hn (by decide)) ?_
  refine i_287_1499 m0 ?_
  refine i_287_1500 m4 ?_
  refine i_287_1502 ?_
  refine i_287_1503 jad2 ?_
  refine i_287_1504 hw3 (jx 2 hi hn (by decide)).1 (jx 2 hi hn (by decide)).2.1 (jv (f := f) 2 hi hn (by decide)) ?_
  refine i_287_1505 h128 (Nat.le_of_ble_eq_true rfl) hr4 ?_
  refine i_287_1508 rfl ?_
  have hl6 := hl5.t6 (v := .long v)
  have p5 : xld (xst2 lv5 6 (.long v)) 5 = some (.int (Int32.ofInt kk)) := xld_n2 rfl rfl m5
  have p6 : xld (xst2 lv5 6 (.long v)) 6 = some (.long v) := xld_s2
  generalize xst2 lv5 6 (.long v) = lv6 at hl6 p5 p6 ⊢
  obtain ⟨p0, p1, p2, p3, p4⟩ := id hl6
  obtain ⟨S, V, Sm, Vm, g, hW, hI, hM, hJ, hE, h31, hg⟩ := id hV
  have hthr := s_thrown (d := d + 19) hW.2.1
  rw [h31] at hthr
  refine i_287_1510 p2 ?_
  refine i_287_1511 hW.2.1.2.1 (Nat.le_of_ble_eq_true rfl) hthr ?_
  refine i_287_1514 p5 ?_
  refine i_287_1516 (fun _ => ?_) (fun h => absurd rfl h)
  refine i_287_1521 p5 ?_
  refine i_287_1523 (fun _ => ?_) (fun h => ?_)
  · refine i_287_1537 ?_
    exact k L' Z' w4 lv6 hL hZ hV.w hl6
  · have k0 : kk = 0 := by
      rw [oI hkb.1 hkb.2] at h
      exact h
    refine i_287_1526 p3 ?_
    refine i_287_1527 ?_
    refine i_287_1528 hW.2.2.1 (by decide) (by decide) (hg k0) ?_
    refine i_287_1529 p6 ?_
    refine i_287_1531 (c := 0) lgc ?_
    refine i_287_1532 (fun _ => ?_) (fun h => absurd rfl h)
    refine i_287_1537 ?_
    exact k L' Z' w4 lv6 hL hZ hV.w hl6
theorem lw_16 (hIV : IV0 W L Z w) (h0 : W[0]? = some (.inl (0, n, fun j => .int (Int32.ofInt (f j))))) (hf : ∀ j, -2147483648 ≤ f j ∧ f j < 2147483648) (hi : i + 6 ≤ n) (hn : n ≤ 3072) (hl : lvB lv i) (k : lwN W d L Z i Q) : xEv (d + 21) 287 1540 lv [] w Q := by
  obtain ⟨l0, l1, l2, l3, l4⟩ := id hl
  have hw := hIV.c0.trans h0
  obtain ⟨B, hB, bB⟩ := i64_ex ((Int32.ofInt (f (i + 2))).toInt64 <<< ((32 : Int32).toInt64 &&& 63) ||| (Int32.ofInt (f (i + 3))).toInt64 &&& 4294967295)
  obtain ⟨kk, w3, hrun, hkb, v, w4, hr4, hK3, L', Z', hL, hZ, hV⟩ := st_frd (W := W) (L := L) (Z := Z) (d := d) (w := w) (r := f (i + 1)) (B := B) (mode := f (i + 4)) hIV (hf _) bB (hf _)
  have hw3 := (hK3.1 0 (by decide)).trans h0
  obtain ⟨fs, h128⟩ := hK3.2
  refine i_287_1540 l1 ?_
  refine i_287_1541 l0 ?_
  refine i_287_1542 l4 ?_
  refine i_287_1544 ?_
  refine i_287_1545 jad1 ?_
  refine i_287_1546 hw (jx 1 hi hn (by decide)).1 (jx 1 hi hn (by decide)).2.1 (jv (f := f) 1 hi hn (by decide)) ?_
  refine i_287_1547 l0 ?_
  refine i_287_1548 l4 ?_
  refine i_287_1550 ?_
  refine i_287_1551 jad2 ?_
  refine i_287_1552 hw (jx 2 hi hn (by decide)).1 (jx 2 hi hn (by decide)).2.1 (jv (f := f) 2 hi hn (by decide)) ?_
  refine i_287_1553 rfl ?_
  refine i_287_1554 ?_
  refine i_287_1556 rfl ?_
  refine i_287_1557 l0 ?_
  refine i_287_1558 l4 ?_
  refine i_287_1560 ?_
  refine i_287_1561 jad3 ?_
  refine i_287_1562 hw (jx 3 hi hn (by decide)).1 (jx 3 hi hn (by decide)).2.1 (jv (f := f) 3 hi hn (by decide)) ?_
  refine i_287_1563 rfl ?_
  refine i_287_1564 ?_
  refine i_287_1567 rfl ?_
  refine i_287_1568 (c := Int64.ofInt B) hB ?_
  refine i_287_1569 l0 ?_
  refine i_287_1570 l4 ?_
  refine i_287_1572 ?_
  refine i_287_1573 jad4 ?_
  refine i_287_1574 hw (jx 4 hi hn (by decide)).1 (jx 4 hi hn (by decide)).2.1 (jv (f := f) 4 hi hn (by decide)) ?_
  refine i_287_1575 l3 ?_
  refine i_287_1576 (Nat.le_of_ble_eq_true rfl) hrun ?_
  refine i_287_1579 rfl ?_
  have hl5 := hl.s5 (v := .int (Int32.ofInt kk))
  have m5 : xld (xst1 lv 5 (.int (Int32.ofInt kk))) 5 = some (.int (Int32.ofInt kk)) := xld_s1
  generalize xst1 lv 5 (.int (Int32.ofInt kk)) = lv5 at hl5 m5 ⊢
  obtain ⟨m0, m1, m2, m3, m4⟩ := id hl5
  refine i_287_1581 m2 ?_
  refine i_287_1582 m0 ?_
  refine i_287_1583 m4 ?_
  refine i_287_1585 ?_
  refine i_287_1586 jad1 ?_
  refine i_287_1587 hw3 (jx 1 hi hn (by decide)).1 (jx 1 hi hn (by decide)).2.1 (jv (f := f) 1 hi hn (by decide)) ?_
  refine i_287_1588 m0 ?_
  refine i_287_1589 m4 ?_
  refine i_287_1591 ?_
  refine i_287_1592 jad2 ?_
  refine i_287_1593 hw3 (jx 2 hi hn (by decide)).1 (jx 2 hi hn (by decide)).2.1 (jv (f := f) 2 hi hn (by decide)) ?_
  refine i_287_1594 rfl ?_
  refine i_287_1595 ?_
  refine i_287_1597 rfl ?_
  refine i_287_1598 m0 ?_
  refine i_287_1599 m4 ?_
  refine i_287_1601 ?_
  refine i_287_1602 jad3 ?_
  refine i_287_1603 hw3 (jx 3 hi hn (by decide)).1 (jx 3 hi hn (by decide)).2.1 (jv (f := f) 3 hi hn (by decide)) ?_
  refine i_287_1604 rfl ?_
  refine i_287_1605 ?_
  refine i_287_1608 rfl ?_
  refine i_287_1609 (c := Int64.ofInt B) hB ?_
  refine i_287_1610 m0 ?_
  refine i_287_1611 m4 ?_
  refine i_287_1613 ?_
  refine i_287_1614 jad4 ?_
  refine i_287_1615 hw3 (jx 4 hi hn (by decide)).1 (jx 4 hi hn (by decide)).2.1 (jv (f := f) 4 hi hn (by decide)) ?_
  refine i_287_1616 h128 (Nat.le_of_ble_eq_true rfl) hr4 ?_
  refine i_287_1619 rfl ?_
  have hl6 := hl5.s6 (v := .int v)
  have p5 : xld (xst1 lv5 6 (.int v)) 5 = some (.int (Int32.ofInt kk)) := xld_n1 rfl rfl m5
  have p6 : xld (xst1 lv5 6 (.int v)) 6 = some (.int v) := xld_s1
  generalize xst1 lv5 6 (.int v) = lv6 at hl6 p5 p6 ⊢
  obtain ⟨p0, p1, p2, p3, p4⟩ := id hl6
  obtain ⟨S, V, Sm, Vm, g, hW, hI, hM, hJ, hE, h31, hg⟩ := id hV
  have hthr := s_thrown (d := d + 19) hW.2.1
  rw [h31] at hthr
  refine i_287_1621 p2 ?_
  refine i_287_1622 hW.2.1.2.1 (Nat.le_of_ble_eq_true rfl) hthr ?_
  refine i_287_1625 p5 ?_
  refine i_287_1627 (fun _ => ?_) (fun h => absurd rfl h)
  refine i_287_1632 p5 ?_
  refine i_287_1634 (fun _ => ?_) (fun h => ?_)
  · refine i_287_1649 ?_
    exact k L' Z' w4 lv6 hL hZ hV.w hl6
  · have k0 : kk = 0 := by
      rw [oI hkb.1 hkb.2] at h
      exact h
    refine i_287_1637 p3 ?_
    refine i_287_1638 ?_
    refine i_287_1639 hW.2.2.1 (by decide) (by decide) (hg k0) ?_
    refine i_287_1640 p6 ?_
    refine i_287_1642 rfl ?_
    refine i_287_1643 (c := 0) lgc ?_
    refine i_287_1644 (fun _ => ?_) (fun h => absurd rfl h)
    refine i_287_1649 ?_
    exact k L' Z' w4 lv6 hL hZ hV.w hl6
theorem lw_17 (hIV : IV0 W L Z w) (h0 : W[0]? = some (.inl (0, n, fun j => .int (Int32.ofInt (f j))))) (hf : ∀ j, -2147483648 ≤ f j ∧ f j < 2147483648) (hi : i + 6 ≤ n) (hn : n ≤ 3072) (hl : lvB lv i) (k : lwN W d L Z i Q) : xEv (d + 21) 287 1652 lv [] w Q := by
  obtain ⟨l0, l1, l2, l3, l4⟩ := id hl
  have hw := hIV.c0.trans h0
  obtain ⟨kk, w3, hrun, hkb, v, w4, hr4, hK3, L', Z', hL, hZ, hV⟩ := st_tod (W := W) (L := L) (Z := Z) (d := d) (w := w) (r := f (i + 1)) (mode := f (i + 2)) hIV (hf _) (hf _)
  have hw3 := (hK3.1 0 (by decide)).trans h0
  obtain ⟨fs, h128⟩ := hK3.2
  refine i_287_1652 l1 ?_
  refine i_287_1653 l0 ?_
  refine i_287_1654 l4 ?_
  refine i_287_1656 ?_
  refine i_287_1657 jad1 ?_
  refine i_287_1658 hw (jx 1 hi hn (by decide)).1 (jx 1 hi hn (by decide)).2.1 (jv (f := f) 1 hi hn (by decide)) ?_
  refine i_287_1659 l0 ?_
  refine i_287_1660 l4 ?_
  refine i_287_1662 ?_
  refine i_287_1663 jad2 ?_
  refine i_287_1664 hw (jx 2 hi hn (by decide)).1 (jx 2 hi hn (by decide)).2.1 (jv (f := f) 2 hi hn (by decide)) ?_
  refine i_287_1665 l3 ?_
  refine i_287_1666 (Nat.le_of_ble_eq_true rfl) hrun ?_
  refine i_287_1669 rfl ?_
  have hl5 := hl.s5 (v := .int (Int32.ofInt kk))
  have m5 : xld (xst1 lv 5 (.int (Int32.ofInt kk))) 5 = some (.int (Int32.ofInt kk)) := xld_s1
  generalize xst1 lv 5 (.int (Int32.ofInt kk)) = lv5 at hl5 m5 ⊢
  obtain ⟨m0, m1, m2, m3, m4⟩ := id hl5
  refine i_287_1671 m2 ?_
  refine i_287_1672 m0 ?_
  refine i_287_1673 m4 ?_
  refine i_287_1675 ?_
  refine i_287_1676 jad1 ?_
  refine i_287_1677 hw3 (jx 1 hi hn (by decide)).1 (jx 1 hi hn (by decide)).2.1 (jv (f := f) 1 hi hn (by decide)) ?_
  refine i_287_1678 m0 ?_
  refine i_287_1679 m4 ?_
  refine i_287_1681 ?_
  refine i_287_1682 jad2 ?_
  refine i_287_1683 hw3 (jx 2 hi hn (by decide)).1 (jx 2 hi hn (by decide)).2.1 (jv (f := f) 2 hi hn (by decide)) ?_
  refine i_287_1684 h128 (Nat.le_of_ble_eq_true rfl) hr4 ?_
  refine i_287_1687 rfl ?_
  have hl6 := hl5.t6 (v := .long v)
  have p5 : xld (xst2 lv5 6 (.long v)) 5 = some (.int (Int32.ofInt kk)) := xld_n2 rfl rfl m5
  have p6 : xld (xst2 lv5 6 (.long v)) 6 = some (.long v) := xld_s2
  generalize xst2 lv5 6 (.long v) = lv6 at hl6 p5 p6 ⊢
  obtain ⟨p0, p1, p2, p3, p4⟩ := id hl6
  obtain ⟨S, V, Sm, Vm, g, hW, hI, hM, hJ, hE, h31, hg⟩ := id hV
  have hthr := s_thrown (d := d + 19) hW.2.1
  rw [h31] at hthr
  refine i_287_1689 p2 ?_
  refine i_287_1690 hW.2.1.2.1 (Nat.le_of_ble_eq_true rfl) hthr ?_
  refine i_287_1693 p5 ?_
  refine i_287_1695 (fun _ => ?_) (fun h => absurd rfl h)
  refine i_287_1700 p5 ?_
  refine i_287_1702 (fun _ => ?_) (fun h => ?_)
  · refine i_287_1716 ?_
    exact k L' Z' w4 lv6 hL hZ hV.w hl6
  · have k0 : kk = 0 := by
      rw [oI hkb.1 hkb.2] at h
      exact h
    refine i_287_1705 p3 ?_
    refine i_287_1706 ?_
    refine i_287_1707 hW.2.2.1 (by decide) (by decide) (hg k0) ?_
    refine i_287_1708 p6 ?_
    refine i_287_1710 (c := 0) lgc ?_
    refine i_287_1711 (fun _ => ?_) (fun h => absurd rfl h)
    refine i_287_1716 ?_
    exact k L' Z' w4 lv6 hL hZ hV.w hl6
theorem lw_18 (hIV : IV0 W L Z w) (h0 : W[0]? = some (.inl (0, n, fun j => .int (Int32.ofInt (f j))))) (hf : ∀ j, -2147483648 ≤ f j ∧ f j < 2147483648) (hi : i + 6 ≤ n) (hn : n ≤ 3072) (hl : lvB lv i) (k : lwN W d L Z i Q) : xEv (d + 21) 287 1719 lv [] w Q := by
  obtain ⟨l0, l1, l2, l3, l4⟩ := id hl
  have hw := hIV.c0.trans h0
  obtain ⟨kk, w3, hrun, hkb, v, w4, hr4, hK3, L', Z', hL, hZ, hV⟩ := st_tol (W := W) (L := L) (Z := Z) (d := d) (w := w) (r := f (i + 1)) (mode := f (i + 2)) hIV (hf _) (hf _)
  have hw3 := (hK3.1 0 (by decide)).trans h0
  obtain ⟨fs, h128⟩ := hK3.2
  refine i_287_1719 l1 ?_
  refine i_287_1720 l0 ?_
  refine i_287_1721 l4 ?_
  refine i_287_1723 ?_
  refine i_287_1724 jad1 ?_
  refine i_287_1725 hw (jx 1 hi hn (by decide)).1 (jx 1 hi hn (by decide)).2.1 (jv (f := f) 1 hi hn (by decide)) ?_
  refine i_287_1726 l0 ?_
  refine i_287_1727 l4 ?_
  refine i_287_1729 ?_
  refine i_287_1730 jad2 ?_
  refine i_287_1731 hw (jx 2 hi hn (by decide)).1 (jx 2 hi hn (by decide)).2.1 (jv (f := f) 2 hi hn (by decide)) ?_
  refine i_287_1732 l3 ?_
  refine i_287_1733 (Nat.le_of_ble_eq_true rfl) hrun ?_
  refine i_287_1736 rfl ?_
  have hl5 := hl.s5 (v := .int (Int32.ofInt kk))
  have m5 : xld (xst1 lv 5 (.int (Int32.ofInt kk))) 5 = some (.int (Int32.ofInt kk)) := xld_s1
  generalize xst1 lv 5 (.int (Int32.ofInt kk)) = lv5 at hl5 m5 ⊢
  obtain ⟨m0, m1, m2, m3, m4⟩ := id hl5
  refine i_287_1738 m2 ?_
  refine i_287_1739 m0 ?_
  refine i_287_1740 m4 ?_
  refine i_287_1742 ?_
  refine i_287_1743 jad1 ?_
  refine i_287_1744 hw3 (jx 1 hi hn (by decide)).1 (jx 1 hi hn (by decide)).2.1 (jv (f := f) 1 hi hn (by decide)) ?_
  refine i_287_1745 m0 ?_
  refine i_287_1746 m4 ?_
  refine i_287_1748 ?_
  refine i_287_1749 jad2 ?_
  refine i_287_1750 hw3 (jx 2 hi hn (by decide)).1 (jx 2 hi hn (by decide)).2.1 (jv (f := f) 2 hi hn (by decide)) ?_
  refine i_287_1751 h128 (Nat.le_of_ble_eq_true rfl) hr4 ?_
  refine i_287_1754 rfl ?_
  have hl6 := hl5.t6 (v := .long v)
  have p5 : xld (xst2 lv5 6 (.long v)) 5 = some (.int (Int32.ofInt kk)) := xld_n2 rfl rfl m5
  have p6 : xld (xst2 lv5 6 (.long v)) 6 = some (.long v) := xld_s2
  generalize xst2 lv5 6 (.long v) = lv6 at hl6 p5 p6 ⊢
  obtain ⟨p0, p1, p2, p3, p4⟩ := id hl6
  obtain ⟨S, V, Sm, Vm, g, hW, hI, hM, hJ, hE, h31, hg⟩ := id hV
  have hthr := s_thrown (d := d + 19) hW.2.1
  rw [h31] at hthr
  refine i_287_1756 p2 ?_
  refine i_287_1757 hW.2.1.2.1 (Nat.le_of_ble_eq_true rfl) hthr ?_
  refine i_287_1760 p5 ?_
  refine i_287_1762 (fun _ => ?_) (fun h => absurd rfl h)
  refine i_287_1767 p5 ?_
  refine i_287_1769 (fun _ => ?_) (fun h => ?_)
  · refine i_287_1783 ?_
    exact k L' Z' w4 lv6 hL hZ hV.w hl6
  · have k0 : kk = 0 := by
      rw [oI hkb.1 hkb.2] at h
      exact h
    refine i_287_1772 p3 ?_
    refine i_287_1773 ?_
    refine i_287_1774 hW.2.2.1 (by decide) (by decide) (hg k0) ?_
    refine i_287_1775 p6 ?_
    refine i_287_1777 (c := 0) lgc ?_
    refine i_287_1778 (fun _ => ?_) (fun h => absurd rfl h)
    refine i_287_1783 ?_
    exact k L' Z' w4 lv6 hL hZ hV.w hl6
theorem lw_19 (hIV : IV0 W L Z w) (h0 : W[0]? = some (.inl (0, n, fun j => .int (Int32.ofInt (f j))))) (hf : ∀ j, -2147483648 ≤ f j ∧ f j < 2147483648) (hi : i + 6 ≤ n) (hn : n ≤ 3072) (hl : lvB lv i) (k : lwN W d L Z i Q) : xEv (d + 21) 287 1786 lv [] w Q := by
  obtain ⟨l0, l1, l2, l3, l4⟩ := id hl
  have hw := hIV.c0.trans h0
  obtain ⟨kk, w3, hrun, hkb, w4, hr4, hK3, L', Z', hL, hZ, hV⟩ := st_feed (W := W) (L := L) (Z := Z) (d := d) (w := w) (v1 := f (i + 1)) (v2 := f (i + 2)) (v3 := f (i + 3)) (v4 := f (i + 4)) (v5 := f (i + 5)) hIV (hf _) (hf _) (hf _) (hf _) (hf _)
  have hw3 := (hK3.1 0 (by decide)).trans h0
  obtain ⟨fs, h128⟩ := hK3.2
  refine i_287_1786 l1 ?_
  refine i_287_1787 l0 ?_
  refine i_287_1788 l4 ?_
  refine i_287_1790 ?_
  refine i_287_1791 jad1 ?_
  refine i_287_1792 hw (jx 1 hi hn (by decide)).1 (jx 1 hi hn (by decide)).2.1 (jv (f := f) 1 hi hn (by decide)) ?_
  refine i_287_1793 l0 ?_
  refine i_287_1794 l4 ?_
  refine i_287_1796 ?_
  refine i_287_1797 jad2 ?_
  refine i_287_1798 hw (jx 2 hi hn (by decide)).1 (jx 2 hi hn (by decide)).2.1 (jv (f := f) 2 hi hn (by decide)) ?_
  refine i_287_1799 l0 ?_
  refine i_287_1800 l4 ?_
  refine i_287_1802 ?_
  refine i_287_1803 jad3 ?_
  refine i_287_1804 hw (jx 3 hi hn (by decide)).1 (jx 3 hi hn (by decide)).2.1 (jv (f := f) 3 hi hn (by decide)) ?_
  refine i_287_1805 l0 ?_
  refine i_287_1806 l4 ?_
  refine i_287_1808 ?_
  refine i_287_1809 jad4 ?_
  refine i_287_1810 hw (jx 4 hi hn (by decide)).1 (jx 4 hi hn (by decide)).2.1 (jv (f := f) 4 hi hn (by decide)) ?_
  refine i_287_1811 l0 ?_
  refine i_287_1812 l4 ?_
  refine i_287_1814 ?_
  refine i_287_1815 jad5 ?_
  refine i_287_1816 hw (jx 5 hi hn (by decide)).1 (jx 5 hi hn (by decide)).2.1 (jv (f := f) 5 hi hn (by decide)) ?_
  refine i_287_1817 (Nat.le_of_ble_eq_true rfl) hrun ?_
  refine i_287_1820 rfl ?_
  have hl5 := hl.s5 (v := .int (Int32.ofInt kk))
  have m5 : xld (xst1 lv 5 (.int (Int32.ofInt kk))) 5 = some (.int (Int32.ofInt kk)) := xld_s1
  generalize xst1 lv 5 (.int (Int32.ofInt kk)) = lv5 at hl5 m5 ⊢
  obtain ⟨m0, m1, m2, m3, m4⟩ := id hl5
  refine i_287_1822 m2 ?_
  refine i_287_1823 m0 ?_
  refine i_287_1824 m4 ?_
  refine i_287_1826 ?_
  refine i_287_1827 jad1 ?_
  refine i_287_1828 hw3 (jx 1 hi hn (by decide)).1 (jx 1 hi hn (by decide)).2.1 (jv (f := f) 1 hi hn (by decide)) ?_
  refine i_287_1829 m0 ?_
  refine i_287_1830 m4 ?_
  refine i_287_1832 ?_
  refine i_287_1833 jad2 ?_
  refine i_287_1834 hw3 (jx 2 hi hn (by decide)).1 (jx 2 hi hn (by decide)).2.1 (jv (f := f) 2 hi hn (by decide)) ?_
  refine i_287_1835 m0 ?_
  refine i_287_1836 m4 ?_
  refine i_287_1838 ?_
  refine i_287_1839 jad3 ?_
  refine i_287_1840 hw3 (jx 3 hi hn (by decide)).1 (jx 3 hi hn (by decide)).2.1 (jv (f := f) 3 hi hn (by decide)) ?_
  refine i_287_1841 m0 ?_
  refine i_287_1842 m4 ?_
  refine i_287_1844 ?_
  refine i_287_1845 jad4 ?_
  refine i_287_1846 hw3 (jx 4 hi hn (by decide)).1 (jx 4 hi hn (by decide)).2.1 (jv (f := f) 4 hi hn (by decide)) ?_
  refine i_287_1847 m0 ?_
  refine i_287_1848 m4 ?_
  refine i_287_1850 ?_
  refine i_287_1851 jad5 ?_
  refine i_287_1852 hw3 (jx 5 hi hn (by decide)).1 (jx 5 hi hn (by decide)).2.1 (jv (f := f) 5 hi hn (by decide)) ?_
  refine i_287_1853 h128 (Nat.le_of_ble_eq_true rfl) hr4 ?_
  obtain ⟨S, V, Sm, Vm, g, hW, hI, hM, hJ, hE, h31⟩ := hV
  have hthr := s_thrown (d := d + 19) hW.2.1
  rw [h31] at hthr
  refine i_287_1856 m2 ?_
  refine i_287_1857 hW.2.1.2.1 (Nat.le_of_ble_eq_true rfl) hthr ?_
  refine i_287_1860 m5 ?_
  refine i_287_1862 (fun _ => ?_) (fun h => absurd rfl h)
  refine i_287_1867 ?_
  exact k L' Z' w4 lv5 hL hZ ⟨S, V, Sm, Vm, g, hW, hI, hM, hJ, hE⟩ hl5
theorem lw_20 (hIV : IV0 W L Z w) (h0 : W[0]? = some (.inl (0, n, fun j => .int (Int32.ofInt (f j))))) (hf : ∀ j, -2147483648 ≤ f j ∧ f j < 2147483648) (hi : i + 6 ≤ n) (hn : n ≤ 3072) (hl : lvB lv i) (k : lwN W d L Z i Q) : xEv (d + 21) 287 1870 lv [] w Q := by
  obtain ⟨l0, l1, l2, l3, l4⟩ := id hl
  have hw := hIV.c0.trans h0
  obtain ⟨kk, w3, hrun, hkb, v, w4, hr4, hK3, L', Z', hL, hZ, hV⟩ := st_end (W := W) (L := L) (Z := Z) (d := d) (w := w) (n := f (i + 1)) hIV (hf _)
  have hw3 := (hK3.1 0 (by decide)).trans h0
  obtain ⟨fs, h128⟩ := hK3.2
  refine i_287_1870 l1 ?_
  refine i_287_1871 l0 ?_
  refine i_287_1872 l4 ?_
  refine i_287_1874 ?_
  refine i_287_1875 jad1 ?_
  refine i_287_1876 hw (jx 1 hi hn (by decide)).1 (jx 1 hi hn (by decide)).2.1 (jv (f := f) 1 hi hn (by decide)) ?_
  refine i_287_1877 l3 ?_
  refine i_287_1878 (Nat.le_of_ble_eq_true rfl) hrun ?_
  refine i_287_1881 rfl ?_
  have hl5 := hl.s5 (v := .int (Int32.ofInt kk))
  have m5 : xld (xst1 lv 5 (.int (Int32.ofInt kk))) 5 = some (.int (Int32.ofInt kk)) := xld_s1
  generalize xst1 lv 5 (.int (Int32.ofInt kk)) = lv5 at hl5 m5 ⊢
  obtain ⟨m0, m1, m2, m3, m4⟩ := id hl5
  refine i_287_1883 m2 ?_
  refine i_287_1884 m0 ?_
  refine i_287_1885 m4 ?_
  refine i_287_1887 ?_
  refine i_287_1888 jad1 ?_
  refine i_287_1889 hw3 (jx 1 hi hn (by decide)).1 (jx 1 hi hn (by decide)).2.1 (jv (f := f) 1 hi hn (by decide)) ?_
  refine i_287_1890 h128 (Nat.le_of_ble_eq_true rfl) hr4 ?_
  refine i_287_1893 rfl ?_
  have hl6 := hl5.s6 (v := .int v)
  have p5 : xld (xst1 lv5 6 (.int v)) 5 = some (.int (Int32.ofInt kk)) := xld_n1 rfl rfl m5
  have p6 : xld (xst1 lv5 6 (.int v)) 6 = some (.int v) := xld_s1
  generalize xst1 lv5 6 (.int v) = lv6 at hl6 p5 p6 ⊢
  obtain ⟨p0, p1, p2, p3, p4⟩ := id hl6
  obtain ⟨S, V, Sm, Vm, g, hW, hI, hM, hJ, hE, h31, hg⟩ := id hV
  have hthr := s_thrown (d := d + 19) hW.2.1
  rw [h31] at hthr
  refine i_287_1895 p2 ?_
  refine i_287_1896 hW.2.1.2.1 (Nat.le_of_ble_eq_true rfl) hthr ?_
  refine i_287_1899 p5 ?_
  refine i_287_1901 (fun _ => ?_) (fun h => absurd rfl h)
  refine i_287_1906 p5 ?_
  refine i_287_1908 (fun _ => ?_) (fun h => ?_)
  · refine i_287_1923 ?_
    exact k L' Z' w4 lv6 hL hZ hV.w hl6
  · have k0 : kk = 0 := by
      rw [oI hkb.1 hkb.2] at h
      exact h
    refine i_287_1911 p3 ?_
    refine i_287_1912 ?_
    refine i_287_1913 hW.2.2.1 (by decide) (by decide) (hg k0) ?_
    refine i_287_1914 p6 ?_
    refine i_287_1916 rfl ?_
    refine i_287_1917 (c := 0) lgc ?_
    refine i_287_1918 (fun _ => ?_) (fun h => absurd rfl h)
    refine i_287_1923 ?_
    exact k L' Z' w4 lv6 hL hZ hV.w hl6
theorem lw_21 (hIV : IV0 W L Z w) (hKC : KC W) (h0 : W[0]? = some (.inl (0, n, fun j => .int (Int32.ofInt (f j))))) (hf : ∀ j, -2147483648 ≤ f j ∧ f j < 2147483648) (hi : i + 6 ≤ n) (hn : n ≤ 3072) (hl : lvB lv i) (k : lwN W d L Z i Q) : xEv (d + 21) 287 1926 lv [] w Q := by
  obtain ⟨l0, l1, l2, l3, l4⟩ := id hl
  have hw := hIV.c0.trans h0
  obtain ⟨kk, w3, hrun, hkb, v, w4, hr4, hK3, L', Z', hL, hZ, hV⟩ := st_read (W := W) (L := L) (Z := Z) (d := d) (w := w) (r := f (i + 1)) (base := f (i + 2)) (mode := f (i + 3)) hIV hKC (hf _) (hf _) (hf _)
  have hw3 := (hK3.1 0 (by decide)).trans h0
  obtain ⟨fs, h128⟩ := hK3.2
  refine i_287_1926 l1 ?_
  refine i_287_1927 l0 ?_
  refine i_287_1928 l4 ?_
  refine i_287_1930 ?_
  refine i_287_1931 jad1 ?_
  refine i_287_1932 hw (jx 1 hi hn (by decide)).1 (jx 1 hi hn (by decide)).2.1 (jv (f := f) 1 hi hn (by decide)) ?_
  refine i_287_1933 l0 ?_
  refine i_287_1934 l4 ?_
  refine i_287_1936 ?_
  refine i_287_1937 jad2 ?_
  refine i_287_1938 hw (jx 2 hi hn (by decide)).1 (jx 2 hi hn (by decide)).2.1 (jv (f := f) 2 hi hn (by decide)) ?_
  refine i_287_1939 l0 ?_
  refine i_287_1940 l4 ?_
  refine i_287_1942 ?_
  refine i_287_1943 jad3 ?_
  refine i_287_1944 hw (jx 3 hi hn (by decide)).1 (jx 3 hi hn (by decide)).2.1 (jv (f := f) 3 hi hn (by decide)) ?_
  refine i_287_1945 l3 ?_
  refine i_287_1946 (Nat.le_of_ble_eq_true rfl) hrun ?_
  refine i_287_1949 rfl ?_
  have hl5 := hl.s5 (v := .int (Int32.ofInt kk))
  have m5 : xld (xst1 lv 5 (.int (Int32.ofInt kk))) 5 = some (.int (Int32.ofInt kk)) := xld_s1
  generalize xst1 lv 5 (.int (Int32.ofInt kk)) = lv5 at hl5 m5 ⊢
  obtain ⟨m0, m1, m2, m3, m4⟩ := id hl5
  refine i_287_1951 m2 ?_
  refine i_287_1952 m0 ?_
  refine i_287_1953 m4 ?_
  refine i_287_1955 ?_
  refine i_287_1956 jad1 ?_
  refine i_287_1957 hw3 (jx 1 hi hn (by decide)).1 (jx 1 hi hn (by decide)).2.1 (jv (f := f) 1 hi hn (by decide)) ?_
  refine i_287_1958 m0 ?_
  refine i_287_1959 m4 ?_
  refine i_287_1961 ?_
  refine i_287_1962 jad2 ?_
  refine i_287_1963 hw3 (jx 2 hi hn (by decide)).1 (jx 2 hi hn (by decide)).2.1 (jv (f := f) 2 hi hn (by decide)) ?_
  refine i_287_1964 m0 ?_
  refine i_287_1965 m4 ?_
  refine i_287_1967 ?_
  refine i_287_1968 jad3 ?_
  refine i_287_1969 hw3 (jx 3 hi hn (by decide)).1 (jx 3 hi hn (by decide)).2.1 (jv (f := f) 3 hi hn (by decide)) ?_
  refine i_287_1970 h128 (Nat.le_of_ble_eq_true rfl) hr4 ?_
  refine i_287_1973 rfl ?_
  have hl6 := hl5.s6 (v := .int v)
  have p5 : xld (xst1 lv5 6 (.int v)) 5 = some (.int (Int32.ofInt kk)) := xld_n1 rfl rfl m5
  have p6 : xld (xst1 lv5 6 (.int v)) 6 = some (.int v) := xld_s1
  generalize xst1 lv5 6 (.int v) = lv6 at hl6 p5 p6 ⊢
  obtain ⟨p0, p1, p2, p3, p4⟩ := id hl6
  obtain ⟨S, V, Sm, Vm, g, hW, hI, hM, hJ, hE, h31, hg⟩ := id hV
  have hthr := s_thrown (d := d + 19) hW.2.1
  rw [h31] at hthr
  refine i_287_1975 p2 ?_
  refine i_287_1976 hW.2.1.2.1 (Nat.le_of_ble_eq_true rfl) hthr ?_
  refine i_287_1979 p5 ?_
  refine i_287_1981 (fun _ => ?_) (fun h => absurd rfl h)
  refine i_287_1986 p5 ?_
  refine i_287_1988 (fun _ => ?_) (fun h => ?_)
  · refine i_287_2003 ?_
    exact k L' Z' w4 lv6 hL hZ hV.w hl6
  · have k0 : kk = 0 := by
      rw [oI hkb.1 hkb.2] at h
      exact h
    refine i_287_1991 p3 ?_
    refine i_287_1992 ?_
    refine i_287_1993 hW.2.2.1 (by decide) (by decide) (hg k0) ?_
    refine i_287_1994 p6 ?_
    refine i_287_1996 rfl ?_
    refine i_287_1997 (c := 0) lgc ?_
    refine i_287_1998 (fun _ => ?_) (fun h => absurd rfl h)
    refine i_287_2003 ?_
    exact k L' Z' w4 lv6 hL hZ hV.w hl6
theorem lw_22 (hIV : IV0 W L Z w) (hKC : KC W) (h0 : W[0]? = some (.inl (0, n, fun j => .int (Int32.ofInt (f j))))) (hf : ∀ j, -2147483648 ≤ f j ∧ f j < 2147483648) (hi : i + 6 ≤ n) (hn : n ≤ 3072) (hl : lvB lv i) (k : lwN W d L Z i Q) : xEv (d + 21) 287 2006 lv [] w Q := by
  obtain ⟨l0, l1, l2, l3, l4⟩ := id hl
  have hw := hIV.c0.trans h0
  obtain ⟨kk, w3, hrun, hkb, v, w4, hr4, hK3, L', Z', hL, hZ, hV⟩ := st_write (W := W) (L := L) (Z := Z) (d := d) (w := w) (r := f (i + 1)) (base := f (i + 2)) (n := f (i + 3)) (mode := f (i + 4)) hIV hKC (hf _) (hf _) (hf _) (hf _)
  have hw3 := (hK3.1 0 (by decide)).trans h0
  obtain ⟨fs, h128⟩ := hK3.2
  refine i_287_2006 l1 ?_
  refine i_287_2007 l0 ?_
  refine i_287_2008 l4 ?_
  refine i_287_2010 ?_
  refine i_287_2011 jad1 ?_
  refine i_287_2012 hw (jx 1 hi hn (by decide)).1 (jx 1 hi hn (by decide)).2.1 (jv (f := f) 1 hi hn (by decide)) ?_
  refine i_287_2013 l0 ?_
  refine i_287_2014 l4 ?_
  refine i_287_2016 ?_
  refine i_287_2017 jad2 ?_
  refine i_287_2018 hw (jx 2 hi hn (by decide)).1 (jx 2 hi hn (by decide)).2.1 (jv (f := f) 2 hi hn (by decide)) ?_
  refine i_287_2019 l0 ?_
  refine i_287_2020 l4 ?_
  refine i_287_2022 ?_
  refine i_287_2023 jad3 ?_
  refine i_287_2024 hw (jx 3 hi hn (by decide)).1 (jx 3 hi hn (by decide)).2.1 (jv (f := f) 3 hi hn (by decide)) ?_
  refine i_287_2025 l0 ?_
  refine i_287_2026 l4 ?_
  refine i_287_2028 ?_
  refine i_287_2029 jad4 ?_
  refine i_287_2030 hw (jx 4 hi hn (by decide)).1 (jx 4 hi hn (by decide)).2.1 (jv (f := f) 4 hi hn (by decide)) ?_
  refine i_287_2031 l3 ?_
  refine i_287_2032 (Nat.le_of_ble_eq_true rfl) hrun ?_
  refine i_287_2035 rfl ?_
  have hl5 := hl.s5 (v := .int (Int32.ofInt kk))
  have m5 : xld (xst1 lv 5 (.int (Int32.ofInt kk))) 5 = some (.int (Int32.ofInt kk)) := xld_s1
  generalize xst1 lv 5 (.int (Int32.ofInt kk)) = lv5 at hl5 m5 ⊢
  obtain ⟨m0, m1, m2, m3, m4⟩ := id hl5
  refine i_287_2037 m2 ?_
  refine i_287_2038 m0 ?_
  refine i_287_2039 m4 ?_
  refine i_287_2041 ?_
  refine i_287_2042 jad1 ?_
  refine i_287_2043 hw3 (jx 1 hi hn (by decide)).1 (jx 1 hi hn (by decide)).2.1 (jv (f := f) 1 hi hn (by decide)) ?_
  refine i_287_2044 m0 ?_
  refine i_287_2045 m4 ?_
  refine i_287_2047 ?_
  refine i_287_2048 jad2 ?_
  refine i_287_2049 hw3 (jx 2 hi hn (by decide)).1 (jx 2 hi hn (by decide)).2.1 (jv (f := f) 2 hi hn (by decide)) ?_
  refine i_287_2050 m0 ?_
  refine i_287_2051 m4 ?_
  refine i_287_2053 ?_
  refine i_287_2054 jad3 ?_
  refine i_287_2055 hw3 (jx 3 hi hn (by decide)).1 (jx 3 hi hn (by decide)).2.1 (jv (f := f) 3 hi hn (by decide)) ?_
  refine i_287_2056 m0 ?_
  refine i_287_2057 m4 ?_
  refine i_287_2059 ?_
  refine i_287_2060 jad4 ?_
  refine i_287_2061 hw3 (jx 4 hi hn (by decide)).1 (jx 4 hi hn (by decide)).2.1 (jv (f := f) 4 hi hn (by decide)) ?_
  refine i_287_2062 h128 (Nat.le_of_ble_eq_true rfl) hr4 ?_
  refine i_287_2065 rfl ?_
  have hl6 := hl5.s6 (v := .int v)
  have p5 : xld (xst1 lv5 6 (.int v)) 5 = some (.int (Int32.ofInt kk)) := xld_n1 rfl rfl m5
  have p6 : xld (xst1 lv5 6 (.int v)) 6 = some (.int v) := xld_s1
  generalize xst1 lv5 6 (.int v) = lv6 at hl6 p5 p6 ⊢
  obtain ⟨p0, p1, p2, p3, p4⟩ := id hl6
  obtain ⟨S, V, Sm, Vm, g, hW, hI, hM, hJ, hE, h31, hg⟩ := id hV
  have hthr := s_thrown (d := d + 19) hW.2.1
  rw [h31] at hthr
  refine i_287_2067 p2 ?_
  refine i_287_2068 hW.2.1.2.1 (Nat.le_of_ble_eq_true rfl) hthr ?_
  refine i_287_2071 p5 ?_
  refine i_287_2073 (fun _ => ?_) (fun h => absurd rfl h)
  refine i_287_2078 p5 ?_
  refine i_287_2080 (fun _ => ?_) (fun h => ?_)
  · refine i_287_2095 ?_
    exact k L' Z' w4 lv6 hL hZ hV.w hl6
  · have k0 : kk = 0 := by
      rw [oI hkb.1 hkb.2] at h
      exact h
    refine i_287_2083 p3 ?_
    refine i_287_2084 ?_
    refine i_287_2085 hW.2.2.1 (by decide) (by decide) (hg k0) ?_
    refine i_287_2086 p6 ?_
    refine i_287_2088 rfl ?_
    refine i_287_2089 (c := 0) lgc ?_
    refine i_287_2090 (fun _ => ?_) (fun h => absurd rfl h)
    refine i_287_2095 ?_
    exact k L' Z' w4 lv6 hL hZ hV.w hl6
theorem lw_23 (hIV : IV0 W L Z w) (h0 : W[0]? = some (.inl (0, n, fun j => .int (Int32.ofInt (f j))))) (hf : ∀ j, -2147483648 ≤ f j ∧ f j < 2147483648) (hi : i + 6 ≤ n) (hn : n ≤ 3072) (hl : lvB lv i) (k : lwN W d L Z i Q) : xEv (d + 21) 287 2098 lv [] w Q := by
  obtain ⟨l0, l1, l2, l3, l4⟩ := id hl
  have hw := hIV.c0.trans h0
  obtain ⟨kk, w3, hrun, hkb, v, w4, hr4, hK3, L', Z', hL, hZ, hV⟩ := st_oct (W := W) (L := L) (Z := Z) (d := d) (w := w) (k := f (i + 1)) hIV (hf _)
  have hw3 := (hK3.1 0 (by decide)).trans h0
  obtain ⟨fs, h128⟩ := hK3.2
  refine i_287_2098 l1 ?_
  refine i_287_2099 l0 ?_
  refine i_287_2100 l4 ?_
  refine i_287_2102 ?_
  refine i_287_2103 jad1 ?_
  refine i_287_2104 hw (jx 1 hi hn (by decide)).1 (jx 1 hi hn (by decide)).2.1 (jv (f := f) 1 hi hn (by decide)) ?_
  refine i_287_2105 l3 ?_
  refine i_287_2106 (Nat.le_of_ble_eq_true rfl) hrun ?_
  refine i_287_2109 rfl ?_
  have hl5 := hl.s5 (v := .int (Int32.ofInt kk))
  have m5 : xld (xst1 lv 5 (.int (Int32.ofInt kk))) 5 = some (.int (Int32.ofInt kk)) := xld_s1
  generalize xst1 lv 5 (.int (Int32.ofInt kk)) = lv5 at hl5 m5 ⊢
  obtain ⟨m0, m1, m2, m3, m4⟩ := id hl5
  refine i_287_2111 m2 ?_
  refine i_287_2112 m0 ?_
  refine i_287_2113 m4 ?_
  refine i_287_2115 ?_
  refine i_287_2116 jad1 ?_
  refine i_287_2117 hw3 (jx 1 hi hn (by decide)).1 (jx 1 hi hn (by decide)).2.1 (jv (f := f) 1 hi hn (by decide)) ?_
  refine i_287_2118 h128 (Nat.le_of_ble_eq_true rfl) hr4 ?_
  refine i_287_2121 rfl ?_
  have hl6 := hl5.s6 (v := .int v)
  have p5 : xld (xst1 lv5 6 (.int v)) 5 = some (.int (Int32.ofInt kk)) := xld_n1 rfl rfl m5
  have p6 : xld (xst1 lv5 6 (.int v)) 6 = some (.int v) := xld_s1
  generalize xst1 lv5 6 (.int v) = lv6 at hl6 p5 p6 ⊢
  obtain ⟨p0, p1, p2, p3, p4⟩ := id hl6
  obtain ⟨S, V, Sm, Vm, g, hW, hI, hM, hJ, hE, h31, hg⟩ := id hV
  have hthr := s_thrown (d := d + 19) hW.2.1
  rw [h31] at hthr
  refine i_287_2123 p2 ?_
  refine i_287_2124 hW.2.1.2.1 (Nat.le_of_ble_eq_true rfl) hthr ?_
  refine i_287_2127 p5 ?_
  refine i_287_2129 (fun _ => ?_) (fun h => absurd rfl h)
  refine i_287_2134 p5 ?_
  refine i_287_2136 (fun _ => ?_) (fun h => ?_)
  · refine i_287_2151 ?_
    exact k L' Z' w4 lv6 hL hZ hV.w hl6
  · have k0 : kk = 0 := by
      rw [oI hkb.1 hkb.2] at h
      exact h
    refine i_287_2139 p3 ?_
    refine i_287_2140 ?_
    refine i_287_2141 hW.2.2.1 (by decide) (by decide) (hg k0) ?_
    refine i_287_2142 p6 ?_
    refine i_287_2144 rfl ?_
    refine i_287_2145 (c := 0) lgc ?_
    refine i_287_2146 (fun _ => ?_) (fun h => absurd rfl h)
    refine i_287_2151 ?_
    exact k L' Z' w4 lv6 hL hZ hV.w hl6
end
