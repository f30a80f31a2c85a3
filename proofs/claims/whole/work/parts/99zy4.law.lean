section LWC
variable {p : Program} {l : Launch} {e : Env} {R : Room} {s : State} {m : MethodId} {args : Array Value} {below : List Frame} {meth : Method} {c : Code} {E : EE} {H : Heap} {locs : List Loc} {cells slots : Nat} {Q : State → Prop} {h g h' : Hp}
variable {b mm ao sc X0 pc0 pu0 L DD : Nat} {xs : Nat → Int32} {i : Int32} {ls : Array Slot}
theorem lc_20 (l : Launch) (hlt : l.stackTraces = false) (X : CxL p E DD R s m args c cL_law RL 8) (hDD : 19 ≤ DD) (HX : va_X sc L xs s s.heap) (hbl : sc < s.heap.size) (hin : vp_in (i + 1) L ∧ vp_in (i + 2) L ∧ vp_in (i + 3) L ∧ vp_in (i + 4) L ∧ vp_in (i + 5) L) (S : StL E s h g H []) (hl : lv_has ls 8 [(4, .int i), (3, rv ao), (2, rv mm), (1, rv b), (0, .ref sc)]) (iv : IV b mm ao X0 pc0 pu0 h g) (hXl : X0 ≤ H.size) (hrc : cells + pc0 + 1 ≤ R.cells) (hrs : slots + pu0 + 6 ≤ R.slots)
    (kk : ∀ {h' g' : Hp} {H' : Heap} {X' pc' pu' : Nat} {ls' : Array Slot} {cells' slots' : Nat}, StL E s h' g' H' [] → lv_has ls' 8 [(4, .int i), (3, rv ao), (2, rv mm), (1, rv b), (0, .ref sc)] → IV b mm ao X' pc' pu' h' g' → X' ≤ H'.size → cells' + pc' ≤ cells + pc0 + 1 → slots' + pu' ≤ slots + pu0 + 6 → W p l e R s m args below meth c H' [] cells' slots' Q (F0 m 2048 ls' [])) : W p l e R s m args below meth c H [] cells slots Q (F0 m 1357 ls []) := by
  obtain ⟨v, h1, g1, e1, e2, iv1⟩ := dc_undo iv
  have r1 : cells ≤ R.cells := by omega
  have r2 : slots ≤ R.slots := by omega
  refine g_aloadL X (or_rv _) dL_law_1357 rfl (lv_at hl 3 rfl) ?_
  refine g_ciS S (runVL (As := []) (rest := []) X S coL_171 (Nat.le_trans (by decide) hDD) (cX12_undo_m l e1) (tkX12_undo e1) rfl hl.1 (by simp [cat_rv, cat_wv, cat_sv, cat_i, cat_l, cat_a]) rfl ⟨r1, r2⟩ dL_law_1358) (fun H1 S1 y1 => ?_)
  refine g_aloadL X (or_rv _) dL_law_1361 rfl (lv_at hl 2 rfl) ?_
  clear S
  rename StL E s h1 g H1 [] => S
  refine g_ciS S.swap (runVL (As := []) (rest := [.int v]) X S.swap coL_174 (Nat.le_trans (by decide) hDD) (cX13_undo_m l e2) (tkX13_undo e2) rfl hl.1 (by simp [cat_rv, cat_wv, cat_sv, cat_i, cat_l, cat_a]) rfl ⟨r1, r2⟩ dL_law_1362) (fun H2 S2 y2 => ?_)
  refine lv_icmp_eq (tgt := 2048) X.1 X.2.1 dL_law_1365 (by decide) (fun _ => ?_) (fun x => absurd rfl x)
  exact kk S2.swap hl iv1 (Nat.le_trans hXl (Nat.le_trans y1 y2)) (by omega) (by omega)
theorem lc_21 (l : Launch) (hlt : l.stackTraces = false) (X : CxL p E DD R s m args c cL_law RL 8) (hDD : 19 ≤ DD) (HX : va_X sc L xs s s.heap) (hbl : sc < s.heap.size) (hin : vp_in (i + 1) L ∧ vp_in (i + 2) L ∧ vp_in (i + 3) L ∧ vp_in (i + 4) L ∧ vp_in (i + 5) L) (S : StL E s h g H []) (hl : lv_has ls 8 [(4, .int i), (3, rv ao), (2, rv mm), (1, rv b), (0, .ref sc)]) (iv : IV b mm ao X0 pc0 pu0 h g) (hXl : X0 ≤ H.size) (hrc : cells + pc0 + 1 ≤ R.cells) (hrs : slots + pu0 + 6 ≤ R.slots)
    (kk : ∀ {h' g' : Hp} {H' : Heap} {X' pc' pu' : Nat} {ls' : Array Slot} {cells' slots' : Nat}, StL E s h' g' H' [] → lv_has ls' 8 [(4, .int i), (3, rv ao), (2, rv mm), (1, rv b), (0, .ref sc)] → IV b mm ao X' pc' pu' h' g' → X' ≤ H'.size → cells' + pc' ≤ cells + pc0 + 1 → slots' + pu' ≤ slots + pu0 + 6 → W p l e R s m args below meth c H' [] cells' slots' Q (F0 m 2048 ls' [])) : W p l e R s m args below meth c H [] cells slots Q (F0 m 1370 ls []) := by
  obtain ⟨z1, hz1⟩ : ∃ z, xs (i + 1).toNatClampNeg = z := ⟨_, rfl⟩
  obtain ⟨z2, hz2⟩ : ∃ z, xs (i + 2).toNatClampNeg = z := ⟨_, rfl⟩
  obtain ⟨kk1, h1, v, g1, e1, e2, e3, e4, iv1⟩ := hc_then (z0 := z1) (z1 := z2) iv
  have r1 : cells + 1 ≤ R.cells := by omega
  have r2 : slots + 6 ≤ R.slots := by omega
  refine g_aloadL X (or_rv _) dL_law_1370 rfl (lv_at hl 3 rfl) ?_
  refine g_arg (k := 1) X S HX hbl (lv_at hl 4 rfl) (lv_at hl 0 rfl) hin.1 rfl hz1 dL_law_1371 dL_law_1372 dL_law_1374 dL_law_1375 dL_law_1376 ?_
  refine g_arg (k := 2) X S HX hbl (lv_at hl 4 rfl) (lv_at hl 0 rfl) hin.2.1 rfl hz2 dL_law_1377 dL_law_1378 dL_law_1380 dL_law_1381 dL_law_1382 ?_
  refine g_aloadL X (or_rv _) dL_law_1383 rfl (lv_at hl 1 rfl) ?_
  refine g_ciS S (runHL (Pc := PcL E (AX s g) h [rv b, .int z1, .int z2, rv ao]) (As := [rv b, .int z1, .int z2, rv ao]) (rest := []) (n := 4) X blindL (pre_okL X S _) (uw_6 135 rfl rfl) (uw_6 137 rfl rfl) (uw_1 0 rfl rfl) (by decide) (by decide +kernel) (by decide) (uw_6 136 rfl rfl) (Nat.le_trans (by decide) hDD) (cL_then_h l hlt e1) rfl hl.1 (by simp [cat_rv, cat_wv, cat_sv, cat_i, cat_l, cat_a]) rfl ⟨r1, r2⟩ dL_law_1384) (fun H1 S1 y1 => ?_)
  refine lv_istore (lv' := [(5, .int kk1), (4, .int i), (3, rv ao), (2, rv mm), (1, rv b), (0, .ref sc)]) X.1 X.2.1 dL_law_1387 hl (by decide) (by simp [List.filter, cat_rv, cat_wv, cat_sv, cat_i, cat_l]) (fun ls hl => ?_)
  refine g_aloadL X (or_rv _) dL_law_1389 rfl (lv_at hl 3 rfl) ?_
  clear S
  rename StL E s h1 g H1 [] => S
  refine g_arg (k := 1) X S HX hbl (lv_at hl 5 rfl) (lv_at hl 1 rfl) hin.1 rfl hz1 dL_law_1390 dL_law_1391 dL_law_1393 dL_law_1394 dL_law_1395 ?_
  refine g_arg (k := 2) X S HX hbl (lv_at hl 5 rfl) (lv_at hl 1 rfl) hin.2.1 rfl hz2 dL_law_1396 dL_law_1397 dL_law_1399 dL_law_1400 dL_law_1401 ?_
  refine g_ciS S.swap (runVL (As := [.int z1, .int z2]) (rest := []) X S.swap coL_177 (Nat.le_trans (by decide) hDD) (cX13_then_m l e2) (tkX13_then e2) rfl hl.1 (by simp [cat_rv, cat_wv, cat_sv, cat_i, cat_l, cat_a]) rfl ⟨r1, r2⟩ dL_law_1402) (fun H2 S2 y2 => ?_)
  exact lw_tail X hDD S2.swap hl iv1 e3 e4 r1 r2 dL_law_1405 dL_law_1407 dL_law_1408 dL_law_1411 dL_law_1413 dL_law_1418 dL_law_1420 dL_law_1423 dL_law_1424 dL_law_1425 dL_law_1426 dL_law_1428 dL_law_1429 dL_law_1430 dL_law_1435 (by decide) (fun H3 ls S3 y3 hl3 => kk S3 hl3 iv1 (Nat.le_trans hXl (Nat.le_trans y1 (Nat.le_trans y2 y3))) (by omega) (by omega))
theorem lc_22 (l : Launch) (hlt : l.stackTraces = false) (X : CxL p E DD R s m args c cL_law RL 8) (hDD : 19 ≤ DD) (HX : va_X sc L xs s s.heap) (hbl : sc < s.heap.size) (hin : vp_in (i + 1) L ∧ vp_in (i + 2) L ∧ vp_in (i + 3) L ∧ vp_in (i + 4) L ∧ vp_in (i + 5) L) (S : StL E s h g H []) (hl : lv_has ls 8 [(4, .int i), (3, rv ao), (2, rv mm), (1, rv b), (0, .ref sc)]) (iv : IV b mm ao X0 pc0 pu0 h g) (hXl : X0 ≤ H.size) (hrc : cells + pc0 + 1 ≤ R.cells) (hrs : slots + pu0 + 6 ≤ R.slots)
    (kk : ∀ {h' g' : Hp} {H' : Heap} {X' pc' pu' : Nat} {ls' : Array Slot} {cells' slots' : Nat}, StL E s h' g' H' [] → lv_has ls' 8 [(4, .int i), (3, rv ao), (2, rv mm), (1, rv b), (0, .ref sc)] → IV b mm ao X' pc' pu' h' g' → X' ≤ H'.size → cells' + pc' ≤ cells + pc0 + 1 → slots' + pu' ≤ slots + pu0 + 6 → W p l e R s m args below meth c H' [] cells' slots' Q (F0 m 2048 ls' [])) : W p l e R s m args below meth c H [] cells slots Q (F0 m 1438 ls []) := by
  obtain ⟨z1, hz1⟩ : ∃ z, xs (i + 1).toNatClampNeg = z := ⟨_, rfl⟩
  obtain ⟨z2, hz2⟩ : ∃ z, xs (i + 2).toNatClampNeg = z := ⟨_, rfl⟩
  obtain ⟨kk1, h1, v, g1, e1, e2, e3, e4, iv1⟩ := hc_holds (z0 := z1) (z1 := z2) iv
  have r1 : cells + 1 ≤ R.cells := by omega
  have r2 : slots + 6 ≤ R.slots := by omega
  refine g_aloadL X (or_rv _) dL_law_1438 rfl (lv_at hl 3 rfl) ?_
  refine g_arg (k := 1) X S HX hbl (lv_at hl 4 rfl) (lv_at hl 0 rfl) hin.1 rfl hz1 dL_law_1439 dL_law_1440 dL_law_1442 dL_law_1443 dL_law_1444 ?_
  refine g_arg (k := 2) X S HX hbl (lv_at hl 4 rfl) (lv_at hl 0 rfl) hin.2.1 rfl hz2 dL_law_1445 dL_law_1446 dL_law_1448 dL_law_1449 dL_law_1450 ?_
  refine g_aloadL X (or_rv _) dL_law_1451 rfl (lv_at hl 1 rfl) ?_
  refine g_ciS S (runHL (Pc := PcL E (AX s g) h [rv b, .int z1, .int z2, rv ao]) (As := [rv b, .int z1, .int z2, rv ao]) (rest := []) (n := 4) X blindL (pre_okL X S _) (uw_6 151 rfl rfl) (uw_6 153 rfl rfl) (uw_1 0 rfl rfl) (by decide) (by decide +kernel) (by decide) (uw_6 152 rfl rfl) (Nat.le_trans (by decide) hDD) (cL_holds_h l hlt e1) rfl hl.1 (by simp [cat_rv, cat_wv, cat_sv, cat_i, cat_l, cat_a]) rfl ⟨r1, r2⟩ dL_law_1452) (fun H1 S1 y1 => ?_)
  refine lv_istore (lv' := [(5, .int kk1), (4, .int i), (3, rv ao), (2, rv mm), (1, rv b), (0, .ref sc)]) X.1 X.2.1 dL_law_1455 hl (by decide) (by simp [List.filter, cat_rv, cat_wv, cat_sv, cat_i, cat_l]) (fun ls hl => ?_)
  refine g_aloadL X (or_rv _) dL_law_1457 rfl (lv_at hl 3 rfl) ?_
  clear S
  rename StL E s h1 g H1 [] => S
  refine g_arg (k := 1) X S HX hbl (lv_at hl 5 rfl) (lv_at hl 1 rfl) hin.1 rfl hz1 dL_law_1458 dL_law_1459 dL_law_1461 dL_law_1462 dL_law_1463 ?_
  refine g_arg (k := 2) X S HX hbl (lv_at hl 5 rfl) (lv_at hl 1 rfl) hin.2.1 rfl hz2 dL_law_1464 dL_law_1465 dL_law_1467 dL_law_1468 dL_law_1469 ?_
  refine g_ciS S.swap (runVL (As := [.int z1, .int z2]) (rest := []) X S.swap coL_180 (Nat.le_trans (by decide) hDD) (cX13_holds_m l e2) (tkX13_holds e2) rfl hl.1 (by simp [cat_rv, cat_wv, cat_sv, cat_i, cat_l, cat_a]) rfl ⟨r1, r2⟩ dL_law_1470) (fun H2 S2 y2 => ?_)
  exact lw_tail X hDD S2.swap hl iv1 e3 e4 r1 r2 dL_law_1473 dL_law_1475 dL_law_1476 dL_law_1479 dL_law_1481 dL_law_1486 dL_law_1488 dL_law_1491 dL_law_1492 dL_law_1493 dL_law_1494 dL_law_1496 dL_law_1497 dL_law_1498 dL_law_1503 (by decide) (fun H3 ls S3 y3 hl3 => kk S3 hl3 iv1 (Nat.le_trans hXl (Nat.le_trans y1 (Nat.le_trans y2 y3))) (by omega) (by omega))
theorem lc_23 (l : Launch) (hlt : l.stackTraces = false) (X : CxL p E DD R s m args c cL_law RL 8) (hDD : 19 ≤ DD) (HX : va_X sc L xs s s.heap) (hbl : sc < s.heap.size) (hin : vp_in (i + 1) L ∧ vp_in (i + 2) L ∧ vp_in (i + 3) L ∧ vp_in (i + 4) L ∧ vp_in (i + 5) L) (S : StL E s h g H []) (hl : lv_has ls 8 [(4, .int i), (3, rv ao), (2, rv mm), (1, rv b), (0, .ref sc)]) (iv : IV b mm ao X0 pc0 pu0 h g) (hXl : X0 ≤ H.size) (hrc : cells + pc0 + 1 ≤ R.cells) (hrs : slots + pu0 + 6 ≤ R.slots)
    (kk : ∀ {h' g' : Hp} {H' : Heap} {X' pc' pu' : Nat} {ls' : Array Slot} {cells' slots' : Nat}, StL E s h' g' H' [] → lv_has ls' 8 [(4, .int i), (3, rv ao), (2, rv mm), (1, rv b), (0, .ref sc)] → IV b mm ao X' pc' pu' h' g' → X' ≤ H'.size → cells' + pc' ≤ cells + pc0 + 1 → slots' + pu' ≤ slots + pu0 + 6 → W p l e R s m args below meth c H' [] cells' slots' Q (F0 m 2048 ls' [])) : W p l e R s m args below meth c H [] cells slots Q (F0 m 1506 ls []) := by
  obtain ⟨z1, hz1⟩ : ∃ z, xs (i + 1).toNatClampNeg = z := ⟨_, rfl⟩
  obtain ⟨z2, hz2⟩ : ∃ z, xs (i + 2).toNatClampNeg = z := ⟨_, rfl⟩
  obtain ⟨kk1, h1, v, g1, e1, e2, e3, e4, iv1⟩ := hc_where (z0 := z1) (z1 := z2) iv
  have r1 : cells + 1 ≤ R.cells := by omega
  have r2 : slots + 6 ≤ R.slots := by omega
  refine g_aloadL X (or_rv _) dL_law_1506 rfl (lv_at hl 3 rfl) ?_
  refine g_arg (k := 1) X S HX hbl (lv_at hl 4 rfl) (lv_at hl 0 rfl) hin.1 rfl hz1 dL_law_1507 dL_law_1508 dL_law_1510 dL_law_1511 dL_law_1512 ?_
  refine g_arg (k := 2) X S HX hbl (lv_at hl 4 rfl) (lv_at hl 0 rfl) hin.2.1 rfl hz2 dL_law_1513 dL_law_1514 dL_law_1516 dL_law_1517 dL_law_1518 ?_
  refine g_aloadL X (or_rv _) dL_law_1519 rfl (lv_at hl 1 rfl) ?_
  refine g_ciS S (runHL (Pc := PcL E (AX s g) h [rv b, .int z1, .int z2, rv ao]) (As := [rv b, .int z1, .int z2, rv ao]) (rest := []) (n := 4) X blindL (pre_okL X S _) (uw_6 158 rfl rfl) (uw_6 160 rfl rfl) (uw_1 0 rfl rfl) (by decide) (by decide +kernel) (by decide) (uw_6 159 rfl rfl) (Nat.le_trans (by decide) hDD) (cL_where_h l hlt e1) rfl hl.1 (by simp [cat_rv, cat_wv, cat_sv, cat_i, cat_l, cat_a]) rfl ⟨r1, r2⟩ dL_law_1520) (fun H1 S1 y1 => ?_)
  refine lv_istore (lv' := [(5, .int kk1), (4, .int i), (3, rv ao), (2, rv mm), (1, rv b), (0, .ref sc)]) X.1 X.2.1 dL_law_1523 hl (by decide) (by simp [List.filter, cat_rv, cat_wv, cat_sv, cat_i, cat_l]) (fun ls hl => ?_)
  refine g_aloadL X (or_rv _) dL_law_1525 rfl (lv_at hl 3 rfl) ?_
  clear S
  rename StL E s h1 g H1 [] => S
  refine g_arg (k := 1) X S HX hbl (lv_at hl 5 rfl) (lv_at hl 1 rfl) hin.1 rfl hz1 dL_law_1526 dL_law_1527 dL_law_1529 dL_law_1530 dL_law_1531 ?_
  refine g_arg (k := 2) X S HX hbl (lv_at hl 5 rfl) (lv_at hl 1 rfl) hin.2.1 rfl hz2 dL_law_1532 dL_law_1533 dL_law_1535 dL_law_1536 dL_law_1537 ?_
  refine g_ciS S.swap (runVL (As := [.int z1, .int z2]) (rest := []) X S.swap coL_183 (Nat.le_trans (by decide) hDD) (cX13_where_m l e2) (tkX13_where e2) rfl hl.1 (by simp [cat_rv, cat_wv, cat_sv, cat_i, cat_l, cat_a]) rfl ⟨r1, r2⟩ dL_law_1538) (fun H2 S2 y2 => ?_)
  exact lw_tail X hDD S2.swap hl iv1 e3 e4 r1 r2 dL_law_1541 dL_law_1543 dL_law_1544 dL_law_1547 dL_law_1549 dL_law_1554 dL_law_1556 dL_law_1559 dL_law_1560 dL_law_1561 dL_law_1562 dL_law_1564 dL_law_1565 dL_law_1566 dL_law_1571 (by decide) (fun H3 ls S3 y3 hl3 => kk S3 hl3 iv1 (Nat.le_trans hXl (Nat.le_trans y1 (Nat.le_trans y2 y3))) (by omega) (by omega))
theorem lc_24 (l : Launch) (hlt : l.stackTraces = false) (X : CxL p E DD R s m args c cL_law RL 8) (hDD : 19 ≤ DD) (HX : va_X sc L xs s s.heap) (hbl : sc < s.heap.size) (hin : vp_in (i + 1) L ∧ vp_in (i + 2) L ∧ vp_in (i + 3) L ∧ vp_in (i + 4) L ∧ vp_in (i + 5) L) (S : StL E s h g H []) (hl : lv_has ls 8 [(4, .int i), (3, rv ao), (2, rv mm), (1, rv b), (0, .ref sc)]) (iv : IV b mm ao X0 pc0 pu0 h g) (hXl : X0 ≤ H.size) (hrc : cells + pc0 + 1 ≤ R.cells) (hrs : slots + pu0 + 6 ≤ R.slots)
    (kk : ∀ {h' g' : Hp} {H' : Heap} {X' pc' pu' : Nat} {ls' : Array Slot} {cells' slots' : Nat}, StL E s h' g' H' [] → lv_has ls' 8 [(4, .int i), (3, rv ao), (2, rv mm), (1, rv b), (0, .ref sc)] → IV b mm ao X' pc' pu' h' g' → X' ≤ H'.size → cells' + pc' ≤ cells + pc0 + 1 → slots' + pu' ≤ slots + pu0 + 6 → W p l e R s m args below meth c H' [] cells' slots' Q (F0 m 2048 ls' [])) : W p l e R s m args below meth c H [] cells slots Q (F0 m 1574 ls []) := by
  obtain ⟨z1, hz1⟩ : ∃ z, xs (i + 1).toNatClampNeg = z := ⟨_, rfl⟩
  obtain ⟨kk1, h1, v, g1, e1, e2, e3, e4, iv1⟩ := hc_faults (z0 := z1) iv
  have r1 : cells + 1 ≤ R.cells := by omega
  have r2 : slots + 6 ≤ R.slots := by omega
  refine g_aloadL X (or_rv _) dL_law_1574 rfl (lv_at hl 3 rfl) ?_
  refine g_arg (k := 1) X S HX hbl (lv_at hl 4 rfl) (lv_at hl 0 rfl) hin.1 rfl hz1 dL_law_1575 dL_law_1576 dL_law_1578 dL_law_1579 dL_law_1580 ?_
  refine g_aloadL X (or_rv _) dL_law_1581 rfl (lv_at hl 1 rfl) ?_
  refine g_ciS S (runHL (Pc := PcL E (AX s g) h [rv b, .int z1, rv ao]) (As := [rv b, .int z1, rv ao]) (rest := []) (n := 3) X blindL (pre_okL X S _) (uw_6 170 rfl rfl) (uw_6 172 rfl rfl) (uw_1 0 rfl rfl) (by decide) (by decide +kernel) (by decide) (uw_6 171 rfl rfl) (Nat.le_trans (by decide) hDD) (cL_faults_h l hlt e1) rfl hl.1 (by simp [cat_rv, cat_wv, cat_sv, cat_i, cat_l, cat_a]) rfl ⟨r1, r2⟩ dL_law_1582) (fun H1 S1 y1 => ?_)
  refine lv_istore (lv' := [(5, .int kk1), (4, .int i), (3, rv ao), (2, rv mm), (1, rv b), (0, .ref sc)]) X.1 X.2.1 dL_law_1585 hl (by decide) (by simp [List.filter, cat_rv, cat_wv, cat_sv, cat_i, cat_l]) (fun ls hl => ?_)
  refine g_aloadL X (or_rv _) dL_law_1587 rfl (lv_at hl 3 rfl) ?_
  clear S
  rename StL E s h1 g H1 [] => S
  refine g_arg (k := 1) X S HX hbl (lv_at hl 5 rfl) (lv_at hl 1 rfl) hin.1 rfl hz1 dL_law_1588 dL_law_1589 dL_law_1591 dL_law_1592 dL_law_1593 ?_
  refine g_ciS S.swap (runVL (As := [.int z1]) (rest := []) X S.swap coL_186 (Nat.le_trans (by decide) hDD) (cX13_faults_m l e2) (tkX13_faults e2) rfl hl.1 (by simp [cat_rv, cat_wv, cat_sv, cat_i, cat_l, cat_a]) rfl ⟨r1, r2⟩ dL_law_1594) (fun H2 S2 y2 => ?_)
  exact lw_tail X hDD S2.swap hl iv1 e3 e4 r1 r2 dL_law_1597 dL_law_1599 dL_law_1600 dL_law_1603 dL_law_1605 dL_law_1610 dL_law_1612 dL_law_1615 dL_law_1616 dL_law_1617 dL_law_1618 dL_law_1620 dL_law_1621 dL_law_1622 dL_law_1627 (by decide) (fun H3 ls S3 y3 hl3 => kk S3 hl3 iv1 (Nat.le_trans hXl (Nat.le_trans y1 (Nat.le_trans y2 y3))) (by omega) (by omega))
end LWC
