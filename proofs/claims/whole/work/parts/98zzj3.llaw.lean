theorem lc_worn {g : gG} {d : Nat} {T : mT} {n : Nat} {I : mI} {J : mJ} {F : mF} {Q : mQ} {b x k i t N : Nat} {A : Ab} {xs : Nat → Int32} (hXs : va_X b N xs (gs g) (gs g).heap) (hbs : b < (gs g).heap.size) (hiN : i + 7 ≤ N) (hN : N ≤ 3584) (hLI : LI x A k T n I J F) (kk : ∀ (A' : Ab) (k' : Nat) (T' : mT) (n' : Nat) (I' : mI) (J' : mJ) (F' : mF), LI x A' k' T' n' I' J' F' → V g mL_law (d + 60) Q (3 * t) (420 * t + phi k') 1530 [some (.ref b), some (.ref x), some (.ref (x + 90)), some (.int (nI i))] [] T' n' I' J' F') : V g mL_law (d + 60) Q (3 * t + 3) (420 * t + 420 + phi k) 1336 [some (.ref b), some (.ref x), some (.ref (x + 90)), some (.int (nI i))] [] T n I J F := by
  obtain ⟨hX, hR, hM, hRM, hA, hLK, hn⟩ := id hLI
  have hTx := hX.o
  refine V.aload_n (pc := 1336) dL_law_1336 rfl ?_
  refine V.aload_n (pc := 1337) dL_law_1337 rfl ?_
  refine V.iload_n (pc := 1338) dL_law_1338 rfl ?_
  refine V.iconst (v := 1) (pc := 1339) dL_law_1339 (by decide) ?_
  refine V.iadd (pc := 1340) dL_law_1340 ?_
  refine V.sld (k := i + 1) hXs hbs (pc := 1341) dL_law_1341 (by rw [show (1 : Int32) = nI 1 from rfl, nI_add]) (by omega) (by omega) ?_
  refine V.invV0 (as := [_]) (pc := 1342) dL_law_1342 lL_155 bX11_worn nX11_worn (ci := 10) rfl eX11_worn (by assumption) (y_worn (d := d + 55) _ hX hA hR) (by omega) rfl (Nat.le_of_ble_eq_true rfl) ?_
  rintro r1 T1 n1 I1 J1 F1 q1
  obtain ⟨rfl, L1⟩ := hLI.cls (q1.qs hLK)
  have hTm := L1.2.2.1.o
  refine V.aload_n (pc := 1345) dL_law_1345 rfl ?_
  refine V.aload_n (pc := 1346) dL_law_1346 rfl ?_
  refine V.iload_n (pc := 1347) dL_law_1347 rfl ?_
  refine V.iconst (v := 1) (pc := 1348) dL_law_1348 (by decide) ?_
  refine V.iadd (pc := 1349) dL_law_1349 ?_
  refine V.sld (k := i + 1) hXs hbs (pc := 1350) dL_law_1350 (by rw [show (1 : Int32) = nI 1 from rfl, nI_add]) (by omega) (by omega) ?_
  refine V.invV0 (as := [_]) (pc := 1351) dL_law_1351 lL_158 bX12_worn nX12_worn (ci := 11) rfl eX12_worn (by assumption) (p_worn (d := d + 56) _ L1.2.2.1 L1.2.2.2.2.1 L1.2.2.2.1) (by omega) rfl (Nat.le_of_ble_eq_true rfl) ?_
  rintro r2 T2 n2 I2 J2 F2 q2
  obtain ⟨rfl, L2⟩ := L1.ref hA q2
  refine V.icmp_eq 1530 (pc := 1354) dL_law_1354 (by decide) (fun h1354 => ?_) (fun h1354 => absurd rfl h1354)
  refine V.room (bc := 3 * t) (bs := 420 * t + phi k) (by omega) (by omega) ?_
  exact kk _ k _ _ _ _ _ L2
theorem lc_shared {g : gG} {d : Nat} {T : mT} {n : Nat} {I : mI} {J : mJ} {F : mF} {Q : mQ} {b x k i t N : Nat} {A : Ab} {xs : Nat → Int32} (hXs : va_X b N xs (gs g) (gs g).heap) (hbs : b < (gs g).heap.size) (hiN : i + 7 ≤ N) (hN : N ≤ 3584) (hLI : LI x A k T n I J F) (kk : ∀ (A' : Ab) (k' : Nat) (T' : mT) (n' : Nat) (I' : mI) (J' : mJ) (F' : mF), LI x A' k' T' n' I' J' F' → V g mL_law (d + 60) Q (3 * t) (420 * t + phi k') 1530 [some (.ref b), some (.ref x), some (.ref (x + 90)), some (.int (nI i))] [] T' n' I' J' F') : V g mL_law (d + 60) Q (3 * t + 3) (420 * t + 420 + phi k) 1359 [some (.ref b), some (.ref x), some (.ref (x + 90)), some (.int (nI i))] [] T n I J F := by
  obtain ⟨hX, hR, hM, hRM, hA, hLK, hn⟩ := id hLI
  have hTx := hX.o
  refine V.aload_n (pc := 1359) dL_law_1359 rfl ?_
  refine V.invV0 (as := []) (pc := 1360) dL_law_1360 lL_159 bX11_shared nX11_shared (ci := 10) rfl eX11_shared (by assumption) (y_shared (d := d + 55)  hX hA hR) (by omega) rfl (Nat.le_of_ble_eq_true rfl) ?_
  rintro r1 T1 n1 I1 J1 F1 q1
  obtain ⟨rfl, L1⟩ := hLI.cls (q1.qs hLK)
  have hTm := L1.2.2.1.o
  refine V.aload_n (pc := 1363) dL_law_1363 rfl ?_
  refine V.invV0 (as := []) (pc := 1364) dL_law_1364 lL_162 bX12_shared nX12_shared (ci := 11) rfl eX12_shared (by assumption) (p_shared (d := d + 56)  L1.2.2.1 L1.2.2.2.2.1 L1.2.2.2.1) (by omega) rfl (Nat.le_of_ble_eq_true rfl) ?_
  rintro r2 T2 n2 I2 J2 F2 q2
  obtain ⟨rfl, L2⟩ := L1.ref hA q2
  refine V.icmp_eq 1530 (pc := 1367) dL_law_1367 (by decide) (fun h1367 => ?_) (fun h1367 => absurd rfl h1367)
  refine V.room (bc := 3 * t) (bs := 420 * t + phi k) (by omega) (by omega) ?_
  exact kk _ k _ _ _ _ _ L2
theorem lc_storm {g : gG} {d : Nat} {T : mT} {n : Nat} {I : mI} {J : mJ} {F : mF} {Q : mQ} {b x k i t N : Nat} {A : Ab} {xs : Nat → Int32} (hXs : va_X b N xs (gs g) (gs g).heap) (hbs : b < (gs g).heap.size) (hiN : i + 7 ≤ N) (hN : N ≤ 3584) (hLI : LI x A k T n I J F) (kk : ∀ (A' : Ab) (k' : Nat) (T' : mT) (n' : Nat) (I' : mI) (J' : mJ) (F' : mF), LI x A' k' T' n' I' J' F' → V g mL_law (d + 60) Q (3 * t) (420 * t + phi k') 1530 [some (.ref b), some (.ref x), some (.ref (x + 90)), some (.int (nI i))] [] T' n' I' J' F') : V g mL_law (d + 60) Q (3 * t + 3) (420 * t + 420 + phi k) 1372 [some (.ref b), some (.ref x), some (.ref (x + 90)), some (.int (nI i))] [] T n I J F := by
  obtain ⟨hX, hR, hM, hRM, hA, hLK, hn⟩ := id hLI
  have hTx := hX.o
  refine V.aload_n (pc := 1372) dL_law_1372 rfl ?_
  refine V.aload_n (pc := 1373) dL_law_1373 rfl ?_
  refine V.iload_n (pc := 1374) dL_law_1374 rfl ?_
  refine V.iconst (v := 1) (pc := 1375) dL_law_1375 (by decide) ?_
  refine V.iadd (pc := 1376) dL_law_1376 ?_
  refine V.sld (k := i + 1) hXs hbs (pc := 1377) dL_law_1377 (by rw [show (1 : Int32) = nI 1 from rfl, nI_add]) (by omega) (by omega) ?_
  refine V.aload_n (pc := 1378) dL_law_1378 rfl ?_
  refine V.iload_n (pc := 1379) dL_law_1379 rfl ?_
  refine V.iconst (v := 2) (pc := 1380) dL_law_1380 (by decide) ?_
  refine V.iadd (pc := 1381) dL_law_1381 ?_
  refine V.sld (k := i + 2) hXs hbs (pc := 1382) dL_law_1382 (by rw [show (2 : Int32) = nI 2 from rfl, nI_add]) (by omega) (by omega) ?_
  refine V.aload_n (pc := 1383) dL_law_1383 rfl ?_
  refine V.iload_n (pc := 1384) dL_law_1384 rfl ?_
  refine V.iconst (v := 3) (pc := 1385) dL_law_1385 (by decide) ?_
  refine V.iadd (pc := 1386) dL_law_1386 ?_
  refine V.sld (k := i + 3) hXs hbs (pc := 1387) dL_law_1387 (by rw [show (3 : Int32) = nI 3 from rfl, nI_add]) (by omega) (by omega) ?_
  refine V.invV0 (as := [_, _, _]) (pc := 1388) dL_law_1388 lL_163 bX11_storm nX11_storm (ci := 10) rfl eX11_storm (by assumption) (y_storm (d := d + 55) _ _ _ hX hA hR) (by omega) rfl (Nat.le_of_ble_eq_true rfl) ?_
  rintro r1 T1 n1 I1 J1 F1 q1
  obtain ⟨rfl, L1⟩ := hLI.cls (q1.qs hLK)
  have hTm := L1.2.2.1.o
  refine V.aload_n (pc := 1391) dL_law_1391 rfl ?_
  refine V.aload_n (pc := 1392) dL_law_1392 rfl ?_
  refine V.iload_n (pc := 1393) dL_law_1393 rfl ?_
  refine V.iconst (v := 1) (pc := 1394) dL_law_1394 (by decide) ?_
  refine V.iadd (pc := 1395) dL_law_1395 ?_
  refine V.sld (k := i + 1) hXs hbs (pc := 1396) dL_law_1396 (by rw [show (1 : Int32) = nI 1 from rfl, nI_add]) (by omega) (by omega) ?_
  refine V.aload_n (pc := 1397) dL_law_1397 rfl ?_
  refine V.iload_n (pc := 1398) dL_law_1398 rfl ?_
  refine V.iconst (v := 2) (pc := 1399) dL_law_1399 (by decide) ?_
  refine V.iadd (pc := 1400) dL_law_1400 ?_
  refine V.sld (k := i + 2) hXs hbs (pc := 1401) dL_law_1401 (by rw [show (2 : Int32) = nI 2 from rfl, nI_add]) (by omega) (by omega) ?_
  refine V.aload_n (pc := 1402) dL_law_1402 rfl ?_
  refine V.iload_n (pc := 1403) dL_law_1403 rfl ?_
  refine V.iconst (v := 3) (pc := 1404) dL_law_1404 (by decide) ?_
  refine V.iadd (pc := 1405) dL_law_1405 ?_
  refine V.sld (k := i + 3) hXs hbs (pc := 1406) dL_law_1406 (by rw [show (3 : Int32) = nI 3 from rfl, nI_add]) (by omega) (by omega) ?_
  refine V.invV0 (as := [_, _, _]) (pc := 1407) dL_law_1407 lL_166 bX12_storm nX12_storm (ci := 11) rfl eX12_storm (by assumption) (p_storm (d := d + 55) _ _ _ L1.2.2.1 L1.2.2.2.2.1 L1.2.2.2.1) (by omega) rfl (Nat.le_of_ble_eq_true rfl) ?_
  rintro r2 T2 n2 I2 J2 F2 q2
  obtain ⟨rfl, L2⟩ := L1.ref (ab_storm hA) q2
  refine V.icmp_eq 1530 (pc := 1410) dL_law_1410 (by decide) (fun h1410 => ?_) (fun h1410 => absurd rfl h1410)
  refine V.room (bc := 3 * t) (bs := 420 * t + phi k) (by omega) (by omega) ?_
  exact kk _ k _ _ _ _ _ L2
theorem lc_stormed {g : gG} {d : Nat} {T : mT} {n : Nat} {I : mI} {J : mJ} {F : mF} {Q : mQ} {b x k i t N : Nat} {A : Ab} {xs : Nat → Int32} (hXs : va_X b N xs (gs g) (gs g).heap) (hbs : b < (gs g).heap.size) (hiN : i + 7 ≤ N) (hN : N ≤ 3584) (hLI : LI x A k T n I J F) (kk : ∀ (A' : Ab) (k' : Nat) (T' : mT) (n' : Nat) (I' : mI) (J' : mJ) (F' : mF), LI x A' k' T' n' I' J' F' → V g mL_law (d + 60) Q (3 * t) (420 * t + phi k') 1530 [some (.ref b), some (.ref x), some (.ref (x + 90)), some (.int (nI i))] [] T' n' I' J' F') : V g mL_law (d + 60) Q (3 * t + 3) (420 * t + 420 + phi k) 1415 [some (.ref b), some (.ref x), some (.ref (x + 90)), some (.int (nI i))] [] T n I J F := by
  obtain ⟨hX, hR, hM, hRM, hA, hLK, hn⟩ := id hLI
  have hTx := hX.o
  refine V.aload_n (pc := 1415) dL_law_1415 rfl ?_
  refine V.aload_n (pc := 1416) dL_law_1416 rfl ?_
  refine V.iload_n (pc := 1417) dL_law_1417 rfl ?_
  refine V.iconst (v := 1) (pc := 1418) dL_law_1418 (by decide) ?_
  refine V.iadd (pc := 1419) dL_law_1419 ?_
  refine V.sld (k := i + 1) hXs hbs (pc := 1420) dL_law_1420 (by rw [show (1 : Int32) = nI 1 from rfl, nI_add]) (by omega) (by omega) ?_
  refine V.aload_n (pc := 1421) dL_law_1421 rfl ?_
  refine V.iload_n (pc := 1422) dL_law_1422 rfl ?_
  refine V.iconst (v := 2) (pc := 1423) dL_law_1423 (by decide) ?_
  refine V.iadd (pc := 1424) dL_law_1424 ?_
  refine V.sld (k := i + 2) hXs hbs (pc := 1425) dL_law_1425 (by rw [show (2 : Int32) = nI 2 from rfl, nI_add]) (by omega) (by omega) ?_
  refine V.invV0 (as := [_, _]) (pc := 1426) dL_law_1426 lL_167 bX11_stormed nX11_stormed (ci := 10) rfl eX11_stormed (by assumption) (y_stormed (d := d + 55) _ _ hX hA hR) (by omega) rfl (Nat.le_of_ble_eq_true rfl) ?_
  rintro r1 T1 n1 I1 J1 F1 q1
  obtain ⟨rfl, L1⟩ := hLI.cls (q1.qs hLK)
  have hTm := L1.2.2.1.o
  refine V.aload_n (pc := 1429) dL_law_1429 rfl ?_
  refine V.aload_n (pc := 1430) dL_law_1430 rfl ?_
  refine V.iload_n (pc := 1431) dL_law_1431 rfl ?_
  refine V.iconst (v := 1) (pc := 1432) dL_law_1432 (by decide) ?_
  refine V.iadd (pc := 1433) dL_law_1433 ?_
  refine V.sld (k := i + 1) hXs hbs (pc := 1434) dL_law_1434 (by rw [show (1 : Int32) = nI 1 from rfl, nI_add]) (by omega) (by omega) ?_
  refine V.aload_n (pc := 1435) dL_law_1435 rfl ?_
  refine V.iload_n (pc := 1436) dL_law_1436 rfl ?_
  refine V.iconst (v := 2) (pc := 1437) dL_law_1437 (by decide) ?_
  refine V.iadd (pc := 1438) dL_law_1438 ?_
  refine V.sld (k := i + 2) hXs hbs (pc := 1439) dL_law_1439 (by rw [show (2 : Int32) = nI 2 from rfl, nI_add]) (by omega) (by omega) ?_
  refine V.invV0 (as := [_, _]) (pc := 1440) dL_law_1440 lL_170 bX12_stormed nX12_stormed (ci := 11) rfl eX12_stormed (by assumption) (p_stormed (d := d + 56) _ _ L1.2.2.1 L1.2.2.2.2.1 L1.2.2.2.1) (by omega) rfl (Nat.le_of_ble_eq_true rfl) ?_
  rintro r2 T2 n2 I2 J2 F2 q2
  obtain ⟨rfl, L2⟩ := L1.ref hA q2
  refine V.icmp_eq 1530 (pc := 1443) dL_law_1443 (by decide) (fun h1443 => ?_) (fun h1443 => absurd rfl h1443)
  refine V.room (bc := 3 * t) (bs := 420 * t + phi k) (by omega) (by omega) ?_
  exact kk _ k _ _ _ _ _ L2
theorem lc_image {g : gG} {d : Nat} {T : mT} {n : Nat} {I : mI} {J : mJ} {F : mF} {Q : mQ} {b x k i t N : Nat} {A : Ab} {xs : Nat → Int32} (hXs : va_X b N xs (gs g) (gs g).heap) (hbs : b < (gs g).heap.size) (hiN : i + 7 ≤ N) (hN : N ≤ 3584) (hLI : LI x A k T n I J F) (kk : ∀ (A' : Ab) (k' : Nat) (T' : mT) (n' : Nat) (I' : mI) (J' : mJ) (F' : mF), LI x A' k' T' n' I' J' F' → V g mL_law (d + 60) Q (3 * t) (420 * t + phi k') 1530 [some (.ref b), some (.ref x), some (.ref (x + 90)), some (.int (nI i))] [] T' n' I' J' F') : V g mL_law (d + 60) Q (3 * t + 3) (420 * t + 420 + phi k) 1448 [some (.ref b), some (.ref x), some (.ref (x + 90)), some (.int (nI i))] [] T n I J F := by
  obtain ⟨hX, hR, hM, hRM, hA, hLK, hn⟩ := id hLI
  have hTx := hX.o
  refine V.aload_n (pc := 1448) dL_law_1448 rfl ?_
  refine V.aload_n (pc := 1449) dL_law_1449 rfl ?_
  refine V.iload_n (pc := 1450) dL_law_1450 rfl ?_
  refine V.iconst (v := 1) (pc := 1451) dL_law_1451 (by decide) ?_
  refine V.iadd (pc := 1452) dL_law_1452 ?_
  refine V.sld (k := i + 1) hXs hbs (pc := 1453) dL_law_1453 (by rw [show (1 : Int32) = nI 1 from rfl, nI_add]) (by omega) (by omega) ?_
  refine V.invV0 (as := [_]) (pc := 1454) dL_law_1454 lL_171 bX11_image nX11_image (ci := 10) rfl eX11_image (by assumption) (y_image (d := d + 55) _ hX hA hR) (by omega) rfl (Nat.le_of_ble_eq_true rfl) ?_
  rintro r1 T1 n1 I1 J1 F1 q1
  obtain ⟨rfl, L1⟩ := hLI.cls (q1.qs hLK)
  have hTm := L1.2.2.1.o
  refine V.aload_n (pc := 1457) dL_law_1457 rfl ?_
  refine V.aload_n (pc := 1458) dL_law_1458 rfl ?_
  refine V.iload_n (pc := 1459) dL_law_1459 rfl ?_
  refine V.iconst (v := 1) (pc := 1460) dL_law_1460 (by decide) ?_
  refine V.iadd (pc := 1461) dL_law_1461 ?_
  refine V.sld (k := i + 1) hXs hbs (pc := 1462) dL_law_1462 (by rw [show (1 : Int32) = nI 1 from rfl, nI_add]) (by omega) (by omega) ?_
  refine V.invV0 (as := [_]) (pc := 1463) dL_law_1463 lL_174 bX12_image nX12_image (ci := 11) rfl eX12_image (by assumption) (p_image (d := d + 56) _ L1.2.2.1 L1.2.2.2.2.1 L1.2.2.2.1) (by omega) rfl (Nat.le_of_ble_eq_true rfl) ?_
  rintro r2 T2 n2 I2 J2 F2 q2
  obtain ⟨rfl, L2⟩ := L1.ref (ab_image hA) q2
  refine V.icmp_eq 1530 (pc := 1466) dL_law_1466 (by decide) (fun h1466 => ?_) (fun h1466 => absurd rfl h1466)
  refine V.room (bc := 3 * t) (bs := 420 * t + phi k) (by omega) (by omega) ?_
  exact kk _ k _ _ _ _ _ L2
theorem lc_back {g : gG} {d : Nat} {T : mT} {n : Nat} {I : mI} {J : mJ} {F : mF} {Q : mQ} {b x k i t N : Nat} {A : Ab} {xs : Nat → Int32} (hXs : va_X b N xs (gs g) (gs g).heap) (hbs : b < (gs g).heap.size) (hiN : i + 7 ≤ N) (hN : N ≤ 3584) (hLI : LI x A k T n I J F) (kk : ∀ (A' : Ab) (k' : Nat) (T' : mT) (n' : Nat) (I' : mI) (J' : mJ) (F' : mF), LI x A' k' T' n' I' J' F' → V g mL_law (d + 60) Q (3 * t) (420 * t + phi k') 1530 [some (.ref b), some (.ref x), some (.ref (x + 90)), some (.int (nI i))] [] T' n' I' J' F') : V g mL_law (d + 60) Q (3 * t + 3) (420 * t + 420 + phi k) 1471 [some (.ref b), some (.ref x), some (.ref (x + 90)), some (.int (nI i))] [] T n I J F := by
  obtain ⟨hX, hR, hM, hRM, hA, hLK, hn⟩ := id hLI
  have hTx := hX.o
  refine V.aload_n (pc := 1471) dL_law_1471 rfl ?_
  refine V.aload_n (pc := 1472) dL_law_1472 rfl ?_
  refine V.iload_n (pc := 1473) dL_law_1473 rfl ?_
  refine V.iconst (v := 1) (pc := 1474) dL_law_1474 (by decide) ?_
  refine V.iadd (pc := 1475) dL_law_1475 ?_
  refine V.sld (k := i + 1) hXs hbs (pc := 1476) dL_law_1476 (by rw [show (1 : Int32) = nI 1 from rfl, nI_add]) (by omega) (by omega) ?_
  refine V.invV0 (as := [_]) (pc := 1477) dL_law_1477 lL_175 bX11_back nX11_back (ci := 10) rfl eX11_back (by assumption) (y_back (d := d + 55) _ hX hA hR) (by omega) rfl (Nat.le_of_ble_eq_true rfl) ?_
  rintro r1 T1 n1 I1 J1 F1 q1
  obtain ⟨rfl, L1⟩ := hLI.cls (q1.qs hLK)
  have hTm := L1.2.2.1.o
  refine V.aload_n (pc := 1480) dL_law_1480 rfl ?_
  refine V.aload_n (pc := 1481) dL_law_1481 rfl ?_
  refine V.iload_n (pc := 1482) dL_law_1482 rfl ?_
  refine V.iconst (v := 1) (pc := 1483) dL_law_1483 (by decide) ?_
  refine V.iadd (pc := 1484) dL_law_1484 ?_
  refine V.sld (k := i + 1) hXs hbs (pc := 1485) dL_law_1485 (by rw [show (1 : Int32) = nI 1 from rfl, nI_add]) (by omega) (by omega) ?_
  refine V.invV0 (as := [_]) (pc := 1486) dL_law_1486 lL_178 bX12_back nX12_back (ci := 11) rfl eX12_back (by assumption) (p_back (d := d + 56) _ L1.2.2.1 L1.2.2.2.2.1 L1.2.2.2.1) (by omega) rfl (Nat.le_of_ble_eq_true rfl) ?_
  rintro r2 T2 n2 I2 J2 F2 q2
  obtain ⟨rfl, L2⟩ := L1.ref (ab_back hA) q2
  refine V.icmp_eq 1530 (pc := 1489) dL_law_1489 (by decide) (fun h1489 => ?_) (fun h1489 => absurd rfl h1489)
  refine V.room (bc := 3 * t) (bs := 420 * t + phi k) (by omega) (by omega) ?_
  exact kk _ k _ _ _ _ _ L2
theorem lc_count {g : gG} {d : Nat} {T : mT} {n : Nat} {I : mI} {J : mJ} {F : mF} {Q : mQ} {b x k i t N : Nat} {A : Ab} {xs : Nat → Int32} (hXs : va_X b N xs (gs g) (gs g).heap) (hbs : b < (gs g).heap.size) (hiN : i + 7 ≤ N) (hN : N ≤ 3584) (hLI : LI x A k T n I J F) (kk : ∀ (A' : Ab) (k' : Nat) (T' : mT) (n' : Nat) (I' : mI) (J' : mJ) (F' : mF), LI x A' k' T' n' I' J' F' → V g mL_law (d + 60) Q (3 * t) (420 * t + phi k') 1530 [some (.ref b), some (.ref x), some (.ref (x + 90)), some (.int (nI i))] [] T' n' I' J' F') : V g mL_law (d + 60) Q (3 * t + 3) (420 * t + 420 + phi k) 1494 [some (.ref b), some (.ref x), some (.ref (x + 90)), some (.int (nI i))] [] T n I J F := by
  obtain ⟨hX, hR, hM, hRM, hA, hLK, hn⟩ := id hLI
  have hTx := hX.o
  refine V.aload_n (pc := 1494) dL_law_1494 rfl ?_
  refine V.aload_n (pc := 1495) dL_law_1495 rfl ?_
  refine V.iload_n (pc := 1496) dL_law_1496 rfl ?_
  refine V.iconst (v := 1) (pc := 1497) dL_law_1497 (by decide) ?_
  refine V.iadd (pc := 1498) dL_law_1498 ?_
  refine V.sld (k := i + 1) hXs hbs (pc := 1499) dL_law_1499 (by rw [show (1 : Int32) = nI 1 from rfl, nI_add]) (by omega) (by omega) ?_
  refine V.invV0 (as := [_]) (pc := 1500) dL_law_1500 lL_179 bX11_count nX11_count (ci := 10) rfl eX11_count (by assumption) (y_count (d := d + 55) _ hX hA hR) (by omega) rfl (Nat.le_of_ble_eq_true rfl) ?_
  rintro r1 T1 n1 I1 J1 F1 q1
  obtain ⟨rfl, L1⟩ := hLI.cls (q1.qs hLK)
  have hTm := L1.2.2.1.o
  refine V.aload_n (pc := 1503) dL_law_1503 rfl ?_
  refine V.aload_n (pc := 1504) dL_law_1504 rfl ?_
  refine V.iload_n (pc := 1505) dL_law_1505 rfl ?_
  refine V.iconst (v := 1) (pc := 1506) dL_law_1506 (by decide) ?_
  refine V.iadd (pc := 1507) dL_law_1507 ?_
  refine V.sld (k := i + 1) hXs hbs (pc := 1508) dL_law_1508 (by rw [show (1 : Int32) = nI 1 from rfl, nI_add]) (by omega) (by omega) ?_
  refine V.invV0 (as := [_]) (pc := 1509) dL_law_1509 lL_182 bX12_count nX12_count (ci := 11) rfl eX12_count (by assumption) (p_count (d := d + 56) _ L1.2.2.1 L1.2.2.2.2.1 L1.2.2.2.1) (by omega) rfl (Nat.le_of_ble_eq_true rfl) ?_
  rintro r2 T2 n2 I2 J2 F2 q2
  obtain ⟨rfl, L2⟩ := L1.ref hA q2
  refine V.icmp_eq 1530 (pc := 1512) dL_law_1512 (by decide) (fun h1512 => ?_) (fun h1512 => absurd rfl h1512)
  refine V.room (bc := 3 * t) (bs := 420 * t + phi k) (by omega) (by omega) ?_
  exact kk _ k _ _ _ _ _ L2
theorem lc_status {g : gG} {d : Nat} {T : mT} {n : Nat} {I : mI} {J : mJ} {F : mF} {Q : mQ} {b x k i t N : Nat} {A : Ab} {xs : Nat → Int32} (hXs : va_X b N xs (gs g) (gs g).heap) (hbs : b < (gs g).heap.size) (hiN : i + 7 ≤ N) (hN : N ≤ 3584) (hLI : LI x A k T n I J F) (kk : ∀ (A' : Ab) (k' : Nat) (T' : mT) (n' : Nat) (I' : mI) (J' : mJ) (F' : mF), LI x A' k' T' n' I' J' F' → V g mL_law (d + 60) Q (3 * t) (420 * t + phi k') 1530 [some (.ref b), some (.ref x), some (.ref (x + 90)), some (.int (nI i))] [] T' n' I' J' F') : V g mL_law (d + 60) Q (3 * t + 3) (420 * t + 420 + phi k) 1517 [some (.ref b), some (.ref x), some (.ref (x + 90)), some (.int (nI i))] [] T n I J F := by
  obtain ⟨hX, hR, hM, hRM, hA, hLK, hn⟩ := id hLI
  have hTx := hX.o
  refine V.aload_n (pc := 1517) dL_law_1517 rfl ?_
  refine V.invV0 (as := []) (pc := 1518) dL_law_1518 lL_183 bX11_status nX11_status (ci := 10) rfl eX11_status (by assumption) (y_status (d := d + 55)  hX hA hR) (by omega) rfl (Nat.le_of_ble_eq_true rfl) ?_
  rintro r1 T1 n1 I1 J1 F1 q1
  obtain ⟨rfl, L1⟩ := hLI.cls (q1.qs hLK)
  have hTm := L1.2.2.1.o
  refine V.aload_n (pc := 1521) dL_law_1521 rfl ?_
  refine V.invV0 (as := []) (pc := 1522) dL_law_1522 lL_186 bX12_status nX12_status (ci := 11) rfl eX12_status (by assumption) (p_status (d := d + 56)  L1.2.2.1 L1.2.2.2.2.1 L1.2.2.2.1) (by omega) rfl (Nat.le_of_ble_eq_true rfl) ?_
  rintro r2 T2 n2 I2 J2 F2 q2
  obtain ⟨rfl, L2⟩ := L1.ref hA q2
  refine V.icmp_eq 1530 (pc := 1525) dL_law_1525 (by decide) (fun h1525 => ?_) (fun h1525 => absurd rfl h1525)
  refine V.room (bc := 3 * t) (bs := 420 * t + phi k) (by omega) (by omega) ?_
  exact kk _ k _ _ _ _ _ L2
