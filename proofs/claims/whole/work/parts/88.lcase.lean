theorem dL_law_1369 : decode cL_law 1369 = .ok (.aload_n 1, 1) := by decide +kernel
theorem dL_law_1370 : decode cL_law 1370 = .ok (.aload_n 0, 1) := by decide +kernel
theorem dL_law_1371 : decode cL_law 1371 = .ok (.iload 4, 2) := by decide +kernel
theorem dL_law_1373 : decode cL_law 1373 = .ok (.iconst 1, 1) := by decide +kernel
theorem dL_law_1374 : decode cL_law 1374 = .ok (.iadd, 1) := by decide +kernel
theorem dL_law_1375 : decode cL_law 1375 = .ok (.iaload, 1) := by decide +kernel
theorem dL_law_1376 : decode cL_law 1376 = .ok (.aload_n 0, 1) := by decide +kernel
theorem dL_law_1377 : decode cL_law 1377 = .ok (.iload 4, 2) := by decide +kernel
theorem dL_law_1379 : decode cL_law 1379 = .ok (.iconst 2, 1) := by decide +kernel
theorem dL_law_1380 : decode cL_law 1380 = .ok (.iadd, 1) := by decide +kernel
theorem dL_law_1381 : decode cL_law 1381 = .ok (.iaload, 1) := by decide +kernel
theorem dL_law_1382 : decode cL_law 1382 = .ok (.aload_n 0, 1) := by decide +kernel
theorem dL_law_1383 : decode cL_law 1383 = .ok (.iload 4, 2) := by decide +kernel
theorem dL_law_1385 : decode cL_law 1385 = .ok (.iconst 3, 1) := by decide +kernel
theorem dL_law_1386 : decode cL_law 1386 = .ok (.iadd, 1) := by decide +kernel
theorem dL_law_1387 : decode cL_law 1387 = .ok (.iaload, 1) := by decide +kernel
theorem dL_law_1388 : decode cL_law 1388 = .ok (.aload_n 0, 1) := by decide +kernel
theorem dL_law_1389 : decode cL_law 1389 = .ok (.iload 4, 2) := by decide +kernel
theorem dL_law_1391 : decode cL_law 1391 = .ok (.iconst 4, 1) := by decide +kernel
theorem dL_law_1392 : decode cL_law 1392 = .ok (.iadd, 1) := by decide +kernel
theorem dL_law_1393 : decode cL_law 1393 = .ok (.iaload, 1) := by decide +kernel
theorem dL_law_1394 : decode cL_law 1394 = .ok (.invokevirtual 178, 3) := by decide +kernel
theorem dL_law_1397 : decode cL_law 1397 = .ok (.aload_n 2, 1) := by decide +kernel
theorem dL_law_1398 : decode cL_law 1398 = .ok (.aload_n 0, 1) := by decide +kernel
theorem dL_law_1399 : decode cL_law 1399 = .ok (.iload 4, 2) := by decide +kernel
theorem dL_law_1401 : decode cL_law 1401 = .ok (.iconst 1, 1) := by decide +kernel
theorem dL_law_1402 : decode cL_law 1402 = .ok (.iadd, 1) := by decide +kernel
theorem dL_law_1403 : decode cL_law 1403 = .ok (.iaload, 1) := by decide +kernel
theorem dL_law_1404 : decode cL_law 1404 = .ok (.aload_n 0, 1) := by decide +kernel
theorem dL_law_1405 : decode cL_law 1405 = .ok (.iload 4, 2) := by decide +kernel
theorem dL_law_1407 : decode cL_law 1407 = .ok (.iconst 2, 1) := by decide +kernel
theorem dL_law_1408 : decode cL_law 1408 = .ok (.iadd, 1) := by decide +kernel
theorem dL_law_1409 : decode cL_law 1409 = .ok (.iaload, 1) := by decide +kernel
theorem dL_law_1410 : decode cL_law 1410 = .ok (.aload_n 0, 1) := by decide +kernel
theorem dL_law_1411 : decode cL_law 1411 = .ok (.iload 4, 2) := by decide +kernel
theorem dL_law_1413 : decode cL_law 1413 = .ok (.iconst 3, 1) := by decide +kernel
theorem dL_law_1414 : decode cL_law 1414 = .ok (.iadd, 1) := by decide +kernel
theorem dL_law_1415 : decode cL_law 1415 = .ok (.iaload, 1) := by decide +kernel
theorem dL_law_1416 : decode cL_law 1416 = .ok (.aload_n 0, 1) := by decide +kernel
theorem dL_law_1417 : decode cL_law 1417 = .ok (.iload 4, 2) := by decide +kernel
theorem dL_law_1419 : decode cL_law 1419 = .ok (.iconst 4, 1) := by decide +kernel
theorem dL_law_1420 : decode cL_law 1420 = .ok (.iadd, 1) := by decide +kernel
theorem dL_law_1421 : decode cL_law 1421 = .ok (.iaload, 1) := by decide +kernel
theorem dL_law_1422 : decode cL_law 1422 = .ok (.invokevirtual 182, 3) := by decide +kernel
theorem dL_law_1425 : decode cL_law 1425 = .ok (.if_icmp .eq 293, 3) := by decide +kernel
theorem dL_law_1428 : decode cL_law 1428 = .ok (.iconst 0, 1) := by decide +kernel
theorem dL_law_1429 : decode cL_law 1429 = .ok (.ireturn, 1) := by decide +kernel
set_option maxHeartbeats 4000000 in
set_option maxRecDepth 100000 in
theorem ls_38 {p : Program} {l : Launch} {e : Env} {s : State} {m : MethodId} {below : List Frame} {meth : Method} {c : Code} {b L : Nat} {xs : Nat → Int32} {E : EE} {cL : ClassId} {ad qa qe : Nat → Nat} {sh rg : Nat → Option Nat} {rwf : Nat → Nat} {σ : Nat → Nat} (hC : LC p l s m meth c b L xs E cL rg rwf) {i : Nat} (hi6 : i + 6 ≤ L) (hv : (xs (i + 1) = nI (σ 0) ∧ σ 0 < 8) ∨ wiB (xs (i + 1)) 0 7 = false) (hs0 : sh (σ 0) = some (qa 0)) (hinj : ∀ j, 0 < j → j < 8 → σ j ≠ σ 0 ∧ σ j < 8) {cells slots : Nat} (hcs : cells + 1 ≤ 601024 ∧ slots + 6 ≤ 7293034) (kk : Nx p l e s m below meth c b E cL ad qa qe sh rg rwf σ (nI i) (cells + 1) (slots + 6) 1718) : Nx p l e s m below meth c b E cL ad qa qe sh rg rwf σ (nI i) cells slots 1369 := by
  intro h k f r m y mv st P ne dy mh mk mf mr mm ms mo mt mp mn md gh gk gf gr gm gs go gt gp gn gd img rp Y V el ho ki fi so si S M I B hi pl ra re nu mx sd K KK KF SO SI EL th og hI H locs ls hP hD hS hl
  obtain ⟨C0, hL, hG, hKL, hTX, hrg⟩ := id hC
  obtain ⟨hx, hb, hr, hml, hown, hts, hX, hbl, hlocks, hgv⟩ := id C0
  have hF := lw_fix C0
  obtain ⟨hSt, hq, hhi, him, hk9⟩ := id hI
  have hA : ∀ q : Nat, s.heap.size ≤ q → (fun q : Nat => s.heap.size ≤ q) q := fun _ h => h
  have hc0 : cells + 0 ≤ room_1.cells ∧ slots + 0 ≤ room_1.slots := ⟨Nat.le_of_succ_le hcs.1, by have := hcs.2; show slots + 0 ≤ 7293034; omega⟩
  have hsp := shp_of hv hq
  have hsh1 := hsh_of hv hs0
  obtain ⟨res, a1, a2, a3, K1, KK1, KF1, e1, e2, hq1⟩ := agS_keep (xs (i + 1)) (xs (i + 2)) (xs (i + 3)) (xs (i + 4)) hv hq hinj
  refine lv_aload_n hx hb dL_law_1369 rfl (lv_at hl 2 rfl) ?_
  refine lw_ld hC hi6 (j := 1) (by decide) hS hl dL_law_1370 dL_law_1371 dL_law_1373 dL_law_1374 dL_law_1375 ?_
  refine lw_ld hC hi6 (j := 2) (by decide) hS hl dL_law_1376 dL_law_1377 dL_law_1379 dL_law_1380 dL_law_1381 ?_
  refine lw_ld hC hi6 (j := 3) (by decide) hS hl dL_law_1382 dL_law_1383 dL_law_1385 dL_law_1386 dL_law_1387 ?_
  refine lw_ld hC hi6 (j := 4) (by decide) hS hl dL_law_1388 dL_law_1389 dL_law_1391 dL_law_1392 dL_law_1393 ?_
  refine wrVj [0, 32, 33, 34] [1, 2, 3, 4, 5, 6, 7, 8, 9, 10, 11, 12, 13, 14, 15, 16, 17, 18, 19, 20, 21, 22, 23, 24, 25, 26, 27, 28, 29, 30, 31, 35, 36, 37, 38, 39, 40, 41, 42, 43, 44, 45, 46, 47, 48, 49, 50, 51, 52, 53, 54, 55, 56, 57, 58, 59, 60, 61, 62] 3 0 (As := [.int (xs (i + 1)), .int (xs (i + 2)), .int (xs (i + 3)), .int (xs (i + 4))]) (rest := []) (st1 := [.int res]) hF q_X9_keep kw_3_196 (c_X9_keep l E (ad 0) (ad 1) (ad 8) (ad 15) (ad 22) (ad 32) (qa 0) (qe 0) img sh (el 0) (ho 0) (ki 0) (fi 0) (so 0) (si 0) (xs (i + 1)) (xs (i + 2)) (xs (i + 3)) (xs (i + 4)) res a1 a2 a3 hsh1 e1) ⟨rfl, rfl⟩ ⟨Nat.le_of_ble_eq_true rfl, Nat.le_of_ble_eq_true rfl⟩ hc0 hP hD hS hA rfl rfl rfl hG jnkeep rfl hl.1 rfl (Nat.le_of_ble_eq_true rfl) dL_law_1394 rfl (fun H locs hP hD hS => ?_)
  refine lv_aload_n hx hb dL_law_1397 rfl (lv_at hl 3 rfl) ?_
  refine lw_ld hC hi6 (j := 1) (by decide) hS hl dL_law_1398 dL_law_1399 dL_law_1401 dL_law_1402 dL_law_1403 ?_
  refine lw_ld hC hi6 (j := 2) (by decide) hS hl dL_law_1404 dL_law_1405 dL_law_1407 dL_law_1408 dL_law_1409 ?_
  refine lw_ld hC hi6 (j := 3) (by decide) hS hl dL_law_1410 dL_law_1411 dL_law_1413 dL_law_1414 dL_law_1415 ?_
  refine lw_ld hC hi6 (j := 4) (by decide) hS hl dL_law_1416 dL_law_1417 dL_law_1419 dL_law_1420 dL_law_1421 ?_
  refine wrVj [49, 50, 51, 52, 53, 54, 55, 56, 57, 58, 59, 60, 61] [0, 1, 2, 3, 4, 5, 6, 7, 8, 9, 10, 11, 12, 13, 14, 15, 16, 17, 18, 19, 20, 21, 22, 23, 24, 25, 26, 27, 28, 29, 30, 31, 32, 33, 34, 35, 36, 37, 38, 39, 40, 41, 42, 43, 44, 45, 46, 47, 48, 62] 4 0 (As := [.int (xs (i + 1)), .int (xs (i + 2)), .int (xs (i + 3)), .int (xs (i + 4))]) (rest := [.int res]) (st1 := [.int res, .int res]) hF q_X10_keep kw_6_68 (c_X10_keep l E (ad 49) (ad 50) (ad 51) (ad 52) (ad 53) (ad 54) (ad 55) (ad 56) (ad 57) (ad 58) (ad 59) (ad 60) (ad 61) S M I B hi pl ra re nu mx sd K KK KF SO SI EL th (xs (i + 1)) (xs (i + 2)) (xs (i + 3)) (xs (i + 4)) res K1 KK1 KF1 e2) ⟨rfl, rfl⟩ ⟨Nat.le_of_ble_eq_true rfl, Nat.le_of_ble_eq_true rfl⟩ hc0 hP hD hS hA rfl rfl rfl hG jnMo rfl hl.1 rfl (Nat.le_of_ble_eq_true rfl) dL_law_1422 rfl (fun H locs hP hD hS => ?_)
  refine lv_icmp_eq (tgt := 1718) hx hb dL_law_1425 (by decide) (fun _ => ?_) (fun h => absurd rfl h)
  exact w_widen (Nat.le_succ _) (Nat.le_add_right _ 6) (kk h k f r m y mv st P ne dy mh mk mf mr mm ms mo mt mp mn md gh gk gf gr gm gs go gt gp gn gd img rp Y V el (sU ho 0 a1) (sU ki 0 a2) (sU fi 0 a3) so si S M I B hi pl ra re nu mx sd K1 KK1 KF1 SO SI EL th og ⟨hSt, hq1, hI.2.2⟩ H locs ls hP hD hS hl)
theorem dL_law_1430 : decode cL_law 1430 = .ok (.aload_n 1, 1) := by decide +kernel
theorem dL_law_1431 : decode cL_law 1431 = .ok (.aload_n 0, 1) := by decide +kernel
theorem dL_law_1432 : decode cL_law 1432 = .ok (.iload 4, 2) := by decide +kernel
theorem dL_law_1434 : decode cL_law 1434 = .ok (.iconst 1, 1) := by decide +kernel
theorem dL_law_1435 : decode cL_law 1435 = .ok (.iadd, 1) := by decide +kernel
theorem dL_law_1436 : decode cL_law 1436 = .ok (.iaload, 1) := by decide +kernel
theorem dL_law_1437 : decode cL_law 1437 = .ok (.aload_n 0, 1) := by decide +kernel
theorem dL_law_1438 : decode cL_law 1438 = .ok (.iload 4, 2) := by decide +kernel
theorem dL_law_1440 : decode cL_law 1440 = .ok (.iconst 2, 1) := by decide +kernel
theorem dL_law_1441 : decode cL_law 1441 = .ok (.iadd, 1) := by decide +kernel
theorem dL_law_1442 : decode cL_law 1442 = .ok (.iaload, 1) := by decide +kernel
theorem dL_law_1443 : decode cL_law 1443 = .ok (.aload_n 0, 1) := by decide +kernel
theorem dL_law_1444 : decode cL_law 1444 = .ok (.iload 4, 2) := by decide +kernel
theorem dL_law_1446 : decode cL_law 1446 = .ok (.iconst 3, 1) := by decide +kernel
theorem dL_law_1447 : decode cL_law 1447 = .ok (.iadd, 1) := by decide +kernel
theorem dL_law_1448 : decode cL_law 1448 = .ok (.iaload, 1) := by decide +kernel
theorem dL_law_1449 : decode cL_law 1449 = .ok (.invokevirtual 183, 3) := by decide +kernel
theorem dL_law_1452 : decode cL_law 1452 = .ok (.aload_n 2, 1) := by decide +kernel
theorem dL_law_1453 : decode cL_law 1453 = .ok (.aload_n 0, 1) := by decide +kernel
theorem dL_law_1454 : decode cL_law 1454 = .ok (.iload 4, 2) := by decide +kernel
theorem dL_law_1456 : decode cL_law 1456 = .ok (.iconst 1, 1) := by decide +kernel
theorem dL_law_1457 : decode cL_law 1457 = .ok (.iadd, 1) := by decide +kernel
theorem dL_law_1458 : decode cL_law 1458 = .ok (.iaload, 1) := by decide +kernel
theorem dL_law_1459 : decode cL_law 1459 = .ok (.aload_n 0, 1) := by decide +kernel
theorem dL_law_1460 : decode cL_law 1460 = .ok (.iload 4, 2) := by decide +kernel
theorem dL_law_1462 : decode cL_law 1462 = .ok (.iconst 2, 1) := by decide +kernel
theorem dL_law_1463 : decode cL_law 1463 = .ok (.iadd, 1) := by decide +kernel
theorem dL_law_1464 : decode cL_law 1464 = .ok (.iaload, 1) := by decide +kernel
theorem dL_law_1465 : decode cL_law 1465 = .ok (.aload_n 0, 1) := by decide +kernel
theorem dL_law_1466 : decode cL_law 1466 = .ok (.iload 4, 2) := by decide +kernel
theorem dL_law_1468 : decode cL_law 1468 = .ok (.iconst 3, 1) := by decide +kernel
theorem dL_law_1469 : decode cL_law 1469 = .ok (.iadd, 1) := by decide +kernel
theorem dL_law_1470 : decode cL_law 1470 = .ok (.iaload, 1) := by decide +kernel
theorem dL_law_1471 : decode cL_law 1471 = .ok (.invokevirtual 186, 3) := by decide +kernel
theorem dL_law_1474 : decode cL_law 1474 = .ok (.if_icmp .eq 244, 3) := by decide +kernel
theorem dL_law_1477 : decode cL_law 1477 = .ok (.iconst 0, 1) := by decide +kernel
theorem dL_law_1478 : decode cL_law 1478 = .ok (.ireturn, 1) := by decide +kernel
set_option maxHeartbeats 4000000 in
set_option maxRecDepth 100000 in
theorem ls_39 {p : Program} {l : Launch} {e : Env} {s : State} {m : MethodId} {below : List Frame} {meth : Method} {c : Code} {b L : Nat} {xs : Nat → Int32} {E : EE} {cL : ClassId} {ad qa qe : Nat → Nat} {sh rg : Nat → Option Nat} {rwf : Nat → Nat} {σ : Nat → Nat} (hC : LC p l s m meth c b L xs E cL rg rwf) {i : Nat} (hi6 : i + 6 ≤ L) (hv : (xs (i + 1) = nI (σ 0) ∧ σ 0 < 8) ∨ wiB (xs (i + 1)) 0 7 = false) (hs0 : sh (σ 0) = some (qa 0)) (hinj : ∀ j, 0 < j → j < 8 → σ j ≠ σ 0 ∧ σ j < 8) {cells slots : Nat} (hcs : cells + 1 ≤ 601024 ∧ slots + 6 ≤ 7293034) (kk : Nx p l e s m below meth c b E cL ad qa qe sh rg rwf σ (nI i) (cells + 1) (slots + 6) 1718) : Nx p l e s m below meth c b E cL ad qa qe sh rg rwf σ (nI i) cells slots 1430 := by
  intro h k f r m y mv st P ne dy mh mk mf mr mm ms mo mt mp mn md gh gk gf gr gm gs go gt gp gn gd img rp Y V el ho ki fi so si S M I B hi pl ra re nu mx sd K KK KF SO SI EL th og hI H locs ls hP hD hS hl
  obtain ⟨C0, hL, hG, hKL, hTX, hrg⟩ := id hC
  obtain ⟨hx, hb, hr, hml, hown, hts, hX, hbl, hlocks, hgv⟩ := id C0
  have hF := lw_fix C0
  obtain ⟨hSt, hq, hhi, him, hk9⟩ := id hI
  have hA : ∀ q : Nat, s.heap.size ≤ q → (fun q : Nat => s.heap.size ≤ q) q := fun _ h => h
  have hc0 : cells + 0 ≤ room_1.cells ∧ slots + 0 ≤ room_1.slots := ⟨Nat.le_of_succ_le hcs.1, by have := hcs.2; show slots + 0 ≤ 7293034; omega⟩
  have hsp := shp_of hv hq
  have hsh1 := hsh_of hv hs0
  obtain ⟨res, a1, a2, a3, a4, K1, SO1, SI1, EL1, e1, e2, hq1⟩ := agS_row (xs (i + 1)) (xs (i + 2)) (xs (i + 3)) hv hq hinj (N := 2000) (by decide)
  refine lv_aload_n hx hb dL_law_1430 rfl (lv_at hl 2 rfl) ?_
  refine lw_ld hC hi6 (j := 1) (by decide) hS hl dL_law_1431 dL_law_1432 dL_law_1434 dL_law_1435 dL_law_1436 ?_
  refine lw_ld hC hi6 (j := 2) (by decide) hS hl dL_law_1437 dL_law_1438 dL_law_1440 dL_law_1441 dL_law_1442 ?_
  refine lw_ld hC hi6 (j := 3) (by decide) hS hl dL_law_1443 dL_law_1444 dL_law_1446 dL_law_1447 dL_law_1448 ?_
  refine wrVj [0, 32, 33, 34] [1, 2, 3, 4, 5, 6, 7, 8, 9, 10, 11, 12, 13, 14, 15, 16, 17, 18, 19, 20, 21, 22, 23, 24, 25, 26, 27, 28, 29, 30, 31, 35, 36, 37, 38, 39, 40, 41, 42, 43, 44, 45, 46, 47, 48, 49, 50, 51, 52, 53, 54, 55, 56, 57, 58, 59, 60, 61, 62] 3 0 (As := [.int (xs (i + 1)), .int (xs (i + 2)), .int (xs (i + 3))]) (rest := []) (st1 := [.int res]) hF q_X9_row kw_3_204 (c_X9_row l E (ad 0) (ad 1) (ad 8) (ad 15) (ad 22) (ad 32) (qa 0) (qe 0) img sh (el 0) (ho 0) (ki 0) (fi 0) (so 0) (si 0) (xs (i + 1)) (xs (i + 2)) (xs (i + 3)) 2000 res a1 a2 a3 a4 hsh1 e1) ⟨rfl, rfl⟩ ⟨Nat.le_of_ble_eq_true rfl, Nat.le_of_ble_eq_true rfl⟩ hc0 hP hD hS hA rfl rfl rfl hG jnrow rfl hl.1 rfl (Nat.le_of_ble_eq_true rfl) dL_law_1449 rfl (fun H locs hP hD hS => ?_)
  refine lv_aload_n hx hb dL_law_1452 rfl (lv_at hl 3 rfl) ?_
  refine lw_ld hC hi6 (j := 1) (by decide) hS hl dL_law_1453 dL_law_1454 dL_law_1456 dL_law_1457 dL_law_1458 ?_
  refine lw_ld hC hi6 (j := 2) (by decide) hS hl dL_law_1459 dL_law_1460 dL_law_1462 dL_law_1463 dL_law_1464 ?_
  refine lw_ld hC hi6 (j := 3) (by decide) hS hl dL_law_1465 dL_law_1466 dL_law_1468 dL_law_1469 dL_law_1470 ?_
  refine wrVj [49, 50, 51, 52, 53, 54, 55, 56, 57, 58, 59, 60, 61] [0, 1, 2, 3, 4, 5, 6, 7, 8, 9, 10, 11, 12, 13, 14, 15, 16, 17, 18, 19, 20, 21, 22, 23, 24, 25, 26, 27, 28, 29, 30, 31, 32, 33, 34, 35, 36, 37, 38, 39, 40, 41, 42, 43, 44, 45, 46, 47, 48, 62] 4 0 (As := [.int (xs (i + 1)), .int (xs (i + 2)), .int (xs (i + 3))]) (rest := [.int res]) (st1 := [.int res, .int res]) hF q_X10_row kw_6_72 (c_X10_row l E (ad 49) (ad 50) (ad 51) (ad 52) (ad 53) (ad 54) (ad 55) (ad 56) (ad 57) (ad 58) (ad 59) (ad 60) (ad 61) S M I B hi pl ra re nu mx sd K KK KF SO SI EL th (xs (i + 1)) (xs (i + 2)) (xs (i + 3)) 2000 res K1 SO1 SI1 EL1 e2) ⟨rfl, rfl⟩ ⟨Nat.le_of_ble_eq_true rfl, Nat.le_of_ble_eq_true rfl⟩ hc0 hP hD hS hA rfl rfl rfl hG jnMo rfl hl.1 rfl (Nat.le_of_ble_eq_true rfl) dL_law_1471 rfl (fun H locs hP hD hS => ?_)
  refine lv_icmp_eq (tgt := 1718) hx hb dL_law_1474 (by decide) (fun _ => ?_) (fun h => absurd rfl h)
  exact w_widen (Nat.le_succ _) (Nat.le_add_right _ 6) (kk h k f r m y mv st P ne dy mh mk mf mr mm ms mo mt mp mn md gh gk gf gr gm gs go gt gp gn gd img rp Y V (sU el 0 a4) (sU ho 0 a1) ki fi (sU so 0 a2) (sU si 0 a3) S M I B hi pl ra re nu mx sd K1 KK KF SO1 SI1 EL1 th og ⟨hSt, hq1, hI.2.2⟩ H locs ls hP hD hS hl)
theorem dL_law_1479 : decode cL_law 1479 = .ok (.aload_n 1, 1) := by decide +kernel
theorem dL_law_1480 : decode cL_law 1480 = .ok (.aload_n 0, 1) := by decide +kernel
theorem dL_law_1481 : decode cL_law 1481 = .ok (.iload 4, 2) := by decide +kernel
theorem dL_law_1483 : decode cL_law 1483 = .ok (.iconst 1, 1) := by decide +kernel
theorem dL_law_1484 : decode cL_law 1484 = .ok (.iadd, 1) := by decide +kernel
theorem dL_law_1485 : decode cL_law 1485 = .ok (.iaload, 1) := by decide +kernel
theorem dL_law_1486 : decode cL_law 1486 = .ok (.aload_n 0, 1) := by decide +kernel
theorem dL_law_1487 : decode cL_law 1487 = .ok (.iload 4, 2) := by decide +kernel
theorem dL_law_1489 : decode cL_law 1489 = .ok (.iconst 2, 1) := by decide +kernel
theorem dL_law_1490 : decode cL_law 1490 = .ok (.iadd, 1) := by decide +kernel
theorem dL_law_1491 : decode cL_law 1491 = .ok (.iaload, 1) := by decide +kernel
theorem dL_law_1492 : decode cL_law 1492 = .ok (.aload_n 0, 1) := by decide +kernel
theorem dL_law_1493 : decode cL_law 1493 = .ok (.iload 4, 2) := by decide +kernel
theorem dL_law_1495 : decode cL_law 1495 = .ok (.iconst 3, 1) := by decide +kernel
theorem dL_law_1496 : decode cL_law 1496 = .ok (.iadd, 1) := by decide +kernel
theorem dL_law_1497 : decode cL_law 1497 = .ok (.iaload, 1) := by decide +kernel
theorem dL_law_1498 : decode cL_law 1498 = .ok (.invokevirtual 187, 3) := by decide +kernel
theorem dL_law_1501 : decode cL_law 1501 = .ok (.aload_n 2, 1) := by decide +kernel
theorem dL_law_1502 : decode cL_law 1502 = .ok (.aload_n 0, 1) := by decide +kernel
theorem dL_law_1503 : decode cL_law 1503 = .ok (.iload 4, 2) := by decide +kernel
theorem dL_law_1505 : decode cL_law 1505 = .ok (.iconst 1, 1) := by decide +kernel
theorem dL_law_1506 : decode cL_law 1506 = .ok (.iadd, 1) := by decide +kernel
theorem dL_law_1507 : decode cL_law 1507 = .ok (.iaload, 1) := by decide +kernel
theorem dL_law_1508 : decode cL_law 1508 = .ok (.aload_n 0, 1) := by decide +kernel
theorem dL_law_1509 : decode cL_law 1509 = .ok (.iload 4, 2) := by decide +kernel
theorem dL_law_1511 : decode cL_law 1511 = .ok (.iconst 2, 1) := by decide +kernel
theorem dL_law_1512 : decode cL_law 1512 = .ok (.iadd, 1) := by decide +kernel
theorem dL_law_1513 : decode cL_law 1513 = .ok (.iaload, 1) := by decide +kernel
theorem dL_law_1514 : decode cL_law 1514 = .ok (.aload_n 0, 1) := by decide +kernel
theorem dL_law_1515 : decode cL_law 1515 = .ok (.iload 4, 2) := by decide +kernel
theorem dL_law_1517 : decode cL_law 1517 = .ok (.iconst 3, 1) := by decide +kernel
theorem dL_law_1518 : decode cL_law 1518 = .ok (.iadd, 1) := by decide +kernel
theorem dL_law_1519 : decode cL_law 1519 = .ok (.iaload, 1) := by decide +kernel
theorem dL_law_1520 : decode cL_law 1520 = .ok (.invokevirtual 190, 3) := by decide +kernel
theorem dL_law_1523 : decode cL_law 1523 = .ok (.if_icmp .eq 195, 3) := by decide +kernel
theorem dL_law_1526 : decode cL_law 1526 = .ok (.iconst 0, 1) := by decide +kernel
theorem dL_law_1527 : decode cL_law 1527 = .ok (.ireturn, 1) := by decide +kernel
set_option maxHeartbeats 4000000 in
set_option maxRecDepth 100000 in
theorem ls_40 {p : Program} {l : Launch} {e : Env} {s : State} {m : MethodId} {below : List Frame} {meth : Method} {c : Code} {b L : Nat} {xs : Nat → Int32} {E : EE} {cL : ClassId} {ad qa qe : Nat → Nat} {sh rg : Nat → Option Nat} {rwf : Nat → Nat} {σ : Nat → Nat} (hC : LC p l s m meth c b L xs E cL rg rwf) {i : Nat} (hi6 : i + 6 ≤ L) (hv : (xs (i + 1) = nI (σ 0) ∧ σ 0 < 8) ∨ wiB (xs (i + 1)) 0 7 = false) (hs0 : sh (σ 0) = some (qa 0)) (hinj : ∀ j, 0 < j → j < 8 → σ j ≠ σ 0 ∧ σ j < 8) {cells slots : Nat} (hcs : cells + 1 ≤ 601024 ∧ slots + 6 ≤ 7293034) (kk : Nx p l e s m below meth c b E cL ad qa qe sh rg rwf σ (nI i) (cells + 1) (slots + 6) 1718) : Nx p l e s m below meth c b E cL ad qa qe sh rg rwf σ (nI i) cells slots 1479 := by
  intro h k f r m y mv st P ne dy mh mk mf mr mm ms mo mt mp mn md gh gk gf gr gm gs go gt gp gn gd img rp Y V el ho ki fi so si S M I B hi pl ra re nu mx sd K KK KF SO SI EL th og hI H locs ls hP hD hS hl
  obtain ⟨C0, hL, hG, hKL, hTX, hrg⟩ := id hC
  obtain ⟨hx, hb, hr, hml, hown, hts, hX, hbl, hlocks, hgv⟩ := id C0
  have hF := lw_fix C0
  obtain ⟨hSt, hq, hhi, him, hk9⟩ := id hI
  have hA : ∀ q : Nat, s.heap.size ≤ q → (fun q : Nat => s.heap.size ≤ q) q := fun _ h => h
  have hc0 : cells + 0 ≤ room_1.cells ∧ slots + 0 ≤ room_1.slots := ⟨Nat.le_of_succ_le hcs.1, by have := hcs.2; show slots + 0 ≤ 7293034; omega⟩
  have hsp := shp_of hv hq
  have hsh1 := hsh_of hv hs0
  obtain ⟨res, a1, EL1, e1, e2, hq1⟩ := agS_put (xs (i + 1)) (xs (i + 2)) (xs (i + 3)) hv hq hinj
  refine lv_aload_n hx hb dL_law_1479 rfl (lv_at hl 2 rfl) ?_
  refine lw_ld hC hi6 (j := 1) (by decide) hS hl dL_law_1480 dL_law_1481 dL_law_1483 dL_law_1484 dL_law_1485 ?_
  refine lw_ld hC hi6 (j := 2) (by decide) hS hl dL_law_1486 dL_law_1487 dL_law_1489 dL_law_1490 dL_law_1491 ?_
  refine lw_ld hC hi6 (j := 3) (by decide) hS hl dL_law_1492 dL_law_1493 dL_law_1495 dL_law_1496 dL_law_1497 ?_
  refine wrVj [0, 32, 33, 34] [1, 2, 3, 4, 5, 6, 7, 8, 9, 10, 11, 12, 13, 14, 15, 16, 17, 18, 19, 20, 21, 22, 23, 24, 25, 26, 27, 28, 29, 30, 31, 35, 36, 37, 38, 39, 40, 41, 42, 43, 44, 45, 46, 47, 48, 49, 50, 51, 52, 53, 54, 55, 56, 57, 58, 59, 60, 61, 62] 3 0 (As := [.int (xs (i + 1)), .int (xs (i + 2)), .int (xs (i + 3))]) (rest := []) (st1 := [.int res]) hF q_X9_put kw_3_212 (c_X9_put l E (ad 0) (ad 1) (ad 8) (ad 15) (ad 22) (ad 32) (qa 0) (qe 0) img sh (el 0) (ho 0) (ki 0) (fi 0) (so 0) (si 0) (xs (i + 1)) (xs (i + 2)) (xs (i + 3)) res a1 hsh1 e1) ⟨rfl, rfl⟩ ⟨Nat.le_of_ble_eq_true rfl, Nat.le_of_ble_eq_true rfl⟩ hc0 hP hD hS hA rfl rfl rfl hG jnput rfl hl.1 rfl (Nat.le_of_ble_eq_true rfl) dL_law_1498 rfl (fun H locs hP hD hS => ?_)
  refine lv_aload_n hx hb dL_law_1501 rfl (lv_at hl 3 rfl) ?_
  refine lw_ld hC hi6 (j := 1) (by decide) hS hl dL_law_1502 dL_law_1503 dL_law_1505 dL_law_1506 dL_law_1507 ?_
  refine lw_ld hC hi6 (j := 2) (by decide) hS hl dL_law_1508 dL_law_1509 dL_law_1511 dL_law_1512 dL_law_1513 ?_
  refine lw_ld hC hi6 (j := 3) (by decide) hS hl dL_law_1514 dL_law_1515 dL_law_1517 dL_law_1518 dL_law_1519 ?_
  refine wrVj [49, 50, 51, 52, 53, 54, 55, 56, 57, 58, 59, 60, 61] [0, 1, 2, 3, 4, 5, 6, 7, 8, 9, 10, 11, 12, 13, 14, 15, 16, 17, 18, 19, 20, 21, 22, 23, 24, 25, 26, 27, 28, 29, 30, 31, 32, 33, 34, 35, 36, 37, 38, 39, 40, 41, 42, 43, 44, 45, 46, 47, 48, 62] 4 0 (As := [.int (xs (i + 1)), .int (xs (i + 2)), .int (xs (i + 3))]) (rest := [.int res]) (st1 := [.int res, .int res]) hF q_X10_put kw_6_76 (c_X10_put l E (ad 49) (ad 50) (ad 51) (ad 52) (ad 53) (ad 54) (ad 55) (ad 56) (ad 57) (ad 58) (ad 59) (ad 60) (ad 61) S M I B hi pl ra re nu mx sd K KK KF SO SI EL th (xs (i + 1)) (xs (i + 2)) (xs (i + 3)) res EL1 e2) ⟨rfl, rfl⟩ ⟨Nat.le_of_ble_eq_true rfl, Nat.le_of_ble_eq_true rfl⟩ hc0 hP hD hS hA rfl rfl rfl hG jnMo rfl hl.1 rfl (Nat.le_of_ble_eq_true rfl) dL_law_1520 rfl (fun H locs hP hD hS => ?_)
  refine lv_icmp_eq (tgt := 1718) hx hb dL_law_1523 (by decide) (fun _ => ?_) (fun h => absurd rfl h)
  exact w_widen (Nat.le_succ _) (Nat.le_add_right _ 6) (kk h k f r m y mv st P ne dy mh mk mf mr mm ms mo mt mp mn md gh gk gf gr gm gs go gt gp gn gd img rp Y V (sU el 0 a1) ho ki fi so si S M I B hi pl ra re nu mx sd K KK KF SO SI EL1 th og ⟨hSt, hq1, hI.2.2⟩ H locs ls hP hD hS hl)
theorem dL_law_1595 : decode cL_law 1595 = .ok (.aload_n 1, 1) := by decide +kernel
theorem dL_law_1596 : decode cL_law 1596 = .ok (.aload_n 0, 1) := by decide +kernel
theorem dL_law_1597 : decode cL_law 1597 = .ok (.iload 4, 2) := by decide +kernel
theorem dL_law_1599 : decode cL_law 1599 = .ok (.iconst 1, 1) := by decide +kernel
theorem dL_law_1600 : decode cL_law 1600 = .ok (.iadd, 1) := by decide +kernel
theorem dL_law_1601 : decode cL_law 1601 = .ok (.iaload, 1) := by decide +kernel
theorem dL_law_1602 : decode cL_law 1602 = .ok (.aload_n 0, 1) := by decide +kernel
theorem dL_law_1603 : decode cL_law 1603 = .ok (.iload 4, 2) := by decide +kernel
theorem dL_law_1605 : decode cL_law 1605 = .ok (.iconst 2, 1) := by decide +kernel
theorem dL_law_1606 : decode cL_law 1606 = .ok (.iadd, 1) := by decide +kernel
theorem dL_law_1607 : decode cL_law 1607 = .ok (.iaload, 1) := by decide +kernel
theorem dL_law_1608 : decode cL_law 1608 = .ok (.aload_n 0, 1) := by decide +kernel
theorem dL_law_1609 : decode cL_law 1609 = .ok (.iload 4, 2) := by decide +kernel
theorem dL_law_1611 : decode cL_law 1611 = .ok (.iconst 3, 1) := by decide +kernel
theorem dL_law_1612 : decode cL_law 1612 = .ok (.iadd, 1) := by decide +kernel
theorem dL_law_1613 : decode cL_law 1613 = .ok (.iaload, 1) := by decide +kernel
theorem dL_law_1614 : decode cL_law 1614 = .ok (.aload_n 0, 1) := by decide +kernel
theorem dL_law_1615 : decode cL_law 1615 = .ok (.iload 4, 2) := by decide +kernel
theorem dL_law_1617 : decode cL_law 1617 = .ok (.iconst 4, 1) := by decide +kernel
theorem dL_law_1618 : decode cL_law 1618 = .ok (.iadd, 1) := by decide +kernel
theorem dL_law_1619 : decode cL_law 1619 = .ok (.iaload, 1) := by decide +kernel
theorem dL_law_1620 : decode cL_law 1620 = .ok (.aload_n 0, 1) := by decide +kernel
theorem dL_law_1621 : decode cL_law 1621 = .ok (.iload 4, 2) := by decide +kernel
theorem dL_law_1623 : decode cL_law 1623 = .ok (.iconst 5, 1) := by decide +kernel
theorem dL_law_1624 : decode cL_law 1624 = .ok (.iadd, 1) := by decide +kernel
theorem dL_law_1625 : decode cL_law 1625 = .ok (.iaload, 1) := by decide +kernel
theorem dL_law_1626 : decode cL_law 1626 = .ok (.invokevirtual 200, 3) := by decide +kernel
theorem dL_law_1629 : decode cL_law 1629 = .ok (.aload_n 2, 1) := by decide +kernel
theorem dL_law_1630 : decode cL_law 1630 = .ok (.aload_n 0, 1) := by decide +kernel
theorem dL_law_1631 : decode cL_law 1631 = .ok (.iload 4, 2) := by decide +kernel
theorem dL_law_1633 : decode cL_law 1633 = .ok (.iconst 1, 1) := by decide +kernel
theorem dL_law_1634 : decode cL_law 1634 = .ok (.iadd, 1) := by decide +kernel
theorem dL_law_1635 : decode cL_law 1635 = .ok (.iaload, 1) := by decide +kernel
theorem dL_law_1636 : decode cL_law 1636 = .ok (.aload_n 0, 1) := by decide +kernel
theorem dL_law_1637 : decode cL_law 1637 = .ok (.iload 4, 2) := by decide +kernel
theorem dL_law_1639 : decode cL_law 1639 = .ok (.iconst 2, 1) := by decide +kernel
theorem dL_law_1640 : decode cL_law 1640 = .ok (.iadd, 1) := by decide +kernel
theorem dL_law_1641 : decode cL_law 1641 = .ok (.iaload, 1) := by decide +kernel
theorem dL_law_1642 : decode cL_law 1642 = .ok (.aload_n 0, 1) := by decide +kernel
theorem dL_law_1643 : decode cL_law 1643 = .ok (.iload 4, 2) := by decide +kernel
theorem dL_law_1645 : decode cL_law 1645 = .ok (.iconst 3, 1) := by decide +kernel
theorem dL_law_1646 : decode cL_law 1646 = .ok (.iadd, 1) := by decide +kernel
theorem dL_law_1647 : decode cL_law 1647 = .ok (.iaload, 1) := by decide +kernel
theorem dL_law_1648 : decode cL_law 1648 = .ok (.aload_n 0, 1) := by decide +kernel
theorem dL_law_1649 : decode cL_law 1649 = .ok (.iload 4, 2) := by decide +kernel
theorem dL_law_1651 : decode cL_law 1651 = .ok (.iconst 4, 1) := by decide +kernel
theorem dL_law_1652 : decode cL_law 1652 = .ok (.iadd, 1) := by decide +kernel
theorem dL_law_1653 : decode cL_law 1653 = .ok (.iaload, 1) := by decide +kernel
theorem dL_law_1654 : decode cL_law 1654 = .ok (.aload_n 0, 1) := by decide +kernel
theorem dL_law_1655 : decode cL_law 1655 = .ok (.iload 4, 2) := by decide +kernel
theorem dL_law_1657 : decode cL_law 1657 = .ok (.iconst 5, 1) := by decide +kernel
theorem dL_law_1658 : decode cL_law 1658 = .ok (.iadd, 1) := by decide +kernel
theorem dL_law_1659 : decode cL_law 1659 = .ok (.iaload, 1) := by decide +kernel
theorem dL_law_1660 : decode cL_law 1660 = .ok (.invokevirtual 204, 3) := by decide +kernel
theorem dL_law_1663 : decode cL_law 1663 = .ok (.if_icmp .eq 55, 3) := by decide +kernel
theorem dL_law_1666 : decode cL_law 1666 = .ok (.iconst 0, 1) := by decide +kernel
theorem dL_law_1667 : decode cL_law 1667 = .ok (.ireturn, 1) := by decide +kernel
set_option maxHeartbeats 4000000 in
set_option maxRecDepth 100000 in
theorem ls_42 {p : Program} {l : Launch} {e : Env} {s : State} {m : MethodId} {below : List Frame} {meth : Method} {c : Code} {b L : Nat} {xs : Nat → Int32} {E : EE} {cL : ClassId} {ad qa qe : Nat → Nat} {sh rg : Nat → Option Nat} {rwf : Nat → Nat} {σ : Nat → Nat} (hC : LC p l s m meth c b L xs E cL rg rwf) {i : Nat} (hi6 : i + 6 ≤ L) (hv : (xs (i + 1) = nI (σ 0) ∧ σ 0 < 8) ∨ wiB (xs (i + 1)) 0 7 = false) (hs0 : sh (σ 0) = some (qa 0)) (hinj : ∀ j, j ≠ 1 → j < 8 → σ j ≠ σ 1 ∧ σ j < 8) (hv3 : (xs (i + 3) = nI (σ 1) ∧ σ 1 < 8) ∨ wiB (xs (i + 3)) 0 7 = false) (hs1 : sh (σ 1) = some (qa 1)) {cells slots : Nat} (hcs : cells + 1 ≤ 601024 ∧ slots + 6 ≤ 7293034) (kk : Nx p l e s m below meth c b E cL ad qa qe sh rg rwf σ (nI i) (cells + 1) (slots + 6) 1718) : Nx p l e s m below meth c b E cL ad qa qe sh rg rwf σ (nI i) cells slots 1595 := by
  intro h k f r m y mv st P ne dy mh mk mf mr mm ms mo mt mp mn md gh gk gf gr gm gs go gt gp gn gd img rp Y V el ho ki fi so si S M I B hi pl ra re nu mx sd K KK KF SO SI EL th og hI H locs ls hP hD hS hl
  obtain ⟨C0, hL, hG, hKL, hTX, hrg⟩ := id hC
  obtain ⟨hx, hb, hr, hml, hown, hts, hX, hbl, hlocks, hgv⟩ := id C0
  have hF := lw_fix C0
  obtain ⟨hSt, hq, hhi, him, hk9⟩ := id hI
  have hA : ∀ q : Nat, s.heap.size ≤ q → (fun q : Nat => s.heap.size ≤ q) q := fun _ h => h
  have hc0 : cells + 0 ≤ room_1.cells ∧ slots + 0 ≤ room_1.slots := ⟨Nat.le_of_succ_le hcs.1, by have := hcs.2; show slots + 0 ≤ 7293034; omega⟩
  have hsp := shp_of hv hq
  have hsh1 := hsh_of hv hs0
  have hsh3 := hsh_at (j := 1) hv3 hs1
  obtain ⟨res, a1, EL1, e1, e2, hq1⟩ := agS_copy (xs (i + 1)) (xs (i + 2)) (xs (i + 3)) (xs (i + 4)) (xs (i + 5)) hv hv3 hq hinj (N := 2000) (by decide)
  refine lv_aload_n hx hb dL_law_1595 rfl (lv_at hl 2 rfl) ?_
  refine lw_ld hC hi6 (j := 1) (by decide) hS hl dL_law_1596 dL_law_1597 dL_law_1599 dL_law_1600 dL_law_1601 ?_
  refine lw_ld hC hi6 (j := 2) (by decide) hS hl dL_law_1602 dL_law_1603 dL_law_1605 dL_law_1606 dL_law_1607 ?_
  refine lw_ld hC hi6 (j := 3) (by decide) hS hl dL_law_1608 dL_law_1609 dL_law_1611 dL_law_1612 dL_law_1613 ?_
  refine lw_ld hC hi6 (j := 4) (by decide) hS hl dL_law_1614 dL_law_1615 dL_law_1617 dL_law_1618 dL_law_1619 ?_
  refine lw_ld hC hi6 (j := 5) (by decide) hS hl dL_law_1620 dL_law_1621 dL_law_1623 dL_law_1624 dL_law_1625 ?_
  refine wrVj [0, 32, 33, 34, 35, 36] [1, 2, 3, 4, 5, 6, 7, 8, 9, 10, 11, 12, 13, 14, 15, 16, 17, 18, 19, 20, 21, 22, 23, 24, 25, 26, 27, 28, 29, 30, 31, 37, 38, 39, 40, 41, 42, 43, 44, 45, 46, 47, 48, 49, 50, 51, 52, 53, 54, 55, 56, 57, 58, 59, 60, 61, 62] 3 0 (As := [.int (xs (i + 1)), .int (xs (i + 2)), .int (xs (i + 3)), .int (xs (i + 4)), .int (xs (i + 5))]) (rest := []) (st1 := [.int res]) hF q_X9_copy kw_3_225 (c_X9_copy l E (ad 0) (ad 1) (ad 8) (ad 15) (ad 22) (ad 32) (qa 0) (qe 0) (qa 1) (qe 1) img sh (el 0) (ho 0) (ki 0) (fi 0) (so 0) (si 0) (el 1) (ho 1) (ki 1) (fi 1) (so 1) (si 1) (xs (i + 1)) (xs (i + 2)) (xs (i + 3)) (xs (i + 4)) (xs (i + 5)) res a1 hsh1 hsh3 e1) ⟨rfl, rfl⟩ ⟨Nat.le_of_ble_eq_true rfl, Nat.le_of_ble_eq_true rfl⟩ hc0 hP hD hS hA rfl rfl rfl hG jncopy rfl hl.1 rfl (Nat.le_of_ble_eq_true rfl) dL_law_1626 rfl (fun H locs hP hD hS => ?_)
  refine lv_aload_n hx hb dL_law_1629 rfl (lv_at hl 3 rfl) ?_
  refine lw_ld hC hi6 (j := 1) (by decide) hS hl dL_law_1630 dL_law_1631 dL_law_1633 dL_law_1634 dL_law_1635 ?_
  refine lw_ld hC hi6 (j := 2) (by decide) hS hl dL_law_1636 dL_law_1637 dL_law_1639 dL_law_1640 dL_law_1641 ?_
  refine lw_ld hC hi6 (j := 3) (by decide) hS hl dL_law_1642 dL_law_1643 dL_law_1645 dL_law_1646 dL_law_1647 ?_
  refine lw_ld hC hi6 (j := 4) (by decide) hS hl dL_law_1648 dL_law_1649 dL_law_1651 dL_law_1652 dL_law_1653 ?_
  refine lw_ld hC hi6 (j := 5) (by decide) hS hl dL_law_1654 dL_law_1655 dL_law_1657 dL_law_1658 dL_law_1659 ?_
  refine wrVj [49, 50, 51, 52, 53, 54, 55, 56, 57, 58, 59, 60, 61] [0, 1, 2, 3, 4, 5, 6, 7, 8, 9, 10, 11, 12, 13, 14, 15, 16, 17, 18, 19, 20, 21, 22, 23, 24, 25, 26, 27, 28, 29, 30, 31, 32, 33, 34, 35, 36, 37, 38, 39, 40, 41, 42, 43, 44, 45, 46, 47, 48, 62] 4 0 (As := [.int (xs (i + 1)), .int (xs (i + 2)), .int (xs (i + 3)), .int (xs (i + 4)), .int (xs (i + 5))]) (rest := [.int res]) (st1 := [.int res, .int res]) hF q_X10_copy kw_6_84 (c_X10_copy l E (ad 49) (ad 50) (ad 51) (ad 52) (ad 53) (ad 54) (ad 55) (ad 56) (ad 57) (ad 58) (ad 59) (ad 60) (ad 61) S M I B hi pl ra re nu mx sd K KK KF SO SI EL th (xs (i + 1)) (xs (i + 2)) (xs (i + 3)) (xs (i + 4)) (xs (i + 5)) 2000 res EL1 e2) ⟨rfl, rfl⟩ ⟨Nat.le_of_ble_eq_true rfl, Nat.le_of_ble_eq_true rfl⟩ hc0 hP hD hS hA rfl rfl rfl hG jnMo rfl hl.1 rfl (Nat.le_of_ble_eq_true rfl) dL_law_1660 rfl (fun H locs hP hD hS => ?_)
  refine lv_icmp_eq (tgt := 1718) hx hb dL_law_1663 (by decide) (fun _ => ?_) (fun h => absurd rfl h)
  exact w_widen (Nat.le_succ _) (Nat.le_add_right _ 6) (kk h k f r m y mv st P ne dy mh mk mf mr mm ms mo mt mp mn md gh gk gf gr gm gs go gt gp gn gd img rp Y V (sU el 1 a1) ho ki fi so si S M I B hi pl ra re nu mx sd K KK KF SO SI EL1 th og ⟨hSt, hq1, hI.2.2⟩ H locs ls hP hD hS hl)
set_option maxHeartbeats 4000000 in
set_option maxRecDepth 100000 in
theorem ls_42s {p : Program} {l : Launch} {e : Env} {s : State} {m : MethodId} {below : List Frame} {meth : Method} {c : Code} {b L : Nat} {xs : Nat → Int32} {E : EE} {cL : ClassId} {ad qa qe : Nat → Nat} {sh rg : Nat → Option Nat} {rwf : Nat → Nat} {σ : Nat → Nat} (hC : LC p l s m meth c b L xs E cL rg rwf) {i : Nat} (hi6 : i + 6 ≤ L) (hv : (xs (i + 1) = nI (σ 0) ∧ σ 0 < 8) ∨ wiB (xs (i + 1)) 0 7 = false) (hs0 : sh (σ 0) = some (qa 0)) (hinj : ∀ j, 0 < j → j < 8 → σ j ≠ σ 0 ∧ σ j < 8) (hv3 : xs (i + 3) = nI (σ 0) ∧ σ 0 < 8) {cells slots : Nat} (hcs : cells + 1 ≤ 601024 ∧ slots + 6 ≤ 7293034) (kk : Nx p l e s m below meth c b E cL ad qa qe sh rg rwf σ (nI i) (cells + 1) (slots + 6) 1718) : Nx p l e s m below meth c b E cL ad qa qe sh rg rwf σ (nI i) cells slots 1595 := by
  intro h k f r m y mv st P ne dy mh mk mf mr mm ms mo mt mp mn md gh gk gf gr gm gs go gt gp gn gd img rp Y V el ho ki fi so si S M I B hi pl ra re nu mx sd K KK KF SO SI EL th og hI H locs ls hP hD hS hl
  obtain ⟨C0, hL, hG, hKL, hTX, hrg⟩ := id hC
  obtain ⟨hx, hb, hr, hml, hown, hts, hX, hbl, hlocks, hgv⟩ := id C0
  have hF := lw_fix C0
  obtain ⟨hSt, hq, hhi, him, hk9⟩ := id hI
  have hA : ∀ q : Nat, s.heap.size ≤ q → (fun q : Nat => s.heap.size ≤ q) q := fun _ h => h
  have hc0 : cells + 0 ≤ room_1.cells ∧ slots + 0 ≤ room_1.slots := ⟨Nat.le_of_succ_le hcs.1, by have := hcs.2; show slots + 0 ≤ 7293034; omega⟩
  have hsp := shp_of hv hq
  have hsh1 := hsh_of hv hs0
  have hsh3 := hsh_of (Or.inl hv3) hs0
  obtain ⟨res, a1, EL1, e1, e2, hq1⟩ := agS_copy_s (xs (i + 1)) (xs (i + 2)) (xs (i + 3)) (xs (i + 4)) (xs (i + 5)) hv hv3 hq hinj (N := 2000) (by decide)
  refine lv_aload_n hx hb dL_law_1595 rfl (lv_at hl 2 rfl) ?_
  refine lw_ld hC hi6 (j := 1) (by decide) hS hl dL_law_1596 dL_law_1597 dL_law_1599 dL_law_1600 dL_law_1601 ?_
  refine lw_ld hC hi6 (j := 2) (by decide) hS hl dL_law_1602 dL_law_1603 dL_law_1605 dL_law_1606 dL_law_1607 ?_
  refine lw_ld hC hi6 (j := 3) (by decide) hS hl dL_law_1608 dL_law_1609 dL_law_1611 dL_law_1612 dL_law_1613 ?_
  refine lw_ld hC hi6 (j := 4) (by decide) hS hl dL_law_1614 dL_law_1615 dL_law_1617 dL_law_1618 dL_law_1619 ?_
  refine lw_ld hC hi6 (j := 5) (by decide) hS hl dL_law_1620 dL_law_1621 dL_law_1623 dL_law_1624 dL_law_1625 ?_
  refine wrVj [0, 32, 33, 34] [1, 2, 3, 4, 5, 6, 7, 8, 9, 10, 11, 12, 13, 14, 15, 16, 17, 18, 19, 20, 21, 22, 23, 24, 25, 26, 27, 28, 29, 30, 31, 35, 36, 37, 38, 39, 40, 41, 42, 43, 44, 45, 46, 47, 48, 49, 50, 51, 52, 53, 54, 55, 56, 57, 58, 59, 60, 61, 62] 3 0 (As := [.int (xs (i + 1)), .int (xs (i + 2)), .int (xs (i + 3)), .int (xs (i + 4)), .int (xs (i + 5))]) (rest := []) (st1 := [.int res]) hF q_X9_copy kw_3_225 (c_X9_copy_s l E (ad 0) (ad 1) (ad 8) (ad 15) (ad 22) (ad 32) (qa 0) (qe 0) img sh (el 0) (ho 0) (ki 0) (fi 0) (so 0) (si 0) (xs (i + 1)) (xs (i + 2)) (xs (i + 3)) (xs (i + 4)) (xs (i + 5)) res a1 hsh1 hsh3 e1) ⟨rfl, rfl⟩ ⟨Nat.le_of_ble_eq_true rfl, Nat.le_of_ble_eq_true rfl⟩ hc0 hP hD hS hA rfl rfl rfl hG jncopy_s rfl hl.1 rfl (Nat.le_of_ble_eq_true rfl) dL_law_1626 rfl (fun H locs hP hD hS => ?_)
  refine lv_aload_n hx hb dL_law_1629 rfl (lv_at hl 3 rfl) ?_
  refine lw_ld hC hi6 (j := 1) (by decide) hS hl dL_law_1630 dL_law_1631 dL_law_1633 dL_law_1634 dL_law_1635 ?_
  refine lw_ld hC hi6 (j := 2) (by decide) hS hl dL_law_1636 dL_law_1637 dL_law_1639 dL_law_1640 dL_law_1641 ?_
  refine lw_ld hC hi6 (j := 3) (by decide) hS hl dL_law_1642 dL_law_1643 dL_law_1645 dL_law_1646 dL_law_1647 ?_
  refine lw_ld hC hi6 (j := 4) (by decide) hS hl dL_law_1648 dL_law_1649 dL_law_1651 dL_law_1652 dL_law_1653 ?_
  refine lw_ld hC hi6 (j := 5) (by decide) hS hl dL_law_1654 dL_law_1655 dL_law_1657 dL_law_1658 dL_law_1659 ?_
  refine wrVj [49, 50, 51, 52, 53, 54, 55, 56, 57, 58, 59, 60, 61] [0, 1, 2, 3, 4, 5, 6, 7, 8, 9, 10, 11, 12, 13, 14, 15, 16, 17, 18, 19, 20, 21, 22, 23, 24, 25, 26, 27, 28, 29, 30, 31, 32, 33, 34, 35, 36, 37, 38, 39, 40, 41, 42, 43, 44, 45, 46, 47, 48, 62] 4 0 (As := [.int (xs (i + 1)), .int (xs (i + 2)), .int (xs (i + 3)), .int (xs (i + 4)), .int (xs (i + 5))]) (rest := [.int res]) (st1 := [.int res, .int res]) hF q_X10_copy kw_6_84 (c_X10_copy l E (ad 49) (ad 50) (ad 51) (ad 52) (ad 53) (ad 54) (ad 55) (ad 56) (ad 57) (ad 58) (ad 59) (ad 60) (ad 61) S M I B hi pl ra re nu mx sd K KK KF SO SI EL th (xs (i + 1)) (xs (i + 2)) (xs (i + 3)) (xs (i + 4)) (xs (i + 5)) 2000 res EL1 e2) ⟨rfl, rfl⟩ ⟨Nat.le_of_ble_eq_true rfl, Nat.le_of_ble_eq_true rfl⟩ hc0 hP hD hS hA rfl rfl rfl hG jnMo rfl hl.1 rfl (Nat.le_of_ble_eq_true rfl) dL_law_1660 rfl (fun H locs hP hD hS => ?_)
  refine lv_icmp_eq (tgt := 1718) hx hb dL_law_1663 (by decide) (fun _ => ?_) (fun h => absurd rfl h)
  exact w_widen (Nat.le_succ _) (Nat.le_add_right _ 6) (kk h k f r m y mv st P ne dy mh mk mf mr mm ms mo mt mp mn md gh gk gf gr gm gs go gt gp gn gd img rp Y V (sU el 0 a1) ho ki fi so si S M I B hi pl ra re nu mx sd K KK KF SO SI EL1 th og ⟨hSt, hq1, hI.2.2⟩ H locs ls hP hD hS hl)
