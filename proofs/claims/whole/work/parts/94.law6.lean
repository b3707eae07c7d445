/-! The law: cases 24 to 30 -/
theorem law_count {E : aG} {Γ : aC} {nm : String} {ci : aI} {cl : aL} {cr : Nat → Nat → Option Nat} {dy : aM} {nx n ce sl k : Nat} (C : LC E Γ nm) (h : INV ci cl cr dy nx n) (hk : 6 * k + 6 ≤ gL E) (hce : ce + 3 ≤ 601024) (hsl : sl + 62 ≤ 7293034) (K : KK E Γ (ce + 3) (sl + 62) k) : SV E Γ 8 (mm ci cl cr dy) nx ce sl 1282 (LVk k) [] := by
  obtain ⟨hΓ, hSX, hL, hNW, hNX, hX, hXN, htr⟩ := C
  refine sv_aload_n hΓ dL_law_1282 rfl 3 rfl rfl ?_
  refine sv_arg hΓ hSX 1 hk hL (by decide) dL_law_1283 dL_law_1284 dL_law_1286 (by decide) dL_law_1287 dL_law_1288 4 0 rfl rfl rfl ?_
  show SV E Γ 8 _ _ _ _ 1289 (LVk k) [.int (gX E (6 * k + 1)), .ref 1]
  refine sv_callV hΓ (fun l => ct_X11_count l (up2 ci 43 0 0) (cl 48) (gX E (6 * k + 1)) n h.B0 h.2.1.2.1) wv_L_144 vs_X11_count rfl m_1 rfl rfl (by decide) (by omega) (by omega) (Nat.le_of_ble_eq_true rfl) dL_law_1289 rfl (fun r M' nx' p1 => ?_)
  obtain ⟨v, rfl, rfl, rfl, hF⟩ := A_count h p1
  show SV E Γ 8 _ _ _ _ 1292 (LVk k) [.int v]
  refine sv_aload_n hΓ dL_law_1292 rfl 2 rfl rfl ?_
  refine sv_arg hΓ hSX 1 hk hL (by decide) dL_law_1293 dL_law_1294 dL_law_1296 (by decide) dL_law_1297 dL_law_1298 4 0 rfl rfl rfl ?_
  show SV E Γ 8 _ _ _ _ 1299 (LVk k) [.int (gX E (6 * k + 1)), .ref 43, .int v]
  refine sv_callV hΓ (fun l => ct_X12_count l (gX E (6 * k + 1)) n h.1.2.1 h.n6) wv_L_147 vs_X12_count rfl m_43 rfl rfl (by decide) (by omega) (by omega) (Nat.le_of_ble_eq_true rfl) dL_law_1299 rfl (fun r M' nx' p2 => ?_)
  obtain ⟨rfl, ci2, cl2, cr2, dy2, n2, rfl, h2⟩ := hF _ _ _ p2
  show SV E Γ 8 _ _ _ _ 1302 (LVk k) [.int v, .int v]
  refine sv_icmp_eq (tgt := 1595) hΓ dL_law_1302 (by decide) rfl (fun _ => ?_) (fun z => absurd rfl z)
  exact SV_w (by omega) (by omega) (K _ _ _ _ _ _ h2)
theorem law_keep {E : aG} {Γ : aC} {nm : String} {ci : aI} {cl : aL} {cr : Nat → Nat → Option Nat} {dy : aM} {nx n ce sl k : Nat} (C : LC E Γ nm) (h : INV ci cl cr dy nx n) (hk : 6 * k + 6 ≤ gL E) (hce : ce + 3 ≤ 601024) (hsl : sl + 62 ≤ 7293034) (K : KK E Γ (ce + 3) (sl + 62) k) : SV E Γ 8 (mm ci cl cr dy) nx ce sl 1307 (LVk k) [] := by
  obtain ⟨hΓ, hSX, hL, hNW, hNX, hX, hXN, htr⟩ := C
  refine sv_aload_n hΓ dL_law_1307 rfl 3 rfl rfl ?_
  refine sv_arg hΓ hSX 1 hk hL (by decide) dL_law_1308 dL_law_1309 dL_law_1311 (by decide) dL_law_1312 dL_law_1313 4 0 rfl rfl rfl ?_
  refine sv_arg hΓ hSX 2 hk hL (by decide) dL_law_1314 dL_law_1315 dL_law_1317 (by decide) dL_law_1318 dL_law_1319 4 0 rfl rfl rfl ?_
  refine sv_arg hΓ hSX 3 hk hL (by decide) dL_law_1320 dL_law_1321 dL_law_1323 (by decide) dL_law_1324 dL_law_1325 4 0 rfl rfl rfl ?_
  show SV E Γ 8 _ _ _ _ 1326 (LVk k) [.int (gX E (6 * k + 3)), .int (gX E (6 * k + 2)), .int (gX E (6 * k + 1)), .ref 1]
  refine sv_callV hΓ (fun l => ct_X11_keep l (up2 ci 43 0 0) (cl 48) n (gX E (6 * k + 1)) (gX E (6 * k + 2)) (gX E (6 * k + 3)) h.B0 hNW hNX h.2.2.2.2.2.2 h.2.2.2.2.2.1) wv_L_148 vs_X11_keep rfl m_1 rfl rfl (by decide) (by omega) (by omega) (Nat.le_of_ble_eq_true rfl) dL_law_1326 rfl (fun r M' nx' p1 => ?_)
  obtain ⟨v, r1, d1, rfl, rfl, hF⟩ := A_keep h p1
  show SV E Γ 8 _ _ _ _ 1329 (LVk k) [.int v]
  refine sv_aload_n hΓ dL_law_1329 rfl 2 rfl rfl ?_
  refine sv_arg hΓ hSX 1 hk hL (by decide) dL_law_1330 dL_law_1331 dL_law_1333 (by decide) dL_law_1334 dL_law_1335 4 0 rfl rfl rfl ?_
  refine sv_arg hΓ hSX 2 hk hL (by decide) dL_law_1336 dL_law_1337 dL_law_1339 (by decide) dL_law_1340 dL_law_1341 4 0 rfl rfl rfl ?_
  refine sv_arg hΓ hSX 3 hk hL (by decide) dL_law_1342 dL_law_1343 dL_law_1345 (by decide) dL_law_1346 dL_law_1347 4 0 rfl rfl rfl ?_
  show SV E Γ 8 _ _ _ _ 1348 (LVk k) [.int (gX E (6 * k + 3)), .int (gX E (6 * k + 2)), .int (gX E (6 * k + 1)), .ref 43, .int v]
  refine sv_callV hΓ (fun l => ct_X12_keep l (gX E (6 * k + 1)) (gX E (6 * k + 2)) (gX E (6 * k + 3)) n h.1.2.1 h.n6) wv_L_151 vs_X12_keep rfl m_43 rfl rfl (by decide) (by omega) (by omega) (Nat.le_of_ble_eq_true rfl) dL_law_1348 rfl (fun r M' nx' p2 => ?_)
  obtain ⟨rfl, ci2, cl2, cr2, dy2, n2, rfl, h2⟩ := hF _ _ _ p2
  show SV E Γ 8 _ _ _ _ 1351 (LVk k) [.int v, .int v]
  refine sv_icmp_eq (tgt := 1595) hΓ dL_law_1351 (by decide) rfl (fun _ => ?_) (fun z => absurd rfl z)
  exact SV_w (by omega) (by omega) (K _ _ _ _ _ _ h2)
theorem law_make {E : aG} {Γ : aC} {nm : String} {ci : aI} {cl : aL} {cr : Nat → Nat → Option Nat} {dy : aM} {nx n ce sl k : Nat} (C : LC E Γ nm) (h : INV ci cl cr dy nx n) (hk : 6 * k + 6 ≤ gL E) (hce : ce + 3 ≤ 601024) (hsl : sl + 62 ≤ 7293034) (K : KK E Γ (ce + 3) (sl + 62) k) : SV E Γ 8 (mm ci cl cr dy) nx ce sl 1356 (LVk k) [] := by
  obtain ⟨hΓ, hSX, hL, hNW, hNX, hX, hXN, htr⟩ := C
  refine sv_aload_n hΓ dL_law_1356 rfl 3 rfl rfl ?_
  refine sv_arg hΓ hSX 1 hk hL (by decide) dL_law_1357 dL_law_1358 dL_law_1360 (by decide) dL_law_1361 dL_law_1362 4 0 rfl rfl rfl ?_
  refine sv_arg hΓ hSX 2 hk hL (by decide) dL_law_1363 dL_law_1364 dL_law_1366 (by decide) dL_law_1367 dL_law_1368 4 0 rfl rfl rfl ?_
  refine sv_arg hΓ hSX 3 hk hL (by decide) dL_law_1369 dL_law_1370 dL_law_1372 (by decide) dL_law_1373 dL_law_1374 4 0 rfl rfl rfl ?_
  show SV E Γ 8 _ _ _ _ 1375 (LVk k) [.int (gX E (6 * k + 3)), .int (gX E (6 * k + 2)), .int (gX E (6 * k + 1)), .ref 1]
  refine sv_callV hΓ (fun l => ct_X11_make l (gX E (6 * k + 1)) (gX E (6 * k + 2)) (gX E (6 * k + 3)) hNW h.2.2.2.2.2.2 h.2.2.2.2.2.1) wv_L_152 vs_X11_make rfl m_1 rfl rfl (by decide) (by omega) (by omega) (Nat.le_of_ble_eq_true rfl) dL_law_1375 rfl (fun r M' nx' p1 => ?_)
  obtain ⟨v, r1, d1, rfl, rfl, hF⟩ := A_make h p1
  show SV E Γ 8 _ _ _ _ 1378 (LVk k) [.int v]
  refine sv_aload_n hΓ dL_law_1378 rfl 2 rfl rfl ?_
  refine sv_arg hΓ hSX 1 hk hL (by decide) dL_law_1379 dL_law_1380 dL_law_1382 (by decide) dL_law_1383 dL_law_1384 4 0 rfl rfl rfl ?_
  refine sv_arg hΓ hSX 2 hk hL (by decide) dL_law_1385 dL_law_1386 dL_law_1388 (by decide) dL_law_1389 dL_law_1390 4 0 rfl rfl rfl ?_
  refine sv_arg hΓ hSX 3 hk hL (by decide) dL_law_1391 dL_law_1392 dL_law_1394 (by decide) dL_law_1395 dL_law_1396 4 0 rfl rfl rfl ?_
  show SV E Γ 8 _ _ _ _ 1397 (LVk k) [.int (gX E (6 * k + 3)), .int (gX E (6 * k + 2)), .int (gX E (6 * k + 1)), .ref 43, .int v]
  refine sv_callV hΓ (fun l => ct_X12_make l (gX E (6 * k + 1)) (gX E (6 * k + 2)) (gX E (6 * k + 3))) wv_L_155 vs_X12_make rfl m_43 rfl rfl (by decide) (by omega) (by omega) (Nat.le_of_ble_eq_true rfl) dL_law_1397 rfl (fun r M' nx' p2 => ?_)
  obtain ⟨rfl, ci2, cl2, cr2, dy2, n2, rfl, h2⟩ := hF _ _ _ p2
  show SV E Γ 8 _ _ _ _ 1400 (LVk k) [.int v, .int v]
  refine sv_icmp_eq (tgt := 1595) hΓ dL_law_1400 (by decide) rfl (fun _ => ?_) (fun z => absurd rfl z)
  exact SV_w (by omega) (by omega) (K _ _ _ _ _ _ h2)
theorem law_element {E : aG} {Γ : aC} {nm : String} {ci : aI} {cl : aL} {cr : Nat → Nat → Option Nat} {dy : aM} {nx n ce sl k : Nat} (C : LC E Γ nm) (h : INV ci cl cr dy nx n) (hk : 6 * k + 6 ≤ gL E) (hce : ce + 3 ≤ 601024) (hsl : sl + 62 ≤ 7293034) (K : KK E Γ (ce + 3) (sl + 62) k) : SV E Γ 8 (mm ci cl cr dy) nx ce sl 1405 (LVk k) [] := by
  obtain ⟨hΓ, hSX, hL, hNW, hNX, hX, hXN, htr⟩ := C
  refine sv_aload_n hΓ dL_law_1405 rfl 3 rfl rfl ?_
  refine sv_arg hΓ hSX 1 hk hL (by decide) dL_law_1406 dL_law_1407 dL_law_1409 (by decide) dL_law_1410 dL_law_1411 4 0 rfl rfl rfl ?_
  refine sv_arg hΓ hSX 2 hk hL (by decide) dL_law_1412 dL_law_1413 dL_law_1415 (by decide) dL_law_1416 dL_law_1417 4 0 rfl rfl rfl ?_
  refine sv_aload_n hΓ dL_law_1418 rfl 1 rfl rfl ?_
  show SV E Γ 8 _ _ _ _ 1419 (LVk k) [.ref 73, .int (gX E (6 * k + 2)), .int (gX E (6 * k + 1)), .ref 1]
  refine sv_callSW hΓ (cw_L_element _ (gX E (6 * k + 1)) (gX E (6 * k + 2)) h.sh hNW hX hXN htr) ww_element rfl rfl (by decide) (by omega) (by omega) (Nat.le_of_ble_eq_true rfl) dL_law_1419 rfl (fun r M' nx' p1 => ?_)
  obtain ⟨v, l1, rfl, rfl, h1, hF⟩ := A_element h p1
  show SV E Γ 8 _ _ _ _ 1422 (LVk k) [.int v]
  refine sv_istore (lv' := (5, .int v) :: LVk k) hΓ dL_law_1422 (by decide) rfl rfl ?_
  refine sv_aload_n hΓ dL_law_1424 rfl 3 rfl rfl ?_
  refine sv_arg hΓ hSX 1 hk hL (by decide) dL_law_1425 dL_law_1426 dL_law_1428 (by decide) dL_law_1429 dL_law_1430 5 1 rfl rfl rfl ?_
  refine sv_arg hΓ hSX 2 hk hL (by decide) dL_law_1431 dL_law_1432 dL_law_1434 (by decide) dL_law_1435 dL_law_1436 5 1 rfl rfl rfl ?_
  show SV E Γ 8 _ _ _ _ 1437 ((5, .int v) :: LVk k) [.int (gX E (6 * k + 2)), .int (gX E (6 * k + 1)), .ref 43]
  refine sv_callV hΓ (fun l => ct_X12_element l (gX E (6 * k + 1)) (gX E (6 * k + 2)) h1.2.2.2.2.1.2.1) wv_L_158 vs_X12_element rfl m_43 rfl rfl (by decide) (by omega) (by omega) (Nat.le_of_ble_eq_true rfl) dL_law_1437 rfl (fun r M' nx' p2 => ?_)
  obtain ⟨y, ci2, cl2, cr2, dy2, n2, rfl, rfl, h2, e0, e1⟩ := hF _ _ _ p2
  show SV E Γ 8 _ _ _ _ 1440 ((5, .int v) :: LVk k) [.long y]
  refine sv_lstore (lv' := (6, .long y) :: (5, .int v) :: LVk k) hΓ dL_law_1440 (by decide) rfl rfl ?_
  refine sv_aload_n hΓ dL_law_1442 rfl 4 rfl rfl ?_
  refine sv_callV hΓ (fun l => ct_X12_thrown l) wv_L_91 vs_X12_thrown rfl m_43 rfl rfl (by decide) (by omega) (by omega) (Nat.le_of_ble_eq_true rfl) dL_law_1443 rfl (fun r M' nx' p3 => ?_)
  obtain ⟨rfl, rfl, rfl⟩ := p3
  show SV E Γ 8 _ _ _ _ 1446 ((6, .long y) :: (5, .int v) :: LVk k) [.int (ci2 43 0)]
  refine sv_iload hΓ dL_law_1446 1 rfl rfl ?_
  refine sv_icmp_eq (tgt := 1453) hΓ dL_law_1448 (by decide) rfl (fun _ => ?_) (fun z => absurd e0 z)
  refine sv_iload hΓ dL_law_1453 1 rfl rfl ?_
  have K2 : SV E Γ 8 (mm ci2 cl2 cr2 dy2) _ (ce + 1 + 0 + 0) (sl + 6 + 0 + 0) 1469 ((6, .long y) :: (5, .int v) :: LVk k) [] := sv_goto (pc' := 1595) hΓ dL_law_1469 (by decide) (SV_lv [2, 3, 4, 5, 6] rfl (SV_w (by omega) (by omega) (K _ _ _ _ _ _ h2)))
  refine sv_if_ne (tgt := 1469) hΓ dL_law_1455 (by decide) rfl (fun _ => K2) (fun z => ?_)
  refine sv_aload_n hΓ dL_law_1458 rfl 3 rfl rfl ?_
  refine sv_iconst (v := 0) hΓ dL_law_1459 (by decide) rfl ?_
  refine al_73 hΓ 0 rfl (by decide) dL_law_1460 rfl ?_
  refine sv_lload hΓ dL_law_1461 0 rfl rfl ?_
  refine sv_lcmp hΓ dL_law_1463 rfl ?_
  exact sv_if_eq (tgt := 1469) hΓ dL_law_1464 (by decide) rfl (fun _ => K2) (fun q => absurd (lgc_eq.mpr (e1 z)) q)
theorem law_copy {E : aG} {Γ : aC} {nm : String} {ci : aI} {cl : aL} {cr : Nat → Nat → Option Nat} {dy : aM} {nx n ce sl k : Nat} (C : LC E Γ nm) (h : INV ci cl cr dy nx n) (hk : 6 * k + 6 ≤ gL E) (hce : ce + 3 ≤ 601024) (hsl : sl + 62 ≤ 7293034) (K : KK E Γ (ce + 3) (sl + 62) k) : SV E Γ 8 (mm ci cl cr dy) nx ce sl 1472 (LVk k) [] := by
  obtain ⟨hΓ, hSX, hL, hNW, hNX, hX, hXN, htr⟩ := C
  refine sv_aload_n hΓ dL_law_1472 rfl 3 rfl rfl ?_
  refine sv_arg hΓ hSX 1 hk hL (by decide) dL_law_1473 dL_law_1474 dL_law_1476 (by decide) dL_law_1477 dL_law_1478 4 0 rfl rfl rfl ?_
  refine sv_arg hΓ hSX 2 hk hL (by decide) dL_law_1479 dL_law_1480 dL_law_1482 (by decide) dL_law_1483 dL_law_1484 4 0 rfl rfl rfl ?_
  refine sv_arg hΓ hSX 3 hk hL (by decide) dL_law_1485 dL_law_1486 dL_law_1488 (by decide) dL_law_1489 dL_law_1490 4 0 rfl rfl rfl ?_
  refine sv_arg hΓ hSX 4 hk hL (by decide) dL_law_1491 dL_law_1492 dL_law_1494 (by decide) dL_law_1495 dL_law_1496 4 0 rfl rfl rfl ?_
  refine sv_arg hΓ hSX 5 hk hL (by decide) dL_law_1497 dL_law_1498 dL_law_1500 (by decide) dL_law_1501 dL_law_1502 4 0 rfl rfl rfl ?_
  show SV E Γ 8 _ _ _ _ 1503 (LVk k) [.int (gX E (6 * k + 5)), .int (gX E (6 * k + 4)), .int (gX E (6 * k + 3)), .int (gX E (6 * k + 2)), .int (gX E (6 * k + 1)), .ref 1]
  refine sv_callV hΓ (fun l => ct_X11_copy l (gX E (6 * k + 1)) (gX E (6 * k + 2)) (gX E (6 * k + 3)) (gX E (6 * k + 4)) (gX E (6 * k + 5)) h.sh hNW) wv_L_159 vs_X11_copy rfl m_1 rfl rfl (by decide) (by omega) (by omega) (Nat.le_of_ble_eq_true rfl) dL_law_1503 rfl (fun r M' nx' p1 => ?_)
  obtain ⟨v, d1, rfl, rfl, rfl, hF⟩ := A_copy h p1
  show SV E Γ 8 _ _ _ _ 1506 (LVk k) [.int v]
  refine sv_aload_n hΓ dL_law_1506 rfl 2 rfl rfl ?_
  refine sv_arg hΓ hSX 1 hk hL (by decide) dL_law_1507 dL_law_1508 dL_law_1510 (by decide) dL_law_1511 dL_law_1512 4 0 rfl rfl rfl ?_
  refine sv_arg hΓ hSX 2 hk hL (by decide) dL_law_1513 dL_law_1514 dL_law_1516 (by decide) dL_law_1517 dL_law_1518 4 0 rfl rfl rfl ?_
  refine sv_arg hΓ hSX 3 hk hL (by decide) dL_law_1519 dL_law_1520 dL_law_1522 (by decide) dL_law_1523 dL_law_1524 4 0 rfl rfl rfl ?_
  refine sv_arg hΓ hSX 4 hk hL (by decide) dL_law_1525 dL_law_1526 dL_law_1528 (by decide) dL_law_1529 dL_law_1530 4 0 rfl rfl rfl ?_
  refine sv_arg hΓ hSX 5 hk hL (by decide) dL_law_1531 dL_law_1532 dL_law_1534 (by decide) dL_law_1535 dL_law_1536 4 0 rfl rfl rfl ?_
  show SV E Γ 8 _ _ _ _ 1537 (LVk k) [.int (gX E (6 * k + 5)), .int (gX E (6 * k + 4)), .int (gX E (6 * k + 3)), .int (gX E (6 * k + 2)), .int (gX E (6 * k + 1)), .ref 43, .int v]
  refine sv_callV hΓ (fun l => ct_X12_copy2 l (gX E (6 * k + 1)) (gX E (6 * k + 2)) (gX E (6 * k + 3)) (gX E (6 * k + 4)) (gX E (6 * k + 5)) h.2.2.2.2.1.2.1) wv_L_163 vs_X12_copy rfl m_43 rfl rfl (by decide) (by omega) (by omega) (Nat.le_of_ble_eq_true rfl) dL_law_1537 rfl (fun r M' nx' p2 => ?_)
  obtain ⟨rfl, ci2, cl2, cr2, dy2, n2, rfl, h2⟩ := hF _ _ _ p2
  show SV E Γ 8 _ _ _ _ 1540 (LVk k) [.int v, .int v]
  refine sv_icmp_eq (tgt := 1595) hΓ dL_law_1540 (by decide) rfl (fun _ => ?_) (fun z => absurd rfl z)
  exact SV_w (by omega) (by omega) (K _ _ _ _ _ _ h2)
theorem law_weight {E : aG} {Γ : aC} {nm : String} {ci : aI} {cl : aL} {cr : Nat → Nat → Option Nat} {dy : aM} {nx n ce sl k : Nat} (C : LC E Γ nm) (h : INV ci cl cr dy nx n) (hk : 6 * k + 6 ≤ gL E) (hce : ce + 3 ≤ 601024) (hsl : sl + 62 ≤ 7293034) (K : KK E Γ (ce + 3) (sl + 62) k) : SV E Γ 8 (mm ci cl cr dy) nx ce sl 1545 (LVk k) [] := by
  obtain ⟨hΓ, hSX, hL, hNW, hNX, hX, hXN, htr⟩ := C
  refine sv_aload_n hΓ dL_law_1545 rfl 3 rfl rfl ?_
  refine sv_arg hΓ hSX 1 hk hL (by decide) dL_law_1546 dL_law_1547 dL_law_1549 (by decide) dL_law_1550 dL_law_1551 4 0 rfl rfl rfl ?_
  show SV E Γ 8 _ _ _ _ 1552 (LVk k) [.int (gX E (6 * k + 1)), .ref 1]
  refine sv_callV hΓ (fun l => ct_X11_weight l (gX E (6 * k + 1)) h.sh hNW) wv_L_164 vs_X11_weight rfl m_1 rfl rfl (by decide) (by omega) (by omega) (Nat.le_of_ble_eq_true rfl) dL_law_1552 rfl (fun r M' nx' p1 => ?_)
  obtain ⟨v, rfl, rfl, rfl, hF⟩ := A_weight h p1
  show SV E Γ 8 _ _ _ _ 1555 (LVk k) [.int v]
  refine sv_aload_n hΓ dL_law_1555 rfl 2 rfl rfl ?_
  refine sv_arg hΓ hSX 1 hk hL (by decide) dL_law_1556 dL_law_1557 dL_law_1559 (by decide) dL_law_1560 dL_law_1561 4 0 rfl rfl rfl ?_
  show SV E Γ 8 _ _ _ _ 1562 (LVk k) [.int (gX E (6 * k + 1)), .ref 43, .int v]
  refine sv_callV hΓ (fun l => ct_X12_weight l (gX E (6 * k + 1))) wv_L_167 vs_X12_weight rfl m_43 rfl rfl (by decide) (by omega) (by omega) (Nat.le_of_ble_eq_true rfl) dL_law_1562 rfl (fun r M' nx' p2 => ?_)
  obtain ⟨rfl, ci2, cl2, cr2, dy2, n2, rfl, h2⟩ := hF _ _ _ p2
  show SV E Γ 8 _ _ _ _ 1565 (LVk k) [.int v, .int v]
  refine sv_icmp_eq (tgt := 1595) hΓ dL_law_1565 (by decide) rfl (fun _ => ?_) (fun z => absurd rfl z)
  exact SV_w (by omega) (by omega) (K _ _ _ _ _ _ h2)
theorem law_toss {E : aG} {Γ : aC} {nm : String} {ci : aI} {cl : aL} {cr : Nat → Nat → Option Nat} {dy : aM} {nx n ce sl k : Nat} (C : LC E Γ nm) (h : INV ci cl cr dy nx n) (hk : 6 * k + 6 ≤ gL E) (hce : ce + 3 ≤ 601024) (hsl : sl + 62 ≤ 7293034) (K : KK E Γ (ce + 3) (sl + 62) k) : SV E Γ 8 (mm ci cl cr dy) nx ce sl 1570 (LVk k) [] := by
  obtain ⟨hΓ, hSX, hL, hNW, hNX, hX, hXN, htr⟩ := C
  refine sv_aload_n hΓ dL_law_1570 rfl 3 rfl rfl ?_
  refine sv_arg hΓ hSX 1 hk hL (by decide) dL_law_1571 dL_law_1572 dL_law_1574 (by decide) dL_law_1575 dL_law_1576 4 0 rfl rfl rfl ?_
  show SV E Γ 8 _ _ _ _ 1577 (LVk k) [.int (gX E (6 * k + 1)), .ref 1]
  refine sv_callVX hΓ (cx_X11_toss _ (gX E (6 * k + 1)) h.sh hNW hX hXN htr) wv_L_168 vs_X11_toss rfl m_1 rfl rfl (by decide) (by omega) (by omega) (Nat.le_of_ble_eq_true rfl) dL_law_1577 rfl (fun r M' nx' p1 => ?_) (fun X M' nx' hp => hp.elim)
  obtain ⟨v, rfl, rfl, hx, hF⟩ := A_toss h p1
  show SV E Γ 8 _ _ _ _ 1580 (LVk k) [.int v]
  refine sv_aload_n hΓ dL_law_1580 rfl 2 rfl rfl ?_
  refine sv_arg hΓ hSX 1 hk hL (by decide) dL_law_1581 dL_law_1582 dL_law_1584 (by decide) dL_law_1585 dL_law_1586 4 0 rfl rfl rfl ?_
  show SV E Γ 8 _ _ _ _ 1587 (LVk k) [.int (gX E (6 * k + 1)), .ref 43, .int v]
  refine sv_callV hΓ (fun l => ct_X12_toss l (gX E (6 * k + 1))) wv_L_171 vs_X12_toss rfl m_43 rfl rfl (by decide) (by omega) (by omega) (Nat.le_of_ble_eq_true rfl) dL_law_1587 rfl (fun r M' nx' p2 => ?_)
  obtain ⟨rfl, ci2, cl2, cr2, dy2, n2, rfl, h2⟩ := hF _ _ _ p2
  show SV E Γ 8 _ _ _ _ 1590 (LVk k) [.int v, .int v]
  refine sv_icmp_eq (tgt := 1595) hΓ dL_law_1590 (by decide) rfl (fun _ => ?_) (fun z => absurd rfl z)
  exact SV_w (by omega) (by omega) (K _ _ _ _ _ _ h2)
