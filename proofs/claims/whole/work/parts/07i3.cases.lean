set_option maxRecDepth 100000 in
set_option maxHeartbeats 4000000 in
theorem case_count {p : Program} {l : Launch} {e : Env} {s : State} {m : MethodId} {below : List Frame} {meth : Method} {c : Code} {H : Heap} {locs : List Loc} {cells slots : Nat} {Q9 : State → Prop} {b L : Nat} {xs : Nat → Int32} {D : va_G} {cI cJ cZ : ClassId} {ad am sx : Nat → Nat} {ao : Nat} {z t : SH} {f : Nat → Int64} {ls : Array Slot} {k : Nat} {q : Nat → Nat → Nat} {Q : Nat → List Nat} {n nt B o : Nat} (hl0 : l.stackTraces = false) (F : LF p s m c b L xs D cI cJ cZ ad am sx ao) (w : LW s D cI cJ cZ ad am ao z t f H locs) (R : Rel z t q Q n nt B o) (ho : n ≤ o) (hn : n ≤ k) (hB : B ≤ 1000000 * k) (hk : 8 * k + 8 ≤ L) (hl : lv_has ls 8 (lvL b (ad 0) (am 0) ao (nI (8 * k)))) (hc : cells + 1 ≤ 219 ∧ slots + 6 ≤ 37397)
    (kk : ∀ (z1 t1 : SH) (f1 : Nat → Int64) (H1 : Heap) (locs1 : List Loc) (ls1 : Array Slot) (q1 : Nat → Nat → Nat) (Q1 : Nat → List Nat) (n1 nt1 B1 o1 : Nat), LW s D cI cJ cZ ad am ao z1 t1 f1 H1 locs1 → Rel z1 t1 q1 Q1 n1 nt1 B1 o1 → n1 ≤ o1 → n1 ≤ k + 1 → B1 ≤ 1000000 * (k + 1) → lv_has ls1 8 (lvL b (ad 0) (am 0) ao (nI (8 * k))) → W p l e room_1 s m #[Value.ref b] below meth c H1 locs1 (cells + 1) (slots + 6) Q9 (F0 m 1513 ls1 [])) : W p l e room_1 s m #[Value.ref b] below meth c H locs cells slots Q9 (F0 m 1253 ls []) := by
  have hL := F.2.2.2.2.2.2
  obtain ⟨r, z1, bb, t1, e1, e2, e3, e4⟩ := op_count R ho 20000 (Nat.le_refl _) (xs (8 * k + 1))
  have hx := F.1.1
  have hb := F.1.2.1
  refine lv_aload_n hx hb dL_law_1253 rfl (lv_at hl 2 rfl) ?_
  refine ld_c (j := 1) (k := k) F w.2.2.2 (lv_at hl 1 rfl) (lv_at hl 0 rfl) (by omega) (by decide) dL_law_1254 dL_law_1255 dL_law_1257 dL_law_1258 dL_law_1259 ?_
  refine lv_aload_n hx hb dL_law_1260 rfl (lv_at hl 4 rfl) ?_
  refine L1_w (As := [.ref (ad 0), .int (xs (8 * k + 1)), .ref ao]) (hh := [(0, 9, 12, 15)]) (r := wrI c1 f (r, z1)) F w (fun sz => mL_count l hl0 D cI cJ cZ ad sx ao f (xs (8 * k + 1)) z (r, z1) sz e1 (agr_ne e3)) (vx_cwSW 3 F.1.2.2.2.2 gT_L_count rfl rfl rfl (by decide +kernel) ⟨Nat.le_of_ble_eq_true rfl, Nat.le_of_ble_eq_true rfl⟩) rfl hl hc rfl dL_law_1261 dL_law_1264 (fun H1 locs1 ls1 w hl => ?_)
  rw [wrI_z] at w
  refine lv_aload_n hx hb dL_law_1266 rfl (lv_at hl 4 rfl) ?_
  refine ld_c (j := 1) (k := k) F w.2.2.2 (lv_at hl 2 rfl) (lv_at hl 1 rfl) (by omega) (by decide) dL_law_1267 dL_law_1268 dL_law_1270 dL_law_1271 dL_law_1272 ?_
  refine L2_i (As := [.int (xs (8 * k + 1))]) (rest := []) (callee := fX5_count 20000 (xs (8 * k + 1)) t) (q := (bb, t1)) F w e2 (mX5_count l D cI cJ cZ am 20000 (xs (8 * k + 1)) t) (cwV 1 F.1.2.2.2.2 gT_X5_count rfl rfl rfl (by decide +kernel) ⟨Nat.le_of_ble_eq_true rfl, Nat.le_of_ble_eq_true rfl⟩) rfl hl.1 hc rfl (Nat.le_of_ble_eq_true rfl) dL_law_1273 (fun H1 locs1 w => ?_)
  exact L3_i F w hl (agrI_thr e3) (agrI_val e3) hc dL_law_1276 dL_law_1278 dL_law_1279 dL_law_1282 dL_law_1284 (by decide) dL_law_1289 dL_law_1291 (by decide) dL_law_1294 dL_law_1295 dL_law_1296 dL_law_1297 dL_law_1299 dL_law_1300 dL_law_1301 (by decide) dL_law_1306 (by decide) (fun H1 locs1 ls1 w hl => kk z1 t1 _ H1 locs1 ls1 q Q n nt B o w e4 ho (by omega) (by omega) hl)
set_option maxRecDepth 100000 in
set_option maxHeartbeats 4000000 in
theorem case_trade {p : Program} {l : Launch} {e : Env} {s : State} {m : MethodId} {below : List Frame} {meth : Method} {c : Code} {H : Heap} {locs : List Loc} {cells slots : Nat} {Q9 : State → Prop} {b L : Nat} {xs : Nat → Int32} {D : va_G} {cI cJ cZ : ClassId} {ad am sx : Nat → Nat} {ao : Nat} {z t : SH} {f : Nat → Int64} {ls : Array Slot} {k : Nat} {q : Nat → Nat → Nat} {Q : Nat → List Nat} {n nt B o : Nat} (hl0 : l.stackTraces = false) (F : LF p s m c b L xs D cI cJ cZ ad am sx ao) (w : LW s D cI cJ cZ ad am ao z t f H locs) (R : Rel z t q Q n nt B o) (ho : n ≤ o) (hn : n ≤ k) (hB : B ≤ 1000000 * k) (hk : 8 * k + 8 ≤ L) (hl : lv_has ls 8 (lvL b (ad 0) (am 0) ao (nI (8 * k)))) (hc : cells + 1 ≤ 219 ∧ slots + 6 ≤ 37397)
    (kk : ∀ (z1 t1 : SH) (f1 : Nat → Int64) (H1 : Heap) (locs1 : List Loc) (ls1 : Array Slot) (q1 : Nat → Nat → Nat) (Q1 : Nat → List Nat) (n1 nt1 B1 o1 : Nat), LW s D cI cJ cZ ad am ao z1 t1 f1 H1 locs1 → Rel z1 t1 q1 Q1 n1 nt1 B1 o1 → n1 ≤ o1 → n1 ≤ k + 1 → B1 ≤ 1000000 * (k + 1) → lv_has ls1 8 (lvL b (ad 0) (am 0) ao (nI (8 * k))) → W p l e room_1 s m #[Value.ref b] below meth c H1 locs1 (cells + 1) (slots + 6) Q9 (F0 m 1513 ls1 [])) : W p l e room_1 s m #[Value.ref b] below meth c H locs cells slots Q9 (F0 m 1309 ls []) := by
  have hL := F.2.2.2.2.2.2
  obtain ⟨r, z1, bb, t1, e1, e2, e3, e4⟩ := op_trade R (xs (8 * k + 1)) (xs (8 * k + 2))
  have hx := F.1.1
  have hb := F.1.2.1
  refine lv_aload_n hx hb dL_law_1309 rfl (lv_at hl 2 rfl) ?_
  refine ld_c (j := 1) (k := k) F w.2.2.2 (lv_at hl 1 rfl) (lv_at hl 0 rfl) (by omega) (by decide) dL_law_1310 dL_law_1311 dL_law_1313 dL_law_1314 dL_law_1315 ?_
  refine ld_c (j := 2) (k := k) F w.2.2.2 (lv_at hl 1 rfl) (lv_at hl 0 rfl) (by omega) (by decide) dL_law_1316 dL_law_1317 dL_law_1319 dL_law_1320 dL_law_1321 ?_
  refine lv_aload_n hx hb dL_law_1322 rfl (lv_at hl 4 rfl) ?_
  refine L1_w (As := [.ref (ad 0), .int (xs (8 * k + 1)), .int (xs (8 * k + 2)), .ref ao]) (hh := [(0, 10, 13, 13), (0, 10, 17, 15)]) (r := wrI c2 f (r, z1)) F w (fun sz => mL_trade l hl0 D cI cJ cZ ad sx ao f (xs (8 * k + 1)) (xs (8 * k + 2)) z (r, z1) sz e1 (agr_ne e3)) (vx_cwSW 4 F.1.2.2.2.2 gT_L_trade rfl rfl rfl (by decide +kernel) ⟨Nat.le_of_ble_eq_true rfl, Nat.le_of_ble_eq_true rfl⟩) rfl hl hc rfl dL_law_1323 dL_law_1326 (fun H1 locs1 ls1 w hl => ?_)
  rw [wrI_z] at w
  refine lv_aload_n hx hb dL_law_1328 rfl (lv_at hl 4 rfl) ?_
  refine ld_c (j := 1) (k := k) F w.2.2.2 (lv_at hl 2 rfl) (lv_at hl 1 rfl) (by omega) (by decide) dL_law_1329 dL_law_1330 dL_law_1332 dL_law_1333 dL_law_1334 ?_
  refine ld_c (j := 2) (k := k) F w.2.2.2 (lv_at hl 2 rfl) (lv_at hl 1 rfl) (by omega) (by decide) dL_law_1335 dL_law_1336 dL_law_1338 dL_law_1339 dL_law_1340 ?_
  refine L2_i (As := [.int (xs (8 * k + 1)), .int (xs (8 * k + 2))]) (rest := []) (callee := fX5_trade (xs (8 * k + 1)) (xs (8 * k + 2)) t) (q := (bb, t1)) F w e2 (mX5_trade l D cI cJ cZ am (xs (8 * k + 1)) (xs (8 * k + 2)) t) (cwV 2 F.1.2.2.2.2 gT_X5_trade rfl rfl rfl (by decide +kernel) ⟨Nat.le_of_ble_eq_true rfl, Nat.le_of_ble_eq_true rfl⟩) rfl hl.1 hc rfl (Nat.le_of_ble_eq_true rfl) dL_law_1341 (fun H1 locs1 w => ?_)
  exact L3_i F w hl (agrI_thr e3) (agrI_val e3) hc dL_law_1344 dL_law_1346 dL_law_1347 dL_law_1350 dL_law_1352 (by decide) dL_law_1357 dL_law_1359 (by decide) dL_law_1362 dL_law_1363 dL_law_1364 dL_law_1365 dL_law_1367 dL_law_1368 dL_law_1369 (by decide) dL_law_1374 (by decide) (fun H1 locs1 ls1 w hl => kk z1 t1 _ H1 locs1 ls1 q Q n nt B o w e4 ho (by omega) (by omega) hl)
set_option maxRecDepth 100000 in
set_option maxHeartbeats 4000000 in
theorem case_symbol {p : Program} {l : Launch} {e : Env} {s : State} {m : MethodId} {below : List Frame} {meth : Method} {c : Code} {H : Heap} {locs : List Loc} {cells slots : Nat} {Q9 : State → Prop} {b L : Nat} {xs : Nat → Int32} {D : va_G} {cI cJ cZ : ClassId} {ad am sx : Nat → Nat} {ao : Nat} {z t : SH} {f : Nat → Int64} {ls : Array Slot} {k : Nat} {q : Nat → Nat → Nat} {Q : Nat → List Nat} {n nt B o : Nat} (hl0 : l.stackTraces = false) (F : LF p s m c b L xs D cI cJ cZ ad am sx ao) (w : LW s D cI cJ cZ ad am ao z t f H locs) (R : Rel z t q Q n nt B o) (ho : n ≤ o) (hn : n ≤ k) (hB : B ≤ 1000000 * k) (hk : 8 * k + 8 ≤ L) (hl : lv_has ls 8 (lvL b (ad 0) (am 0) ao (nI (8 * k)))) (hc : cells + 1 ≤ 219 ∧ slots + 6 ≤ 37397)
    (kk : ∀ (z1 t1 : SH) (f1 : Nat → Int64) (H1 : Heap) (locs1 : List Loc) (ls1 : Array Slot) (q1 : Nat → Nat → Nat) (Q1 : Nat → List Nat) (n1 nt1 B1 o1 : Nat), LW s D cI cJ cZ ad am ao z1 t1 f1 H1 locs1 → Rel z1 t1 q1 Q1 n1 nt1 B1 o1 → n1 ≤ o1 → n1 ≤ k + 1 → B1 ≤ 1000000 * (k + 1) → lv_has ls1 8 (lvL b (ad 0) (am 0) ao (nI (8 * k))) → W p l e room_1 s m #[Value.ref b] below meth c H1 locs1 (cells + 1) (slots + 6) Q9 (F0 m 1513 ls1 [])) : W p l e room_1 s m #[Value.ref b] below meth c H locs cells slots Q9 (F0 m 1377 ls []) := by
  have hL := F.2.2.2.2.2.2
  obtain ⟨r, z1, bb, t1, e1, e2, e3, e4⟩ := op_symbol R (xs (8 * k + 1)) (xs (8 * k + 2))
  have hx := F.1.1
  have hb := F.1.2.1
  refine lv_aload_n hx hb dL_law_1377 rfl (lv_at hl 2 rfl) ?_
  refine ld_c (j := 1) (k := k) F w.2.2.2 (lv_at hl 1 rfl) (lv_at hl 0 rfl) (by omega) (by decide) dL_law_1378 dL_law_1379 dL_law_1381 dL_law_1382 dL_law_1383 ?_
  refine ld_c (j := 2) (k := k) F w.2.2.2 (lv_at hl 1 rfl) (lv_at hl 0 rfl) (by omega) (by decide) dL_law_1384 dL_law_1385 dL_law_1387 dL_law_1388 dL_law_1389 ?_
  refine lv_aload_n hx hb dL_law_1390 rfl (lv_at hl 4 rfl) ?_
  refine L1_w (As := [.ref (ad 0), .int (xs (8 * k + 1)), .int (xs (8 * k + 2)), .ref ao]) (hh := [(0, 10, 13, 13), (0, 10, 17, 15)]) (r := wrI c2 f (r, z1)) F w (fun sz => mL_symbol l hl0 D cI cJ cZ ad sx ao f (xs (8 * k + 1)) (xs (8 * k + 2)) z (r, z1) sz e1 (agr_ne e3)) (vx_cwSW 4 F.1.2.2.2.2 gT_L_symbol rfl rfl rfl (by decide +kernel) ⟨Nat.le_of_ble_eq_true rfl, Nat.le_of_ble_eq_true rfl⟩) rfl hl hc rfl dL_law_1391 dL_law_1394 (fun H1 locs1 ls1 w hl => ?_)
  rw [wrI_z] at w
  refine lv_aload_n hx hb dL_law_1396 rfl (lv_at hl 4 rfl) ?_
  refine ld_c (j := 1) (k := k) F w.2.2.2 (lv_at hl 2 rfl) (lv_at hl 1 rfl) (by omega) (by decide) dL_law_1397 dL_law_1398 dL_law_1400 dL_law_1401 dL_law_1402 ?_
  refine ld_c (j := 2) (k := k) F w.2.2.2 (lv_at hl 2 rfl) (lv_at hl 1 rfl) (by omega) (by decide) dL_law_1403 dL_law_1404 dL_law_1406 dL_law_1407 dL_law_1408 ?_
  refine L2_i (As := [.int (xs (8 * k + 1)), .int (xs (8 * k + 2))]) (rest := []) (callee := fX5_symbol (xs (8 * k + 1)) (xs (8 * k + 2)) t) (q := (bb, t1)) F w e2 (mX5_symbol l D cI cJ cZ am (xs (8 * k + 1)) (xs (8 * k + 2)) t) (cwV 2 F.1.2.2.2.2 gT_X5_symbol rfl rfl rfl (by decide +kernel) ⟨Nat.le_of_ble_eq_true rfl, Nat.le_of_ble_eq_true rfl⟩) rfl hl.1 hc rfl (Nat.le_of_ble_eq_true rfl) dL_law_1409 (fun H1 locs1 w => ?_)
  exact L3_i F w hl (agrI_thr e3) (agrI_val e3) hc dL_law_1412 dL_law_1414 dL_law_1415 dL_law_1418 dL_law_1420 (by decide) dL_law_1425 dL_law_1427 (by decide) dL_law_1430 dL_law_1431 dL_law_1432 dL_law_1433 dL_law_1435 dL_law_1436 dL_law_1437 (by decide) dL_law_1442 (by decide) (fun H1 locs1 ls1 w hl => kk z1 t1 _ H1 locs1 ls1 q Q n nt B o w e4 ho (by omega) (by omega) hl)
set_option maxRecDepth 100000 in
set_option maxHeartbeats 4000000 in
theorem case_busiest {p : Program} {l : Launch} {e : Env} {s : State} {m : MethodId} {below : List Frame} {meth : Method} {c : Code} {H : Heap} {locs : List Loc} {cells slots : Nat} {Q9 : State → Prop} {b L : Nat} {xs : Nat → Int32} {D : va_G} {cI cJ cZ : ClassId} {ad am sx : Nat → Nat} {ao : Nat} {z t : SH} {f : Nat → Int64} {ls : Array Slot} {k : Nat} {q : Nat → Nat → Nat} {Q : Nat → List Nat} {n nt B o : Nat} (hl0 : l.stackTraces = false) (F : LF p s m c b L xs D cI cJ cZ ad am sx ao) (w : LW s D cI cJ cZ ad am ao z t f H locs) (R : Rel z t q Q n nt B o) (ho : n ≤ o) (hn : n ≤ k) (hB : B ≤ 1000000 * k) (hk : 8 * k + 8 ≤ L) (hl : lv_has ls 8 (lvL b (ad 0) (am 0) ao (nI (8 * k)))) (hc : cells + 1 ≤ 219 ∧ slots + 6 ≤ 37397)
    (kk : ∀ (z1 t1 : SH) (f1 : Nat → Int64) (H1 : Heap) (locs1 : List Loc) (ls1 : Array Slot) (q1 : Nat → Nat → Nat) (Q1 : Nat → List Nat) (n1 nt1 B1 o1 : Nat), LW s D cI cJ cZ ad am ao z1 t1 f1 H1 locs1 → Rel z1 t1 q1 Q1 n1 nt1 B1 o1 → n1 ≤ o1 → n1 ≤ k + 1 → B1 ≤ 1000000 * (k + 1) → lv_has ls1 8 (lvL b (ad 0) (am 0) ao (nI (8 * k))) → W p l e room_1 s m #[Value.ref b] below meth c H1 locs1 (cells + 1) (slots + 6) Q9 (F0 m 1513 ls1 [])) : W p l e room_1 s m #[Value.ref b] below meth c H locs cells slots Q9 (F0 m 1445 ls []) := by
  have hL := F.2.2.2.2.2.2
  obtain ⟨r, z1, bb, t1, e1, e2, e3, e4⟩ := op_busiest 20000 (Nat.le_refl _) R (xs (8 * k + 1)) (xs (8 * k + 2))
  have hx := F.1.1
  have hb := F.1.2.1
  refine lv_aload_n hx hb dL_law_1445 rfl (lv_at hl 2 rfl) ?_
  refine ld_c (j := 1) (k := k) F w.2.2.2 (lv_at hl 1 rfl) (lv_at hl 0 rfl) (by omega) (by decide) dL_law_1446 dL_law_1447 dL_law_1449 dL_law_1450 dL_law_1451 ?_
  refine ld_c (j := 2) (k := k) F w.2.2.2 (lv_at hl 1 rfl) (lv_at hl 0 rfl) (by omega) (by decide) dL_law_1452 dL_law_1453 dL_law_1455 dL_law_1456 dL_law_1457 ?_
  refine lv_aload_n hx hb dL_law_1458 rfl (lv_at hl 4 rfl) ?_
  refine L1_w (As := [.ref (ad 0), .int (xs (8 * k + 1)), .int (xs (8 * k + 2)), .ref ao]) (hh := [(0, 10, 13, 13)]) (r := wrI cY f (r, z1)) F w (fun sz => mL_busiest l hl0 D cI cJ cZ ad sx ao f 20000 (xs (8 * k + 1)) (xs (8 * k + 2)) z (r, z1) sz e1 (agr_ne e3)) (vx_cwSW 4 F.1.2.2.2.2 gT_L_busiest rfl rfl rfl (by decide +kernel) ⟨Nat.le_of_ble_eq_true rfl, Nat.le_of_ble_eq_true rfl⟩) rfl hl hc rfl dL_law_1459 dL_law_1462 (fun H1 locs1 ls1 w hl => ?_)
  rw [wrI_z] at w
  refine lv_aload_n hx hb dL_law_1464 rfl (lv_at hl 4 rfl) ?_
  refine ld_c (j := 1) (k := k) F w.2.2.2 (lv_at hl 2 rfl) (lv_at hl 1 rfl) (by omega) (by decide) dL_law_1465 dL_law_1466 dL_law_1468 dL_law_1469 dL_law_1470 ?_
  refine ld_c (j := 2) (k := k) F w.2.2.2 (lv_at hl 2 rfl) (lv_at hl 1 rfl) (by omega) (by decide) dL_law_1471 dL_law_1472 dL_law_1474 dL_law_1475 dL_law_1476 ?_
  refine L2_i (As := [.int (xs (8 * k + 1)), .int (xs (8 * k + 2))]) (rest := []) (callee := fX5_busiest 20000 (xs (8 * k + 1)) (xs (8 * k + 2)) t) (q := (bb, t1)) F w e2 (mX5_busiest l D cI cJ cZ am 20000 (xs (8 * k + 1)) (xs (8 * k + 2)) t) (cwV 2 F.1.2.2.2.2 gT_X5_busiest rfl rfl rfl (by decide +kernel) ⟨Nat.le_of_ble_eq_true rfl, Nat.le_of_ble_eq_true rfl⟩) rfl hl.1 hc rfl (Nat.le_of_ble_eq_true rfl) dL_law_1477 (fun H1 locs1 w => ?_)
  exact L3_i F w hl (agrI_thr e3) (agrI_val e3) hc dL_law_1480 dL_law_1482 dL_law_1483 dL_law_1486 dL_law_1488 (by decide) dL_law_1493 dL_law_1495 (by decide) dL_law_1498 dL_law_1499 dL_law_1500 dL_law_1501 dL_law_1503 dL_law_1504 dL_law_1505 (by decide) dL_law_1510 (by decide) (fun H1 locs1 ls1 w hl => kk z1 t1 _ H1 locs1 ls1 q Q n nt B o w e4 ho (by omega) (by omega) hl)
