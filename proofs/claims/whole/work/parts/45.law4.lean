/-! the law: cases -/
set_option maxRecDepth 20000 in
set_option maxHeartbeats 1000000 in
theorem lc_region {p : Program} {l : Launch} {e : Env} {s : State} {m : MethodId} {below : List Frame} {meth : Method} {c : Code} {Q : State → Prop} {D : va_G} {cA : Nat → ClassId} {b L : Nat} {xs : Nat → Int32} (hE : LE p s m c b L xs D cA) {ad : Nat → Nat} (hD : xD (fun q => s.heap.size ≤ q) 68 ad) {S : xSt} {M : MO} {en : Nat → va_E} {H : Heap} {locs : List Loc} (hC : CW cA ad en S) (hM : MW cA ad en M) (hR : MR S M) (hP : va_P D vwCl (xw 68 ad en) H) (hS : va_S (fun q => s.heap.size ≤ q) s.heap H locs) {i : Int} (hi : 0 ≤ i ∧ i + 6 ≤ L ∧ L ≤ 3072) {ls : Array Slot} (hl : lv_has ls 4 [(0, .ref b), (1, .ref (ad 0)), (2, .ref (ad 53)), (3, .int (xI i))])
    (kk : ∀ (S1 : xSt) (M1 : MO) (en1 : Nat → va_E) (H1 : Heap) (locs1 : List Loc), CW cA ad en1 S1 → MW cA ad en1 M1 → MR S1 M1 → va_P D vwCl (xw 68 ad en1) H1 → va_S (fun q => s.heap.size ≤ q) s.heap H1 locs1 → W p l e room_1 s m #[Value.ref b] below meth c H1 locs1 68 8593 Q (F0 m 2030 ls [])) : W p l e room_1 s m #[Value.ref b] below meth c H locs 68 8593 Q (F0 m 1339 ls []) := by
  obtain ⟨hx, hb, hml, hown, hts, hX, hbl, hK, hN, hZ⟩ := hE
  have hA : ∀ q : Nat, s.heap.size ≤ q → (fun q : Nat => s.heap.size ≤ q) q := fun _ h => h
  have hbA : ¬ (fun q : Nat => s.heap.size ≤ q) b := Nat.not_le.mpr hbl
  have hW : WF S := hC.wf
  obtain ⟨z1, hz1, hr1⟩ := x_scr (xs ((xI (i + 1)).toNatClampNeg))
  obtain ⟨z2, hz2, hr2⟩ := x_scr (xs ((xI (i + 2)).toNatClampNeg))
  obtain ⟨z3, hz3, hr3⟩ := x_scr (xs ((xI (i + 3)).toNatClampNeg))
  obtain ⟨z4, hz4, hr4⟩ := x_scr (xs ((xI (i + 4)).toNatClampNeg))
  obtain ⟨z5, hz5, hr5⟩ := x_scr (xs ((xI (i + 5)).toNatClampNeg))
  refine lv_aload_n hx hb dL_law_1339 rfl (lv_at hl 1 rfl) ?_
  refine lv_aload_n hx hb dL_law_1340 rfl (lv_at hl 0 rfl) ?_
  refine lv_iload_n hx hb dL_law_1341 rfl (lv_at hl 3 rfl) ?_
  refine x_iconst hx hb dL_law_1342 ?_
  refine x_iadd hx hb dL_law_1343 ?_
  refine va_sld hx hb hX hbl hbA hS (xI_in (by omega)) dL_law_1344 ?_
  refine x_toi z1 hz1 ?_
  refine lv_aload_n hx hb dL_law_1345 rfl (lv_at hl 0 rfl) ?_
  refine lv_iload_n hx hb dL_law_1346 rfl (lv_at hl 3 rfl) ?_
  refine x_iconst hx hb dL_law_1347 ?_
  refine x_iadd hx hb dL_law_1348 ?_
  refine va_sld hx hb hX hbl hbA hS (xI_in (by omega)) dL_law_1349 ?_
  refine x_toi z2 hz2 ?_
  refine lv_aload_n hx hb dL_law_1350 rfl (lv_at hl 0 rfl) ?_
  refine lv_iload_n hx hb dL_law_1351 rfl (lv_at hl 3 rfl) ?_
  refine x_iconst hx hb dL_law_1352 ?_
  refine x_iadd hx hb dL_law_1353 ?_
  refine va_sld hx hb hX hbl hbA hS (xI_in (by omega)) dL_law_1354 ?_
  refine x_toi z3 hz3 ?_
  refine lv_aload_n hx hb dL_law_1355 rfl (lv_at hl 0 rfl) ?_
  refine lv_iload_n hx hb dL_law_1356 rfl (lv_at hl 3 rfl) ?_
  refine x_iconst hx hb dL_law_1357 ?_
  refine x_iadd hx hb dL_law_1358 ?_
  refine va_sld hx hb hX hbl hbA hS (xI_in (by omega)) dL_law_1359 ?_
  refine x_toi z4 hz4 ?_
  refine lv_aload_n hx hb dL_law_1360 rfl (lv_at hl 0 rfl) ?_
  refine lv_iload_n hx hb dL_law_1361 rfl (lv_at hl 3 rfl) ?_
  refine x_iconst hx hb dL_law_1362 ?_
  refine x_iadd hx hb dL_law_1363 ?_
  refine va_sld hx hb hX hbl hbA hS (xI_in (by omega)) dL_law_1364 ?_
  refine x_toi z5 hz5 ?_
  refine xv_i (i := 0) (As := [.int (xI z1), .int (xI z2), .int (xI z3), .int (xI z4), .int (xI z5)]) (rest := []) ⟨hx, hb, hml, hown, hts⟩ hl.1 (c_X4_region l D cA 68 ad en (by omega) hC z1 hr1 z2 hr2 z3 hr3 z4 hr4 z5 hr5) k_X4_region u_ml_RL_130 hK hN hP (by omega) hC.1 rfl rfl rfl rfl (Nat.le_of_ble_eq_true rfl) ⟨Nat.le_of_ble_eq_true rfl, Nat.le_of_ble_eq_true rfl⟩ ⟨Nat.le_of_ble_eq_true rfl, Nat.le_of_ble_eq_true rfl⟩ dL_law_1365 ?_
  obtain ⟨r1, ha1⟩ : ∃ z, z = xI (am_region S z1 z2 z3 z4 z5) := ⟨_, rfl⟩
  rw [← ha1]
  refine lv_aload_n hx hb dL_law_1368 rfl (lv_at hl 2 rfl) ?_
  refine lv_aload_n hx hb dL_law_1369 rfl (lv_at hl 0 rfl) ?_
  refine lv_iload_n hx hb dL_law_1370 rfl (lv_at hl 3 rfl) ?_
  refine x_iconst hx hb dL_law_1371 ?_
  refine x_iadd hx hb dL_law_1372 ?_
  refine va_sld hx hb hX hbl hbA hS (xI_in (by omega)) dL_law_1373 ?_
  refine x_toi z1 hz1 ?_
  refine lv_aload_n hx hb dL_law_1374 rfl (lv_at hl 0 rfl) ?_
  refine lv_iload_n hx hb dL_law_1375 rfl (lv_at hl 3 rfl) ?_
  refine x_iconst hx hb dL_law_1376 ?_
  refine x_iadd hx hb dL_law_1377 ?_
  refine va_sld hx hb hX hbl hbA hS (xI_in (by omega)) dL_law_1378 ?_
  refine x_toi z2 hz2 ?_
  refine lv_aload_n hx hb dL_law_1379 rfl (lv_at hl 0 rfl) ?_
  refine lv_iload_n hx hb dL_law_1380 rfl (lv_at hl 3 rfl) ?_
  refine x_iconst hx hb dL_law_1381 ?_
  refine x_iadd hx hb dL_law_1382 ?_
  refine va_sld hx hb hX hbl hbA hS (xI_in (by omega)) dL_law_1383 ?_
  refine x_toi z3 hz3 ?_
  refine lv_aload_n hx hb dL_law_1384 rfl (lv_at hl 0 rfl) ?_
  refine lv_iload_n hx hb dL_law_1385 rfl (lv_at hl 3 rfl) ?_
  refine x_iconst hx hb dL_law_1386 ?_
  refine x_iadd hx hb dL_law_1387 ?_
  refine va_sld hx hb hX hbl hbA hS (xI_in (by omega)) dL_law_1388 ?_
  refine x_toi z4 hz4 ?_
  refine lv_aload_n hx hb dL_law_1389 rfl (lv_at hl 0 rfl) ?_
  refine lv_iload_n hx hb dL_law_1390 rfl (lv_at hl 3 rfl) ?_
  refine x_iconst hx hb dL_law_1391 ?_
  refine x_iadd hx hb dL_law_1392 ?_
  refine va_sld hx hb hX hbl hbA hS (xI_in (by omega)) dL_law_1393 ?_
  refine x_toi z5 hz5 ?_
  refine xv_i (i := 53) (As := [.int (xI z1), .int (xI z2), .int (xI z3), .int (xI z4), .int (xI z5)]) (rest := [.int r1]) ⟨hx, hb, hml, hown, hts⟩ hl.1 (c_X5_region l D cA 68 ad en (by omega) hM hW hR z1 hr1 z2 hr2 z3 hr3 z4 hr4 z5 hr5) k_X5_region u_ml_RL_133 hK hN hP (by omega) hM.1 rfl rfl rfl rfl (Nat.le_of_ble_eq_true rfl) ⟨Nat.le_of_ble_eq_true rfl, Nat.le_of_ble_eq_true rfl⟩ ⟨Nat.le_of_ble_eq_true rfl, Nat.le_of_ble_eq_true rfl⟩ dL_law_1394 ?_
  obtain ⟨r2, ha2⟩ : ∃ z, z = xI (am_region S z1 z2 z3 z4 z5) := ⟨_, rfl⟩
  rw [← ha2]
  exact lv_icmp_eq hx hb (tgt := 2030) dL_law_1397 (by decide) (fun _ => kk _ _ _ _ _ hC hM hR hP hS) (fun q => absurd (ha1.trans ha2.symm) q)

set_option maxRecDepth 20000 in
set_option maxHeartbeats 1000000 in
theorem lc_order {p : Program} {l : Launch} {e : Env} {s : State} {m : MethodId} {below : List Frame} {meth : Method} {c : Code} {Q : State → Prop} {D : va_G} {cA : Nat → ClassId} {b L : Nat} {xs : Nat → Int32} (hE : LE p s m c b L xs D cA) {ad : Nat → Nat} (hD : xD (fun q => s.heap.size ≤ q) 68 ad) {S : xSt} {M : MO} {en : Nat → va_E} {H : Heap} {locs : List Loc} (hC : CW cA ad en S) (hM : MW cA ad en M) (hR : MR S M) (hP : va_P D vwCl (xw 68 ad en) H) (hS : va_S (fun q => s.heap.size ≤ q) s.heap H locs) {i : Int} (hi : 0 ≤ i ∧ i + 6 ≤ L ∧ L ≤ 3072) {ls : Array Slot} (hl : lv_has ls 4 [(0, .ref b), (1, .ref (ad 0)), (2, .ref (ad 53)), (3, .int (xI i))])
    (kk : ∀ (S1 : xSt) (M1 : MO) (en1 : Nat → va_E) (H1 : Heap) (locs1 : List Loc), CW cA ad en1 S1 → MW cA ad en1 M1 → MR S1 M1 → va_P D vwCl (xw 68 ad en1) H1 → va_S (fun q => s.heap.size ≤ q) s.heap H1 locs1 → W p l e room_1 s m #[Value.ref b] below meth c H1 locs1 68 8593 Q (F0 m 2030 ls [])) : W p l e room_1 s m #[Value.ref b] below meth c H locs 68 8593 Q (F0 m 1402 ls []) := by
  obtain ⟨hx, hb, hml, hown, hts, hX, hbl, hK, hN, hZ⟩ := hE
  have hA : ∀ q : Nat, s.heap.size ≤ q → (fun q : Nat => s.heap.size ≤ q) q := fun _ h => h
  have hbA : ¬ (fun q : Nat => s.heap.size ≤ q) b := Nat.not_le.mpr hbl
  have hW : WF S := hC.wf
  obtain ⟨z1, hz1, hr1⟩ := x_scr (xs ((xI (i + 1)).toNatClampNeg))
  obtain ⟨z2, hz2, hr2⟩ := x_scr (xs ((xI (i + 2)).toNatClampNeg))
  obtain ⟨z3, hz3, hr3⟩ := x_scr (xs ((xI (i + 3)).toNatClampNeg))
  obtain ⟨z4, hz4, hr4⟩ := x_scr (xs ((xI (i + 4)).toNatClampNeg))
  obtain ⟨z5, hz5, hr5⟩ := x_scr (xs ((xI (i + 5)).toNatClampNeg))
  refine lv_aload_n hx hb dL_law_1402 rfl (lv_at hl 1 rfl) ?_
  refine lv_aload_n hx hb dL_law_1403 rfl (lv_at hl 0 rfl) ?_
  refine lv_iload_n hx hb dL_law_1404 rfl (lv_at hl 3 rfl) ?_
  refine x_iconst hx hb dL_law_1405 ?_
  refine x_iadd hx hb dL_law_1406 ?_
  refine va_sld hx hb hX hbl hbA hS (xI_in (by omega)) dL_law_1407 ?_
  refine x_toi z1 hz1 ?_
  refine lv_aload_n hx hb dL_law_1408 rfl (lv_at hl 0 rfl) ?_
  refine lv_iload_n hx hb dL_law_1409 rfl (lv_at hl 3 rfl) ?_
  refine x_iconst hx hb dL_law_1410 ?_
  refine x_iadd hx hb dL_law_1411 ?_
  refine va_sld hx hb hX hbl hbA hS (xI_in (by omega)) dL_law_1412 ?_
  refine x_toi z2 hz2 ?_
  refine xv_i (i := 0) (As := [.int (xI z1), .int (xI z2)]) (rest := []) ⟨hx, hb, hml, hown, hts⟩ hl.1 (c_X4_order l D cA 68 ad en (by omega) hC z1 hr1 z2 hr2) k_X4_order u_ml_RL_134 hK hN hP (by omega) hC.1 rfl rfl rfl rfl (Nat.le_of_ble_eq_true rfl) ⟨Nat.le_of_ble_eq_true rfl, Nat.le_of_ble_eq_true rfl⟩ ⟨Nat.le_of_ble_eq_true rfl, Nat.le_of_ble_eq_true rfl⟩ dL_law_1413 ?_
  obtain ⟨r1, ha1⟩ : ∃ z, z = xI (am_order S z1 z2) := ⟨_, rfl⟩
  rw [← ha1]
  refine lv_aload_n hx hb dL_law_1416 rfl (lv_at hl 2 rfl) ?_
  refine lv_aload_n hx hb dL_law_1417 rfl (lv_at hl 0 rfl) ?_
  refine lv_iload_n hx hb dL_law_1418 rfl (lv_at hl 3 rfl) ?_
  refine x_iconst hx hb dL_law_1419 ?_
  refine x_iadd hx hb dL_law_1420 ?_
  refine va_sld hx hb hX hbl hbA hS (xI_in (by omega)) dL_law_1421 ?_
  refine x_toi z1 hz1 ?_
  refine lv_aload_n hx hb dL_law_1422 rfl (lv_at hl 0 rfl) ?_
  refine lv_iload_n hx hb dL_law_1423 rfl (lv_at hl 3 rfl) ?_
  refine x_iconst hx hb dL_law_1424 ?_
  refine x_iadd hx hb dL_law_1425 ?_
  refine va_sld hx hb hX hbl hbA hS (xI_in (by omega)) dL_law_1426 ?_
  refine x_toi z2 hz2 ?_
  refine xv_i (i := 53) (As := [.int (xI z1), .int (xI z2)]) (rest := [.int r1]) ⟨hx, hb, hml, hown, hts⟩ hl.1 (c_X5_order l D cA 68 ad en (by omega) hM hW hR z1 hr1 z2 hr2) k_X5_order u_ml_RL_137 hK hN hP (by omega) hM.1 rfl rfl rfl rfl (Nat.le_of_ble_eq_true rfl) ⟨Nat.le_of_ble_eq_true rfl, Nat.le_of_ble_eq_true rfl⟩ ⟨Nat.le_of_ble_eq_true rfl, Nat.le_of_ble_eq_true rfl⟩ dL_law_1427 ?_
  obtain ⟨r2, ha2⟩ : ∃ z, z = xI (am_order S z1 z2) := ⟨_, rfl⟩
  rw [← ha2]
  exact lv_icmp_eq hx hb (tgt := 2030) dL_law_1430 (by decide) (fun _ => kk _ _ _ _ _ hC hM hR hP hS) (fun q => absurd (ha1.trans ha2.symm) q)

set_option maxRecDepth 20000 in
set_option maxHeartbeats 1000000 in
theorem lc_begins {p : Program} {l : Launch} {e : Env} {s : State} {m : MethodId} {below : List Frame} {meth : Method} {c : Code} {Q : State → Prop} {D : va_G} {cA : Nat → ClassId} {b L : Nat} {xs : Nat → Int32} (hE : LE p s m c b L xs D cA) {ad : Nat → Nat} (hD : xD (fun q => s.heap.size ≤ q) 68 ad) {S : xSt} {M : MO} {en : Nat → va_E} {H : Heap} {locs : List Loc} (hC : CW cA ad en S) (hM : MW cA ad en M) (hR : MR S M) (hP : va_P D vwCl (xw 68 ad en) H) (hS : va_S (fun q => s.heap.size ≤ q) s.heap H locs) {i : Int} (hi : 0 ≤ i ∧ i + 6 ≤ L ∧ L ≤ 3072) {ls : Array Slot} (hl : lv_has ls 4 [(0, .ref b), (1, .ref (ad 0)), (2, .ref (ad 53)), (3, .int (xI i))])
    (kk : ∀ (S1 : xSt) (M1 : MO) (en1 : Nat → va_E) (H1 : Heap) (locs1 : List Loc), CW cA ad en1 S1 → MW cA ad en1 M1 → MR S1 M1 → va_P D vwCl (xw 68 ad en1) H1 → va_S (fun q => s.heap.size ≤ q) s.heap H1 locs1 → W p l e room_1 s m #[Value.ref b] below meth c H1 locs1 68 8593 Q (F0 m 2030 ls [])) : W p l e room_1 s m #[Value.ref b] below meth c H locs 68 8593 Q (F0 m 1435 ls []) := by
  obtain ⟨hx, hb, hml, hown, hts, hX, hbl, hK, hN, hZ⟩ := hE
  have hA : ∀ q : Nat, s.heap.size ≤ q → (fun q : Nat => s.heap.size ≤ q) q := fun _ h => h
  have hbA : ¬ (fun q : Nat => s.heap.size ≤ q) b := Nat.not_le.mpr hbl
  have hW : WF S := hC.wf
  obtain ⟨z1, hz1, hr1⟩ := x_scr (xs ((xI (i + 1)).toNatClampNeg))
  obtain ⟨z2, hz2, hr2⟩ := x_scr (xs ((xI (i + 2)).toNatClampNeg))
  obtain ⟨z3, hz3, hr3⟩ := x_scr (xs ((xI (i + 3)).toNatClampNeg))
  obtain ⟨z4, hz4, hr4⟩ := x_scr (xs ((xI (i + 4)).toNatClampNeg))
  obtain ⟨z5, hz5, hr5⟩ := x_scr (xs ((xI (i + 5)).toNatClampNeg))
  refine lv_aload_n hx hb dL_law_1435 rfl (lv_at hl 1 rfl) ?_
  refine lv_aload_n hx hb dL_law_1436 rfl (lv_at hl 0 rfl) ?_
  refine lv_iload_n hx hb dL_law_1437 rfl (lv_at hl 3 rfl) ?_
  refine x_iconst hx hb dL_law_1438 ?_
  refine x_iadd hx hb dL_law_1439 ?_
  refine va_sld hx hb hX hbl hbA hS (xI_in (by omega)) dL_law_1440 ?_
  refine x_toi z1 hz1 ?_
  refine lv_aload_n hx hb dL_law_1441 rfl (lv_at hl 0 rfl) ?_
  refine lv_iload_n hx hb dL_law_1442 rfl (lv_at hl 3 rfl) ?_
  refine x_iconst hx hb dL_law_1443 ?_
  refine x_iadd hx hb dL_law_1444 ?_
  refine va_sld hx hb hX hbl hbA hS (xI_in (by omega)) dL_law_1445 ?_
  refine x_toi z2 hz2 ?_
  refine lv_aload_n hx hb dL_law_1446 rfl (lv_at hl 0 rfl) ?_
  refine lv_iload_n hx hb dL_law_1447 rfl (lv_at hl 3 rfl) ?_
  refine x_iconst hx hb dL_law_1448 ?_
  refine x_iadd hx hb dL_law_1449 ?_
  refine va_sld hx hb hX hbl hbA hS (xI_in (by omega)) dL_law_1450 ?_
  refine x_toi z3 hz3 ?_
  refine xv_i (i := 0) (As := [.int (xI z1), .int (xI z2), .int (xI z3)]) (rest := []) ⟨hx, hb, hml, hown, hts⟩ hl.1 (c_X4_begins l D cA 68 ad en (by omega) hC z1 hr1 z2 hr2 z3 hr3) k_X4_begins u_ml_RL_138 hK hN hP (by omega) hC.1 rfl rfl rfl rfl (Nat.le_of_ble_eq_true rfl) ⟨Nat.le_of_ble_eq_true rfl, Nat.le_of_ble_eq_true rfl⟩ ⟨Nat.le_of_ble_eq_true rfl, Nat.le_of_ble_eq_true rfl⟩ dL_law_1451 ?_
  obtain ⟨r1, ha1⟩ : ∃ z, z = xI (am_begins S z1 z2 z3) := ⟨_, rfl⟩
  rw [← ha1]
  refine lv_aload_n hx hb dL_law_1454 rfl (lv_at hl 2 rfl) ?_
  refine lv_aload_n hx hb dL_law_1455 rfl (lv_at hl 0 rfl) ?_
  refine lv_iload_n hx hb dL_law_1456 rfl (lv_at hl 3 rfl) ?_
  refine x_iconst hx hb dL_law_1457 ?_
  refine x_iadd hx hb dL_law_1458 ?_
  refine va_sld hx hb hX hbl hbA hS (xI_in (by omega)) dL_law_1459 ?_
  refine x_toi z1 hz1 ?_
  refine lv_aload_n hx hb dL_law_1460 rfl (lv_at hl 0 rfl) ?_
  refine lv_iload_n hx hb dL_law_1461 rfl (lv_at hl 3 rfl) ?_
  refine x_iconst hx hb dL_law_1462 ?_
  refine x_iadd hx hb dL_law_1463 ?_
  refine va_sld hx hb hX hbl hbA hS (xI_in (by omega)) dL_law_1464 ?_
  refine x_toi z2 hz2 ?_
  refine lv_aload_n hx hb dL_law_1465 rfl (lv_at hl 0 rfl) ?_
  refine lv_iload_n hx hb dL_law_1466 rfl (lv_at hl 3 rfl) ?_
  refine x_iconst hx hb dL_law_1467 ?_
  refine x_iadd hx hb dL_law_1468 ?_
  refine va_sld hx hb hX hbl hbA hS (xI_in (by omega)) dL_law_1469 ?_
  refine x_toi z3 hz3 ?_
  refine xm_i (i := 53) (As := [.int (xI z1), .int (xI z2), .int (xI z3)]) (rest := [.int r1]) ⟨hx, hb, hml, hown, hts⟩ hl.1 (c_X5_begins l D cA 68 ad en _ (by omega) hM hW hR z1 hr1 z2 hr2 z3 hr3) k_X5_begins u_ml_RL_141 hK hN hP (by omega) hM.1 rfl rfl rfl rfl (Nat.le_of_ble_eq_true rfl) ⟨Nat.le_of_ble_eq_true rfl, Nat.le_of_ble_eq_true rfl⟩ ⟨Nat.le_of_ble_eq_true rfl, Nat.le_of_ble_eq_true rfl⟩ dL_law_1470 hD hS hA (fun r2 ur2 H locs hpr2 hP hS => ?_)
  obtain ⟨ha2, M1, hM, hR1, ho2⟩ := hpr2
  have hC := hC.far ho2 (by omega)
  exact lv_icmp_eq hx hb (tgt := 2030) dL_law_1473 (by decide) (fun _ => kk _ _ _ _ _ hC hM hR1 hP hS) (fun q => absurd (ha1.trans ha2.symm) q)

set_option maxRecDepth 20000 in
set_option maxHeartbeats 1000000 in
theorem lc_swap {p : Program} {l : Launch} {e : Env} {s : State} {m : MethodId} {below : List Frame} {meth : Method} {c : Code} {Q : State → Prop} {D : va_G} {cA : Nat → ClassId} {b L : Nat} {xs : Nat → Int32} (hE : LE p s m c b L xs D cA) {ad : Nat → Nat} (hD : xD (fun q => s.heap.size ≤ q) 68 ad) {S : xSt} {M : MO} {en : Nat → va_E} {H : Heap} {locs : List Loc} (hC : CW cA ad en S) (hM : MW cA ad en M) (hR : MR S M) (hP : va_P D vwCl (xw 68 ad en) H) (hS : va_S (fun q => s.heap.size ≤ q) s.heap H locs) {i : Int} (hi : 0 ≤ i ∧ i + 6 ≤ L ∧ L ≤ 3072) {ls : Array Slot} (hl : lv_has ls 4 [(0, .ref b), (1, .ref (ad 0)), (2, .ref (ad 53)), (3, .int (xI i))])
    (kk : ∀ (S1 : xSt) (M1 : MO) (en1 : Nat → va_E) (H1 : Heap) (locs1 : List Loc), CW cA ad en1 S1 → MW cA ad en1 M1 → MR S1 M1 → va_P D vwCl (xw 68 ad en1) H1 → va_S (fun q => s.heap.size ≤ q) s.heap H1 locs1 → W p l e room_1 s m #[Value.ref b] below meth c H1 locs1 68 8593 Q (F0 m 2030 ls [])) : W p l e room_1 s m #[Value.ref b] below meth c H locs 68 8593 Q (F0 m 1478 ls []) := by
  obtain ⟨hx, hb, hml, hown, hts, hX, hbl, hK, hN, hZ⟩ := hE
  have hA : ∀ q : Nat, s.heap.size ≤ q → (fun q : Nat => s.heap.size ≤ q) q := fun _ h => h
  have hbA : ¬ (fun q : Nat => s.heap.size ≤ q) b := Nat.not_le.mpr hbl
  have hW : WF S := hC.wf
  obtain ⟨z1, hz1, hr1⟩ := x_scr (xs ((xI (i + 1)).toNatClampNeg))
  obtain ⟨z2, hz2, hr2⟩ := x_scr (xs ((xI (i + 2)).toNatClampNeg))
  obtain ⟨z3, hz3, hr3⟩ := x_scr (xs ((xI (i + 3)).toNatClampNeg))
  obtain ⟨z4, hz4, hr4⟩ := x_scr (xs ((xI (i + 4)).toNatClampNeg))
  obtain ⟨z5, hz5, hr5⟩ := x_scr (xs ((xI (i + 5)).toNatClampNeg))
  refine lv_aload_n hx hb dL_law_1478 rfl (lv_at hl 1 rfl) ?_
  refine lv_aload_n hx hb dL_law_1479 rfl (lv_at hl 0 rfl) ?_
  refine lv_iload_n hx hb dL_law_1480 rfl (lv_at hl 3 rfl) ?_
  refine x_iconst hx hb dL_law_1481 ?_
  refine x_iadd hx hb dL_law_1482 ?_
  refine va_sld hx hb hX hbl hbA hS (xI_in (by omega)) dL_law_1483 ?_
  refine x_toi z1 hz1 ?_
  refine lv_aload_n hx hb dL_law_1484 rfl (lv_at hl 0 rfl) ?_
  refine lv_iload_n hx hb dL_law_1485 rfl (lv_at hl 3 rfl) ?_
  refine x_iconst hx hb dL_law_1486 ?_
  refine x_iadd hx hb dL_law_1487 ?_
  refine va_sld hx hb hX hbl hbA hS (xI_in (by omega)) dL_law_1488 ?_
  refine x_toi z2 hz2 ?_
  refine lv_aload_n hx hb dL_law_1489 rfl (lv_at hl 0 rfl) ?_
  refine lv_iload_n hx hb dL_law_1490 rfl (lv_at hl 3 rfl) ?_
  refine x_iconst hx hb dL_law_1491 ?_
  refine x_iadd hx hb dL_law_1492 ?_
  refine va_sld hx hb hX hbl hbA hS (xI_in (by omega)) dL_law_1493 ?_
  refine x_toi z3 hz3 ?_
  refine lv_aload_n hx hb dL_law_1494 rfl (lv_at hl 0 rfl) ?_
  refine lv_iload_n hx hb dL_law_1495 rfl (lv_at hl 3 rfl) ?_
  refine x_iconst hx hb dL_law_1496 ?_
  refine x_iadd hx hb dL_law_1497 ?_
  refine va_sld hx hb hX hbl hbA hS (xI_in (by omega)) dL_law_1498 ?_
  refine x_toi z4 hz4 ?_
  refine xm_i (i := 0) (As := [.int (xI z1), .int (xI z2), .int (xI z3), .int (xI z4)]) (rest := []) ⟨hx, hb, hml, hown, hts⟩ hl.1 (c_X4_swap l D cA 68 ad en _ (by omega) hC z1 hr1 z2 hr2 z3 hr3 z4 hr4) k_X4_swap u_ml_RL_142 hK hN hP (by omega) hC.1 rfl rfl rfl rfl (Nat.le_of_ble_eq_true rfl) ⟨Nat.le_of_ble_eq_true rfl, Nat.le_of_ble_eq_true rfl⟩ ⟨Nat.le_of_ble_eq_true rfl, Nat.le_of_ble_eq_true rfl⟩ dL_law_1499 hD hS hA (fun r1 ur1 H locs hpr1 hP hS => ?_)
  obtain ⟨ha1, hC, ho1⟩ := hpr1
  have hM := hM.ko ho1 (by omega)
  refine lv_aload_n hx hb dL_law_1502 rfl (lv_at hl 2 rfl) ?_
  refine lv_aload_n hx hb dL_law_1503 rfl (lv_at hl 0 rfl) ?_
  refine lv_iload_n hx hb dL_law_1504 rfl (lv_at hl 3 rfl) ?_
  refine x_iconst hx hb dL_law_1505 ?_
  refine x_iadd hx hb dL_law_1506 ?_
  refine va_sld hx hb hX hbl hbA hS (xI_in (by omega)) dL_law_1507 ?_
  refine x_toi z1 hz1 ?_
  refine lv_aload_n hx hb dL_law_1508 rfl (lv_at hl 0 rfl) ?_
  refine lv_iload_n hx hb dL_law_1509 rfl (lv_at hl 3 rfl) ?_
  refine x_iconst hx hb dL_law_1510 ?_
  refine x_iadd hx hb dL_law_1511 ?_
  refine va_sld hx hb hX hbl hbA hS (xI_in (by omega)) dL_law_1512 ?_
  refine x_toi z2 hz2 ?_
  refine lv_aload_n hx hb dL_law_1513 rfl (lv_at hl 0 rfl) ?_
  refine lv_iload_n hx hb dL_law_1514 rfl (lv_at hl 3 rfl) ?_
  refine x_iconst hx hb dL_law_1515 ?_
  refine x_iadd hx hb dL_law_1516 ?_
  refine va_sld hx hb hX hbl hbA hS (xI_in (by omega)) dL_law_1517 ?_
  refine x_toi z3 hz3 ?_
  refine lv_aload_n hx hb dL_law_1518 rfl (lv_at hl 0 rfl) ?_
  refine lv_iload_n hx hb dL_law_1519 rfl (lv_at hl 3 rfl) ?_
  refine x_iconst hx hb dL_law_1520 ?_
  refine x_iadd hx hb dL_law_1521 ?_
  refine va_sld hx hb hX hbl hbA hS (xI_in (by omega)) dL_law_1522 ?_
  refine x_toi z4 hz4 ?_
  refine xm_i (i := 53) (As := [.int (xI z1), .int (xI z2), .int (xI z3), .int (xI z4)]) (rest := [.int r1]) ⟨hx, hb, hml, hown, hts⟩ hl.1 (c_X5_swap l D cA 68 ad ur1 _ (by omega) hM hW hR z1 hr1 z2 hr2 z3 hr3 z4 hr4) k_X5_swap u_ml_RL_145 hK hN hP (by omega) hM.1 rfl rfl rfl rfl (Nat.le_of_ble_eq_true rfl) ⟨Nat.le_of_ble_eq_true rfl, Nat.le_of_ble_eq_true rfl⟩ ⟨Nat.le_of_ble_eq_true rfl, Nat.le_of_ble_eq_true rfl⟩ dL_law_1523 hD hS hA (fun r2 ur2 H locs hpr2 hP hS => ?_)
  obtain ⟨ha2, M1, hM, hR1, ho2⟩ := hpr2
  have hC := hC.far ho2 (by omega)
  exact lv_icmp_eq hx hb (tgt := 2030) dL_law_1526 (by decide) (fun _ => kk _ _ _ _ _ hC hM hR1 hP hS) (fun q => absurd (ha1.trans ha2.symm) q)

set_option maxRecDepth 20000 in
set_option maxHeartbeats 1000000 in
theorem lc_sub {p : Program} {l : Launch} {e : Env} {s : State} {m : MethodId} {below : List Frame} {meth : Method} {c : Code} {Q : State → Prop} {D : va_G} {cA : Nat → ClassId} {b L : Nat} {xs : Nat → Int32} (hE : LE p s m c b L xs D cA) {ad : Nat → Nat} (hD : xD (fun q => s.heap.size ≤ q) 68 ad) {S : xSt} {M : MO} {en : Nat → va_E} {H : Heap} {locs : List Loc} (hC : CW cA ad en S) (hM : MW cA ad en M) (hR : MR S M) (hP : va_P D vwCl (xw 68 ad en) H) (hS : va_S (fun q => s.heap.size ≤ q) s.heap H locs) {i : Int} (hi : 0 ≤ i ∧ i + 6 ≤ L ∧ L ≤ 3072) {ls : Array Slot} (hl : lv_has ls 4 [(0, .ref b), (1, .ref (ad 0)), (2, .ref (ad 53)), (3, .int (xI i))])
    (kk : ∀ (S1 : xSt) (M1 : MO) (en1 : Nat → va_E) (H1 : Heap) (locs1 : List Loc), CW cA ad en1 S1 → MW cA ad en1 M1 → MR S1 M1 → va_P D vwCl (xw 68 ad en1) H1 → va_S (fun q => s.heap.size ≤ q) s.heap H1 locs1 → W p l e room_1 s m #[Value.ref b] below meth c H1 locs1 68 8593 Q (F0 m 2030 ls [])) : W p l e room_1 s m #[Value.ref b] below meth c H locs 68 8593 Q (F0 m 1531 ls []) := by
  obtain ⟨hx, hb, hml, hown, hts, hX, hbl, hK, hN, hZ⟩ := hE
  have hA : ∀ q : Nat, s.heap.size ≤ q → (fun q : Nat => s.heap.size ≤ q) q := fun _ h => h
  have hbA : ¬ (fun q : Nat => s.heap.size ≤ q) b := Nat.not_le.mpr hbl
  have hW : WF S := hC.wf
  obtain ⟨z1, hz1, hr1⟩ := x_scr (xs ((xI (i + 1)).toNatClampNeg))
  obtain ⟨z2, hz2, hr2⟩ := x_scr (xs ((xI (i + 2)).toNatClampNeg))
  obtain ⟨z3, hz3, hr3⟩ := x_scr (xs ((xI (i + 3)).toNatClampNeg))
  obtain ⟨z4, hz4, hr4⟩ := x_scr (xs ((xI (i + 4)).toNatClampNeg))
  obtain ⟨z5, hz5, hr5⟩ := x_scr (xs ((xI (i + 5)).toNatClampNeg))
  refine lv_aload_n hx hb dL_law_1531 rfl (lv_at hl 1 rfl) ?_
  refine lv_aload_n hx hb dL_law_1532 rfl (lv_at hl 0 rfl) ?_
  refine lv_iload_n hx hb dL_law_1533 rfl (lv_at hl 3 rfl) ?_
  refine x_iconst hx hb dL_law_1534 ?_
  refine x_iadd hx hb dL_law_1535 ?_
  refine va_sld hx hb hX hbl hbA hS (xI_in (by omega)) dL_law_1536 ?_
  refine x_toi z1 hz1 ?_
  refine lv_aload_n hx hb dL_law_1537 rfl (lv_at hl 0 rfl) ?_
  refine lv_iload_n hx hb dL_law_1538 rfl (lv_at hl 3 rfl) ?_
  refine x_iconst hx hb dL_law_1539 ?_
  refine x_iadd hx hb dL_law_1540 ?_
  refine va_sld hx hb hX hbl hbA hS (xI_in (by omega)) dL_law_1541 ?_
  refine x_toi z2 hz2 ?_
  refine lv_aload_n hx hb dL_law_1542 rfl (lv_at hl 0 rfl) ?_
  refine lv_iload_n hx hb dL_law_1543 rfl (lv_at hl 3 rfl) ?_
  refine x_iconst hx hb dL_law_1544 ?_
  refine x_iadd hx hb dL_law_1545 ?_
  refine va_sld hx hb hX hbl hbA hS (xI_in (by omega)) dL_law_1546 ?_
  refine x_toi z3 hz3 ?_
  refine lv_aload_n hx hb dL_law_1547 rfl (lv_at hl 0 rfl) ?_
  refine lv_iload_n hx hb dL_law_1548 rfl (lv_at hl 3 rfl) ?_
  refine x_iconst hx hb dL_law_1549 ?_
  refine x_iadd hx hb dL_law_1550 ?_
  refine va_sld hx hb hX hbl hbA hS (xI_in (by omega)) dL_law_1551 ?_
  refine x_toi z4 hz4 ?_
  refine xm_i (i := 0) (As := [.int (xI z1), .int (xI z2), .int (xI z3), .int (xI z4)]) (rest := []) ⟨hx, hb, hml, hown, hts⟩ hl.1 (c_X4_sub l D cA 68 ad en _ (by omega) hC z1 hr1 z2 hr2 z3 hr3 z4 hr4) k_X4_sub u_ml_RL_146 hK hN hP (by omega) hC.1 rfl rfl rfl rfl (Nat.le_of_ble_eq_true rfl) ⟨Nat.le_of_ble_eq_true rfl, Nat.le_of_ble_eq_true rfl⟩ ⟨Nat.le_of_ble_eq_true rfl, Nat.le_of_ble_eq_true rfl⟩ dL_law_1552 hD hS hA (fun r1 ur1 H locs hpr1 hP hS => ?_)
  obtain ⟨ha1, hC, ho1⟩ := hpr1
  have hM := hM.ko ho1 (by omega)
  refine lv_aload_n hx hb dL_law_1555 rfl (lv_at hl 2 rfl) ?_
  refine lv_aload_n hx hb dL_law_1556 rfl (lv_at hl 0 rfl) ?_
  refine lv_iload_n hx hb dL_law_1557 rfl (lv_at hl 3 rfl) ?_
  refine x_iconst hx hb dL_law_1558 ?_
  refine x_iadd hx hb dL_law_1559 ?_
  refine va_sld hx hb hX hbl hbA hS (xI_in (by omega)) dL_law_1560 ?_
  refine x_toi z1 hz1 ?_
  refine lv_aload_n hx hb dL_law_1561 rfl (lv_at hl 0 rfl) ?_
  refine lv_iload_n hx hb dL_law_1562 rfl (lv_at hl 3 rfl) ?_
  refine x_iconst hx hb dL_law_1563 ?_
  refine x_iadd hx hb dL_law_1564 ?_
  refine va_sld hx hb hX hbl hbA hS (xI_in (by omega)) dL_law_1565 ?_
  refine x_toi z2 hz2 ?_
  refine lv_aload_n hx hb dL_law_1566 rfl (lv_at hl 0 rfl) ?_
  refine lv_iload_n hx hb dL_law_1567 rfl (lv_at hl 3 rfl) ?_
  refine x_iconst hx hb dL_law_1568 ?_
  refine x_iadd hx hb dL_law_1569 ?_
  refine va_sld hx hb hX hbl hbA hS (xI_in (by omega)) dL_law_1570 ?_
  refine x_toi z3 hz3 ?_
  refine lv_aload_n hx hb dL_law_1571 rfl (lv_at hl 0 rfl) ?_
  refine lv_iload_n hx hb dL_law_1572 rfl (lv_at hl 3 rfl) ?_
  refine x_iconst hx hb dL_law_1573 ?_
  refine x_iadd hx hb dL_law_1574 ?_
  refine va_sld hx hb hX hbl hbA hS (xI_in (by omega)) dL_law_1575 ?_
  refine x_toi z4 hz4 ?_
  refine xm_i (i := 53) (As := [.int (xI z1), .int (xI z2), .int (xI z3), .int (xI z4)]) (rest := [.int r1]) ⟨hx, hb, hml, hown, hts⟩ hl.1 (c_X5_sub l D cA 68 ad ur1 _ (by omega) hM hW hR z1 hr1 z2 hr2 z3 hr3 z4 hr4) k_X5_sub u_ml_RL_149 hK hN hP (by omega) hM.1 rfl rfl rfl rfl (Nat.le_of_ble_eq_true rfl) ⟨Nat.le_of_ble_eq_true rfl, Nat.le_of_ble_eq_true rfl⟩ ⟨Nat.le_of_ble_eq_true rfl, Nat.le_of_ble_eq_true rfl⟩ dL_law_1576 hD hS hA (fun r2 ur2 H locs hpr2 hP hS => ?_)
  obtain ⟨ha2, M1, hM, hR1, ho2⟩ := hpr2
  have hC := hC.far ho2 (by omega)
  exact lv_icmp_eq hx hb (tgt := 2030) dL_law_1579 (by decide) (fun _ => kk _ _ _ _ _ hC hM hR1 hP hS) (fun q => absurd (ha1.trans ha2.symm) q)

set_option maxRecDepth 20000 in
set_option maxHeartbeats 1000000 in
theorem lc_trim {p : Program} {l : Launch} {e : Env} {s : State} {m : MethodId} {below : List Frame} {meth : Method} {c : Code} {Q : State → Prop} {D : va_G} {cA : Nat → ClassId} {b L : Nat} {xs : Nat → Int32} (hE : LE p s m c b L xs D cA) {ad : Nat → Nat} (hD : xD (fun q => s.heap.size ≤ q) 68 ad) {S : xSt} {M : MO} {en : Nat → va_E} {H : Heap} {locs : List Loc} (hC : CW cA ad en S) (hM : MW cA ad en M) (hR : MR S M) (hP : va_P D vwCl (xw 68 ad en) H) (hS : va_S (fun q => s.heap.size ≤ q) s.heap H locs) {i : Int} (hi : 0 ≤ i ∧ i + 6 ≤ L ∧ L ≤ 3072) {ls : Array Slot} (hl : lv_has ls 4 [(0, .ref b), (1, .ref (ad 0)), (2, .ref (ad 53)), (3, .int (xI i))])
    (kk : ∀ (S1 : xSt) (M1 : MO) (en1 : Nat → va_E) (H1 : Heap) (locs1 : List Loc), CW cA ad en1 S1 → MW cA ad en1 M1 → MR S1 M1 → va_P D vwCl (xw 68 ad en1) H1 → va_S (fun q => s.heap.size ≤ q) s.heap H1 locs1 → W p l e room_1 s m #[Value.ref b] below meth c H1 locs1 68 8593 Q (F0 m 2030 ls [])) : W p l e room_1 s m #[Value.ref b] below meth c H locs 68 8593 Q (F0 m 1584 ls []) := by
  obtain ⟨hx, hb, hml, hown, hts, hX, hbl, hK, hN, hZ⟩ := hE
  have hA : ∀ q : Nat, s.heap.size ≤ q → (fun q : Nat => s.heap.size ≤ q) q := fun _ h => h
  have hbA : ¬ (fun q : Nat => s.heap.size ≤ q) b := Nat.not_le.mpr hbl
  have hW : WF S := hC.wf
  obtain ⟨z1, hz1, hr1⟩ := x_scr (xs ((xI (i + 1)).toNatClampNeg))
  obtain ⟨z2, hz2, hr2⟩ := x_scr (xs ((xI (i + 2)).toNatClampNeg))
  obtain ⟨z3, hz3, hr3⟩ := x_scr (xs ((xI (i + 3)).toNatClampNeg))
  obtain ⟨z4, hz4, hr4⟩ := x_scr (xs ((xI (i + 4)).toNatClampNeg))
  obtain ⟨z5, hz5, hr5⟩ := x_scr (xs ((xI (i + 5)).toNatClampNeg))
  refine lv_aload_n hx hb dL_law_1584 rfl (lv_at hl 1 rfl) ?_
  refine lv_aload_n hx hb dL_law_1585 rfl (lv_at hl 0 rfl) ?_
  refine lv_iload_n hx hb dL_law_1586 rfl (lv_at hl 3 rfl) ?_
  refine x_iconst hx hb dL_law_1587 ?_
  refine x_iadd hx hb dL_law_1588 ?_
  refine va_sld hx hb hX hbl hbA hS (xI_in (by omega)) dL_law_1589 ?_
  refine x_toi z1 hz1 ?_
  refine lv_aload_n hx hb dL_law_1590 rfl (lv_at hl 0 rfl) ?_
  refine lv_iload_n hx hb dL_law_1591 rfl (lv_at hl 3 rfl) ?_
  refine x_iconst hx hb dL_law_1592 ?_
  refine x_iadd hx hb dL_law_1593 ?_
  refine va_sld hx hb hX hbl hbA hS (xI_in (by omega)) dL_law_1594 ?_
  refine x_toi z2 hz2 ?_
  refine xm_i (i := 0) (As := [.int (xI z1), .int (xI z2)]) (rest := []) ⟨hx, hb, hml, hown, hts⟩ hl.1 (c_X4_trim l D cA 68 ad en _ (by omega) hC z1 hr1 z2 hr2) k_X4_trim u_ml_RL_150 hK hN hP (by omega) hC.1 rfl rfl rfl rfl (Nat.le_of_ble_eq_true rfl) ⟨Nat.le_of_ble_eq_true rfl, Nat.le_of_ble_eq_true rfl⟩ ⟨Nat.le_of_ble_eq_true rfl, Nat.le_of_ble_eq_true rfl⟩ dL_law_1595 hD hS hA (fun r1 ur1 H locs hpr1 hP hS => ?_)
  obtain ⟨ha1, hC, ho1⟩ := hpr1
  have hM := hM.ko ho1 (by omega)
  refine lv_aload_n hx hb dL_law_1598 rfl (lv_at hl 2 rfl) ?_
  refine lv_aload_n hx hb dL_law_1599 rfl (lv_at hl 0 rfl) ?_
  refine lv_iload_n hx hb dL_law_1600 rfl (lv_at hl 3 rfl) ?_
  refine x_iconst hx hb dL_law_1601 ?_
  refine x_iadd hx hb dL_law_1602 ?_
  refine va_sld hx hb hX hbl hbA hS (xI_in (by omega)) dL_law_1603 ?_
  refine x_toi z1 hz1 ?_
  refine lv_aload_n hx hb dL_law_1604 rfl (lv_at hl 0 rfl) ?_
  refine lv_iload_n hx hb dL_law_1605 rfl (lv_at hl 3 rfl) ?_
  refine x_iconst hx hb dL_law_1606 ?_
  refine x_iadd hx hb dL_law_1607 ?_
  refine va_sld hx hb hX hbl hbA hS (xI_in (by omega)) dL_law_1608 ?_
  refine x_toi z2 hz2 ?_
  refine xm_i (i := 53) (As := [.int (xI z1), .int (xI z2)]) (rest := [.int r1]) ⟨hx, hb, hml, hown, hts⟩ hl.1 (c_X5_trim l D cA 68 ad ur1 _ (by omega) hM hW hR z1 hr1 z2 hr2) k_X5_trim u_ml_RL_153 hK hN hP (by omega) hM.1 rfl rfl rfl rfl (Nat.le_of_ble_eq_true rfl) ⟨Nat.le_of_ble_eq_true rfl, Nat.le_of_ble_eq_true rfl⟩ ⟨Nat.le_of_ble_eq_true rfl, Nat.le_of_ble_eq_true rfl⟩ dL_law_1609 hD hS hA (fun r2 ur2 H locs hpr2 hP hS => ?_)
  obtain ⟨ha2, M1, hM, hR1, ho2⟩ := hpr2
  have hC := hC.far ho2 (by omega)
  exact lv_icmp_eq hx hb (tgt := 2030) dL_law_1612 (by decide) (fun _ => kk _ _ _ _ _ hC hM hR1 hP hS) (fun q => absurd (ha1.trans ha2.symm) q)

set_option maxRecDepth 20000 in
set_option maxHeartbeats 1000000 in
theorem lc_repeat {p : Program} {l : Launch} {e : Env} {s : State} {m : MethodId} {below : List Frame} {meth : Method} {c : Code} {Q : State → Prop} {D : va_G} {cA : Nat → ClassId} {b L : Nat} {xs : Nat → Int32} (hE : LE p s m c b L xs D cA) {ad : Nat → Nat} (hD : xD (fun q => s.heap.size ≤ q) 68 ad) {S : xSt} {M : MO} {en : Nat → va_E} {H : Heap} {locs : List Loc} (hC : CW cA ad en S) (hM : MW cA ad en M) (hR : MR S M) (hP : va_P D vwCl (xw 68 ad en) H) (hS : va_S (fun q => s.heap.size ≤ q) s.heap H locs) {i : Int} (hi : 0 ≤ i ∧ i + 6 ≤ L ∧ L ≤ 3072) {ls : Array Slot} (hl : lv_has ls 4 [(0, .ref b), (1, .ref (ad 0)), (2, .ref (ad 53)), (3, .int (xI i))])
    (kk : ∀ (S1 : xSt) (M1 : MO) (en1 : Nat → va_E) (H1 : Heap) (locs1 : List Loc), CW cA ad en1 S1 → MW cA ad en1 M1 → MR S1 M1 → va_P D vwCl (xw 68 ad en1) H1 → va_S (fun q => s.heap.size ≤ q) s.heap H1 locs1 → W p l e room_1 s m #[Value.ref b] below meth c H1 locs1 68 8593 Q (F0 m 2030 ls [])) : W p l e room_1 s m #[Value.ref b] below meth c H locs 68 8593 Q (F0 m 1617 ls []) := by
  obtain ⟨hx, hb, hml, hown, hts, hX, hbl, hK, hN, hZ⟩ := hE
  have hA : ∀ q : Nat, s.heap.size ≤ q → (fun q : Nat => s.heap.size ≤ q) q := fun _ h => h
  have hbA : ¬ (fun q : Nat => s.heap.size ≤ q) b := Nat.not_le.mpr hbl
  have hW : WF S := hC.wf
  obtain ⟨z1, hz1, hr1⟩ := x_scr (xs ((xI (i + 1)).toNatClampNeg))
  obtain ⟨z2, hz2, hr2⟩ := x_scr (xs ((xI (i + 2)).toNatClampNeg))
  obtain ⟨z3, hz3, hr3⟩ := x_scr (xs ((xI (i + 3)).toNatClampNeg))
  obtain ⟨z4, hz4, hr4⟩ := x_scr (xs ((xI (i + 4)).toNatClampNeg))
  obtain ⟨z5, hz5, hr5⟩ := x_scr (xs ((xI (i + 5)).toNatClampNeg))
  refine lv_aload_n hx hb dL_law_1617 rfl (lv_at hl 1 rfl) ?_
  refine lv_aload_n hx hb dL_law_1618 rfl (lv_at hl 0 rfl) ?_
  refine lv_iload_n hx hb dL_law_1619 rfl (lv_at hl 3 rfl) ?_
  refine x_iconst hx hb dL_law_1620 ?_
  refine x_iadd hx hb dL_law_1621 ?_
  refine va_sld hx hb hX hbl hbA hS (xI_in (by omega)) dL_law_1622 ?_
  refine x_toi z1 hz1 ?_
  refine lv_aload_n hx hb dL_law_1623 rfl (lv_at hl 0 rfl) ?_
  refine lv_iload_n hx hb dL_law_1624 rfl (lv_at hl 3 rfl) ?_
  refine x_iconst hx hb dL_law_1625 ?_
  refine x_iadd hx hb dL_law_1626 ?_
  refine va_sld hx hb hX hbl hbA hS (xI_in (by omega)) dL_law_1627 ?_
  refine x_toi z2 hz2 ?_
  refine lv_aload_n hx hb dL_law_1628 rfl (lv_at hl 0 rfl) ?_
  refine lv_iload_n hx hb dL_law_1629 rfl (lv_at hl 3 rfl) ?_
  refine x_iconst hx hb dL_law_1630 ?_
  refine x_iadd hx hb dL_law_1631 ?_
  refine va_sld hx hb hX hbl hbA hS (xI_in (by omega)) dL_law_1632 ?_
  refine x_toi z3 hz3 ?_
  refine xm_i (i := 0) (As := [.int (xI z1), .int (xI z2), .int (xI z3)]) (rest := []) ⟨hx, hb, hml, hown, hts⟩ hl.1 (c_X4_repeat l D cA 68 ad en _ (by omega) hC z1 hr1 z2 hr2 z3 hr3) k_X4_repeat u_ml_RL_154 hK hN hP (by omega) hC.1 rfl rfl rfl rfl (Nat.le_of_ble_eq_true rfl) ⟨Nat.le_of_ble_eq_true rfl, Nat.le_of_ble_eq_true rfl⟩ ⟨Nat.le_of_ble_eq_true rfl, Nat.le_of_ble_eq_true rfl⟩ dL_law_1633 hD hS hA (fun r1 ur1 H locs hpr1 hP hS => ?_)
  obtain ⟨ha1, hC, ho1⟩ := hpr1
  have hM := hM.ko ho1 (by omega)
  refine lv_aload_n hx hb dL_law_1636 rfl (lv_at hl 2 rfl) ?_
  refine lv_aload_n hx hb dL_law_1637 rfl (lv_at hl 0 rfl) ?_
  refine lv_iload_n hx hb dL_law_1638 rfl (lv_at hl 3 rfl) ?_
  refine x_iconst hx hb dL_law_1639 ?_
  refine x_iadd hx hb dL_law_1640 ?_
  refine va_sld hx hb hX hbl hbA hS (xI_in (by omega)) dL_law_1641 ?_
  refine x_toi z1 hz1 ?_
  refine lv_aload_n hx hb dL_law_1642 rfl (lv_at hl 0 rfl) ?_
  refine lv_iload_n hx hb dL_law_1643 rfl (lv_at hl 3 rfl) ?_
  refine x_iconst hx hb dL_law_1644 ?_
  refine x_iadd hx hb dL_law_1645 ?_
  refine va_sld hx hb hX hbl hbA hS (xI_in (by omega)) dL_law_1646 ?_
  refine x_toi z2 hz2 ?_
  refine lv_aload_n hx hb dL_law_1647 rfl (lv_at hl 0 rfl) ?_
  refine lv_iload_n hx hb dL_law_1648 rfl (lv_at hl 3 rfl) ?_
  refine x_iconst hx hb dL_law_1649 ?_
  refine x_iadd hx hb dL_law_1650 ?_
  refine va_sld hx hb hX hbl hbA hS (xI_in (by omega)) dL_law_1651 ?_
  refine x_toi z3 hz3 ?_
  refine xm_i (i := 53) (As := [.int (xI z1), .int (xI z2), .int (xI z3)]) (rest := [.int r1]) ⟨hx, hb, hml, hown, hts⟩ hl.1 (c_X5_repeat l D cA 68 ad ur1 _ (by omega) hM hW hR z1 hr1 z2 hr2 z3 hr3) k_X5_repeat u_ml_RL_157 hK hN hP (by omega) hM.1 rfl rfl rfl rfl (Nat.le_of_ble_eq_true rfl) ⟨Nat.le_of_ble_eq_true rfl, Nat.le_of_ble_eq_true rfl⟩ ⟨Nat.le_of_ble_eq_true rfl, Nat.le_of_ble_eq_true rfl⟩ dL_law_1652 hD hS hA (fun r2 ur2 H locs hpr2 hP hS => ?_)
  obtain ⟨ha2, M1, hM, hR1, ho2⟩ := hpr2
  have hC := hC.far ho2 (by omega)
  exact lv_icmp_eq hx hb (tgt := 2030) dL_law_1655 (by decide) (fun _ => kk _ _ _ _ _ hC hM hR1 hP hS) (fun q => absurd (ha1.trans ha2.symm) q)

set_option maxRecDepth 20000 in
set_option maxHeartbeats 1000000 in
theorem lc_join {p : Program} {l : Launch} {e : Env} {s : State} {m : MethodId} {below : List Frame} {meth : Method} {c : Code} {Q : State → Prop} {D : va_G} {cA : Nat → ClassId} {b L : Nat} {xs : Nat → Int32} (hE : LE p s m c b L xs D cA) {ad : Nat → Nat} (hD : xD (fun q => s.heap.size ≤ q) 68 ad) {S : xSt} {M : MO} {en : Nat → va_E} {H : Heap} {locs : List Loc} (hC : CW cA ad en S) (hM : MW cA ad en M) (hR : MR S M) (hP : va_P D vwCl (xw 68 ad en) H) (hS : va_S (fun q => s.heap.size ≤ q) s.heap H locs) {i : Int} (hi : 0 ≤ i ∧ i + 6 ≤ L ∧ L ≤ 3072) {ls : Array Slot} (hl : lv_has ls 4 [(0, .ref b), (1, .ref (ad 0)), (2, .ref (ad 53)), (3, .int (xI i))])
    (kk : ∀ (S1 : xSt) (M1 : MO) (en1 : Nat → va_E) (H1 : Heap) (locs1 : List Loc), CW cA ad en1 S1 → MW cA ad en1 M1 → MR S1 M1 → va_P D vwCl (xw 68 ad en1) H1 → va_S (fun q => s.heap.size ≤ q) s.heap H1 locs1 → W p l e room_1 s m #[Value.ref b] below meth c H1 locs1 68 8593 Q (F0 m 2030 ls [])) : W p l e room_1 s m #[Value.ref b] below meth c H locs 68 8593 Q (F0 m 1660 ls []) := by
  obtain ⟨hx, hb, hml, hown, hts, hX, hbl, hK, hN, hZ⟩ := hE
  have hA : ∀ q : Nat, s.heap.size ≤ q → (fun q : Nat => s.heap.size ≤ q) q := fun _ h => h
  have hbA : ¬ (fun q : Nat => s.heap.size ≤ q) b := Nat.not_le.mpr hbl
  have hW : WF S := hC.wf
  obtain ⟨z1, hz1, hr1⟩ := x_scr (xs ((xI (i + 1)).toNatClampNeg))
  obtain ⟨z2, hz2, hr2⟩ := x_scr (xs ((xI (i + 2)).toNatClampNeg))
  obtain ⟨z3, hz3, hr3⟩ := x_scr (xs ((xI (i + 3)).toNatClampNeg))
  obtain ⟨z4, hz4, hr4⟩ := x_scr (xs ((xI (i + 4)).toNatClampNeg))
  obtain ⟨z5, hz5, hr5⟩ := x_scr (xs ((xI (i + 5)).toNatClampNeg))
  refine lv_aload_n hx hb dL_law_1660 rfl (lv_at hl 1 rfl) ?_
  refine lv_aload_n hx hb dL_law_1661 rfl (lv_at hl 0 rfl) ?_
  refine lv_iload_n hx hb dL_law_1662 rfl (lv_at hl 3 rfl) ?_
  refine x_iconst hx hb dL_law_1663 ?_
  refine x_iadd hx hb dL_law_1664 ?_
  refine va_sld hx hb hX hbl hbA hS (xI_in (by omega)) dL_law_1665 ?_
  refine x_toi z1 hz1 ?_
  refine lv_aload_n hx hb dL_law_1666 rfl (lv_at hl 0 rfl) ?_
  refine lv_iload_n hx hb dL_law_1667 rfl (lv_at hl 3 rfl) ?_
  refine x_iconst hx hb dL_law_1668 ?_
  refine x_iadd hx hb dL_law_1669 ?_
  refine va_sld hx hb hX hbl hbA hS (xI_in (by omega)) dL_law_1670 ?_
  refine x_toi z2 hz2 ?_
  refine lv_aload_n hx hb dL_law_1671 rfl (lv_at hl 0 rfl) ?_
  refine lv_iload_n hx hb dL_law_1672 rfl (lv_at hl 3 rfl) ?_
  refine x_iconst hx hb dL_law_1673 ?_
  refine x_iadd hx hb dL_law_1674 ?_
  refine va_sld hx hb hX hbl hbA hS (xI_in (by omega)) dL_law_1675 ?_
  refine x_toi z3 hz3 ?_
  refine xm_i (i := 0) (As := [.int (xI z1), .int (xI z2), .int (xI z3)]) (rest := []) ⟨hx, hb, hml, hown, hts⟩ hl.1 (c_X4_join l D cA 68 ad en _ (by omega) hC z1 hr1 z2 hr2 z3 hr3) k_X4_join u_ml_RL_158 hK hN hP (by omega) hC.1 rfl rfl rfl rfl (Nat.le_of_ble_eq_true rfl) ⟨Nat.le_of_ble_eq_true rfl, Nat.le_of_ble_eq_true rfl⟩ ⟨Nat.le_of_ble_eq_true rfl, Nat.le_of_ble_eq_true rfl⟩ dL_law_1676 hD hS hA (fun r1 ur1 H locs hpr1 hP hS => ?_)
  obtain ⟨ha1, hC, ho1⟩ := hpr1
  have hM := hM.ko ho1 (by omega)
  refine lv_aload_n hx hb dL_law_1679 rfl (lv_at hl 2 rfl) ?_
  refine lv_aload_n hx hb dL_law_1680 rfl (lv_at hl 0 rfl) ?_
  refine lv_iload_n hx hb dL_law_1681 rfl (lv_at hl 3 rfl) ?_
  refine x_iconst hx hb dL_law_1682 ?_
  refine x_iadd hx hb dL_law_1683 ?_
  refine va_sld hx hb hX hbl hbA hS (xI_in (by omega)) dL_law_1684 ?_
  refine x_toi z1 hz1 ?_
  refine lv_aload_n hx hb dL_law_1685 rfl (lv_at hl 0 rfl) ?_
  refine lv_iload_n hx hb dL_law_1686 rfl (lv_at hl 3 rfl) ?_
  refine x_iconst hx hb dL_law_1687 ?_
  refine x_iadd hx hb dL_law_1688 ?_
  refine va_sld hx hb hX hbl hbA hS (xI_in (by omega)) dL_law_1689 ?_
  refine x_toi z2 hz2 ?_
  refine lv_aload_n hx hb dL_law_1690 rfl (lv_at hl 0 rfl) ?_
  refine lv_iload_n hx hb dL_law_1691 rfl (lv_at hl 3 rfl) ?_
  refine x_iconst hx hb dL_law_1692 ?_
  refine x_iadd hx hb dL_law_1693 ?_
  refine va_sld hx hb hX hbl hbA hS (xI_in (by omega)) dL_law_1694 ?_
  refine x_toi z3 hz3 ?_
  refine xm_i (i := 53) (As := [.int (xI z1), .int (xI z2), .int (xI z3)]) (rest := [.int r1]) ⟨hx, hb, hml, hown, hts⟩ hl.1 (c_X5_join l D cA 68 ad ur1 _ (by omega) hM hW hR z1 hr1 z2 hr2 z3 hr3) k_X5_join u_ml_RL_161 hK hN hP (by omega) hM.1 rfl rfl rfl rfl (Nat.le_of_ble_eq_true rfl) ⟨Nat.le_of_ble_eq_true rfl, Nat.le_of_ble_eq_true rfl⟩ ⟨Nat.le_of_ble_eq_true rfl, Nat.le_of_ble_eq_true rfl⟩ dL_law_1695 hD hS hA (fun r2 ur2 H locs hpr2 hP hS => ?_)
  obtain ⟨ha2, M1, hM, hR1, ho2⟩ := hpr2
  have hC := hC.far ho2 (by omega)
  exact lv_icmp_eq hx hb (tgt := 2030) dL_law_1698 (by decide) (fun _ => kk _ _ _ _ _ hC hM hR1 hP hS) (fun q => absurd (ha1.trans ha2.symm) q)

set_option maxRecDepth 20000 in
set_option maxHeartbeats 1000000 in
theorem lc_split {p : Program} {l : Launch} {e : Env} {s : State} {m : MethodId} {below : List Frame} {meth : Method} {c : Code} {Q : State → Prop} {D : va_G} {cA : Nat → ClassId} {b L : Nat} {xs : Nat → Int32} (hE : LE p s m c b L xs D cA) {ad : Nat → Nat} (hD : xD (fun q => s.heap.size ≤ q) 68 ad) {S : xSt} {M : MO} {en : Nat → va_E} {H : Heap} {locs : List Loc} (hC : CW cA ad en S) (hM : MW cA ad en M) (hR : MR S M) (hP : va_P D vwCl (xw 68 ad en) H) (hS : va_S (fun q => s.heap.size ≤ q) s.heap H locs) {i : Int} (hi : 0 ≤ i ∧ i + 6 ≤ L ∧ L ≤ 3072) {ls : Array Slot} (hl : lv_has ls 4 [(0, .ref b), (1, .ref (ad 0)), (2, .ref (ad 53)), (3, .int (xI i))])
    (kk : ∀ (S1 : xSt) (M1 : MO) (en1 : Nat → va_E) (H1 : Heap) (locs1 : List Loc), CW cA ad en1 S1 → MW cA ad en1 M1 → MR S1 M1 → va_P D vwCl (xw 68 ad en1) H1 → va_S (fun q => s.heap.size ≤ q) s.heap H1 locs1 → W p l e room_1 s m #[Value.ref b] below meth c H1 locs1 68 8593 Q (F0 m 2030 ls [])) : W p l e room_1 s m #[Value.ref b] below meth c H locs 68 8593 Q (F0 m 1703 ls []) := by
  obtain ⟨hx, hb, hml, hown, hts, hX, hbl, hK, hN, hZ⟩ := hE
  have hA : ∀ q : Nat, s.heap.size ≤ q → (fun q : Nat => s.heap.size ≤ q) q := fun _ h => h
  have hbA : ¬ (fun q : Nat => s.heap.size ≤ q) b := Nat.not_le.mpr hbl
  have hW : WF S := hC.wf
  obtain ⟨z1, hz1, hr1⟩ := x_scr (xs ((xI (i + 1)).toNatClampNeg))
  obtain ⟨z2, hz2, hr2⟩ := x_scr (xs ((xI (i + 2)).toNatClampNeg))
  obtain ⟨z3, hz3, hr3⟩ := x_scr (xs ((xI (i + 3)).toNatClampNeg))
  obtain ⟨z4, hz4, hr4⟩ := x_scr (xs ((xI (i + 4)).toNatClampNeg))
  obtain ⟨z5, hz5, hr5⟩ := x_scr (xs ((xI (i + 5)).toNatClampNeg))
  refine lv_aload_n hx hb dL_law_1703 rfl (lv_at hl 1 rfl) ?_
  refine lv_aload_n hx hb dL_law_1704 rfl (lv_at hl 0 rfl) ?_
  refine lv_iload_n hx hb dL_law_1705 rfl (lv_at hl 3 rfl) ?_
  refine x_iconst hx hb dL_law_1706 ?_
  refine x_iadd hx hb dL_law_1707 ?_
  refine va_sld hx hb hX hbl hbA hS (xI_in (by omega)) dL_law_1708 ?_
  refine x_toi z1 hz1 ?_
  refine lv_aload_n hx hb dL_law_1709 rfl (lv_at hl 0 rfl) ?_
  refine lv_iload_n hx hb dL_law_1710 rfl (lv_at hl 3 rfl) ?_
  refine x_iconst hx hb dL_law_1711 ?_
  refine x_iadd hx hb dL_law_1712 ?_
  refine va_sld hx hb hX hbl hbA hS (xI_in (by omega)) dL_law_1713 ?_
  refine x_toi z2 hz2 ?_
  refine lv_aload_n hx hb dL_law_1714 rfl (lv_at hl 0 rfl) ?_
  refine lv_iload_n hx hb dL_law_1715 rfl (lv_at hl 3 rfl) ?_
  refine x_iconst hx hb dL_law_1716 ?_
  refine x_iadd hx hb dL_law_1717 ?_
  refine va_sld hx hb hX hbl hbA hS (xI_in (by omega)) dL_law_1718 ?_
  refine x_toi z3 hz3 ?_
  refine xmZ_i (i := 0) (As := [.int (xI z1), .int (xI z2), .int (xI z3)]) (rest := []) ⟨hx, hb, hml, hown, hts⟩ hl.1 (c_X4_split l D cA 68 ad en _ (by omega) hC z1 hr1 z2 hr2 z3 hr3) k_X4_split u_ml_RL_162 hK hN hP (by omega) hC.1 rfl rfl rfl rfl (Nat.le_of_ble_eq_true rfl) ⟨Nat.le_of_ble_eq_true rfl, Nat.le_of_ble_eq_true rfl⟩ ⟨Nat.le_of_ble_eq_true rfl, Nat.le_of_ble_eq_true rfl⟩ dL_law_1719 hD hS hA (fun U hU hW => xZA.to hZ hS hU hW) (fun r1 ur1 H locs hpr1 hP hS => ?_)
  obtain ⟨ha1, hC, ho1⟩ := hpr1
  have hM := hM.ko ho1 (by omega)
  refine lv_aload_n hx hb dL_law_1722 rfl (lv_at hl 2 rfl) ?_
  refine lv_aload_n hx hb dL_law_1723 rfl (lv_at hl 0 rfl) ?_
  refine lv_iload_n hx hb dL_law_1724 rfl (lv_at hl 3 rfl) ?_
  refine x_iconst hx hb dL_law_1725 ?_
  refine x_iadd hx hb dL_law_1726 ?_
  refine va_sld hx hb hX hbl hbA hS (xI_in (by omega)) dL_law_1727 ?_
  refine x_toi z1 hz1 ?_
  refine lv_aload_n hx hb dL_law_1728 rfl (lv_at hl 0 rfl) ?_
  refine lv_iload_n hx hb dL_law_1729 rfl (lv_at hl 3 rfl) ?_
  refine x_iconst hx hb dL_law_1730 ?_
  refine x_iadd hx hb dL_law_1731 ?_
  refine va_sld hx hb hX hbl hbA hS (xI_in (by omega)) dL_law_1732 ?_
  refine x_toi z2 hz2 ?_
  refine lv_aload_n hx hb dL_law_1733 rfl (lv_at hl 0 rfl) ?_
  refine lv_iload_n hx hb dL_law_1734 rfl (lv_at hl 3 rfl) ?_
  refine x_iconst hx hb dL_law_1735 ?_
  refine x_iadd hx hb dL_law_1736 ?_
  refine va_sld hx hb hX hbl hbA hS (xI_in (by omega)) dL_law_1737 ?_
  refine x_toi z3 hz3 ?_
  refine xm_i (i := 53) (As := [.int (xI z1), .int (xI z2), .int (xI z3)]) (rest := [.int r1]) ⟨hx, hb, hml, hown, hts⟩ hl.1 (c_X5_split l D cA 68 ad ur1 _ (by omega) hM hW hR z1 hr1 z2 hr2 z3 hr3) k_X5_split u_ml_RL_165 hK hN hP (by omega) hM.1 rfl rfl rfl rfl (Nat.le_of_ble_eq_true rfl) ⟨Nat.le_of_ble_eq_true rfl, Nat.le_of_ble_eq_true rfl⟩ ⟨Nat.le_of_ble_eq_true rfl, Nat.le_of_ble_eq_true rfl⟩ dL_law_1738 hD hS hA (fun r2 ur2 H locs hpr2 hP hS => ?_)
  obtain ⟨ha2, M1, hM, hR1, ho2⟩ := hpr2
  have hC := hC.far ho2 (by omega)
  exact lv_icmp_eq hx hb (tgt := 2030) dL_law_1741 (by decide) (fun _ => kk _ _ _ _ _ hC hM hR1 hP hS) (fun q => absurd (ha1.trans ha2.symm) q)
