set_option maxHeartbeats 4000000 in
set_option maxRecDepth 100000 in
theorem lwa_32 {p : Program} {l : Launch} {e : Env} {s : State} {m : MethodId} {below : List Frame} {meth : Method} {c : Code} {D : va_G} {Y : Nat → ClassId} {F : Nat → Nat} {A : Nat → Prop} {b L : Nat} {xs : Nat → Int32} {Q : State → Prop} (C0 : zCx p s m #[Value.ref b] meth c D Y F A RL cL_law 4 ret wsL_law) (hX : va_X b L xs s s.heap) (hbl : b < s.heap.size) (hbA : ¬ A b) {i : Nat} (hi : i + 6 ≤ L) (hL : L ≤ 3072) {cells slots : Nat} (hc1 : cells + 692 ≤ 600000) (hs1 : slots + 11937 ≤ 7302250) {G : zG} {S : zSt} {d : zD} (I : Inv (zpk G) S d) {H : Heap} {locs : List Loc} (hw : zH D Y F A G S H) (hS : va_S A s.heap H locs) {ls : Array Slot} (hl : lv_has ls 4 [(0, .ref b), (1, .ref (F 20)), (2, .ref (F 0)), (3, .int (nI i))]) (kk : ∀ (G1 : zG) (S1 : zSt) (d1 : zD) (H1 : Heap) (locs1 : List Loc), Inv (zpk G1) S1 d1 → zH D Y F A G1 S1 H1 → va_S A s.heap H1 locs1 → W p l e room_1 s m #[Value.ref b] below meth c H1 locs1 (cells + 692) (slots + 11937) Q (F0 m 1653 ls [])) : W p l e room_1 s m #[Value.ref b] below meth c H locs cells slots Q (F0 m 1383 ls []) := by
  obtain ⟨hx, hb, hml, hr, hown, hts, hK, hA, hlk, hN⟩ := id C0
  have hrc := lw_rc
  have hrs := lw_rs
  refine lv_aload_n hx hb dL_law_1383 rfl (lv_at hl 1 rfl) ?_
  refine lv_aload_n hx hb dL_law_1384 rfl (lv_at hl 0 rfl) ?_
  refine lv_iload_n hx hb dL_law_1385 rfl (lv_at hl 3 rfl) ?_
  refine lv_iconst (v := 1) hx hb dL_law_1386 (by decide) ?_
  refine lv_iadd hx hb dL_law_1387 ?_
  refine va_sld hx hb hX hbl hbA hS (show vp_in (nI i + 1) L from lw_in hi hL (k := 1) (by decide)) dL_law_1388 ?_
  refine lv_aload_n hx hb dL_law_1389 rfl (lv_at hl 0 rfl) ?_
  refine lv_iload_n hx hb dL_law_1390 rfl (lv_at hl 3 rfl) ?_
  refine lv_iconst (v := 2) hx hb dL_law_1391 (by decide) ?_
  refine lv_iadd hx hb dL_law_1392 ?_
  refine va_sld hx hb hX hbl hbA hS (show vp_in (nI i + 2) L from lw_in hi hL (k := 2) (by decide)) dL_law_1393 ?_
  refine lv_aload_n hx hb dL_law_1394 rfl (lv_at hl 0 rfl) ?_
  refine lv_iload_n hx hb dL_law_1395 rfl (lv_at hl 3 rfl) ?_
  refine lv_iconst (v := 3) hx hb dL_law_1396 (by decide) ?_
  refine lv_iadd hx hb dL_law_1397 ?_
  refine va_sld hx hb hX hbl hbA hS (show vp_in (nI i + 3) L from lw_in hi hL (k := 3) (by decide)) dL_law_1398 ?_
  obtain ⟨r, S1, S2, e1, e2, d2, I2⟩ := s_press I (xs (Int32.toNatClampNeg (nI i + 1))) (xs (Int32.toNatClampNeg (nI i + 2))) (xs (Int32.toNatClampNeg (nI i + 3)))
  refine z_goi C0 hw hS (res := (r, S1)) (rest := []) (arr := (Value.ref (F 20) :: [.int (xs (Int32.toNatClampNeg (nI i + 1))), .int (xs (Int32.toNatClampNeg (nI i + 2))), .int (xs (Int32.toNatClampNeg (nI i + 3)))]).toArray) ?_ (fun H locs hw hS => ?_)
  · exact va_runV (z_fix C0) (c_X11_press l D Y F G S _ (xs (Int32.toNatClampNeg (nI i + 1))) (xs (Int32.toNatClampNeg (nI i + 2))) (xs (Int32.toNatClampNeg (nI i + 3))) (r, S1) e1) (cwV 3 hts gL_law_X11_press rfl rfl rfl (by decide +kernel) ⟨Nat.le_of_ble_eq_true rfl, Nat.le_of_ble_eq_true rfl⟩) ⟨zPc_blind, z_rv C0 hw (k := 20) rfl rfl rfl rfl, z_give C0 hw hS _⟩ rfl rfl hl.1 rfl (lv_room (Nat.le_of_ble_eq_true rfl)) dL_law_1399 ⟨by rw [hrc]; omega, by rw [hrs]; omega⟩
  refine lv_aload_n hx hb dL_law_1402 rfl (lv_at hl 2 rfl) ?_
  refine lv_aload_n hx hb dL_law_1403 rfl (lv_at hl 0 rfl) ?_
  refine lv_iload_n hx hb dL_law_1404 rfl (lv_at hl 3 rfl) ?_
  refine lv_iconst (v := 1) hx hb dL_law_1405 (by decide) ?_
  refine lv_iadd hx hb dL_law_1406 ?_
  refine va_sld hx hb hX hbl hbA hS (show vp_in (nI i + 1) L from lw_in hi hL (k := 1) (by decide)) dL_law_1407 ?_
  refine lv_aload_n hx hb dL_law_1408 rfl (lv_at hl 0 rfl) ?_
  refine lv_iload_n hx hb dL_law_1409 rfl (lv_at hl 3 rfl) ?_
  refine lv_iconst (v := 2) hx hb dL_law_1410 (by decide) ?_
  refine lv_iadd hx hb dL_law_1411 ?_
  refine va_sld hx hb hX hbl hbA hS (show vp_in (nI i + 2) L from lw_in hi hL (k := 2) (by decide)) dL_law_1412 ?_
  refine lv_aload_n hx hb dL_law_1413 rfl (lv_at hl 0 rfl) ?_
  refine lv_iload_n hx hb dL_law_1414 rfl (lv_at hl 3 rfl) ?_
  refine lv_iconst (v := 3) hx hb dL_law_1415 (by decide) ?_
  refine lv_iadd hx hb dL_law_1416 ?_
  refine va_sld hx hb hX hbl hbA hS (show vp_in (nI i + 3) L from lw_in hi hL (k := 3) (by decide)) dL_law_1417 ?_
  refine z_goi C0 hw hS (res := (r, S2)) (rest := [.int r]) (arr := (Value.ref (F 0) :: [.int (xs (Int32.toNatClampNeg (nI i + 1))), .int (xs (Int32.toNatClampNeg (nI i + 2))), .int (xs (Int32.toNatClampNeg (nI i + 3)))]).toArray) ?_ (fun H locs hw hS => ?_)
  · exact va_runV (z_fix C0) (c_X12_press l D Y F G S1 _ (xs (Int32.toNatClampNeg (nI i + 1))) (xs (Int32.toNatClampNeg (nI i + 2))) (xs (Int32.toNatClampNeg (nI i + 3))) (r, S2) e2) (cwV 3 hts gL_law_X12_press rfl rfl rfl (by decide +kernel) ⟨Nat.le_of_ble_eq_true rfl, Nat.le_of_ble_eq_true rfl⟩) ⟨zPc_blind, z_rv C0 hw (k := 0) rfl rfl rfl rfl, z_give C0 hw hS _⟩ rfl rfl hl.1 rfl (lv_room (Nat.le_of_ble_eq_true rfl)) dL_law_1418 ⟨by rw [hrc]; omega, by rw [hrs]; omega⟩
  refine lv_icmp_eq (tgt := 1653) hx hb dL_law_1421 (by decide) (fun _ => ?_) (fun q => absurd rfl q)
  refine W.widen (k := cells + 692) (n := slots + 11937) (by omega) (by omega) ?_
  exact kk G _ _ _ _ I2 hw hS
set_option maxHeartbeats 4000000 in
set_option maxRecDepth 100000 in
theorem lwa_33 {p : Program} {l : Launch} {e : Env} {s : State} {m : MethodId} {below : List Frame} {meth : Method} {c : Code} {D : va_G} {Y : Nat → ClassId} {F : Nat → Nat} {A : Nat → Prop} {b L : Nat} {xs : Nat → Int32} {Q : State → Prop} (C0 : zCx p s m #[Value.ref b] meth c D Y F A RL cL_law 4 ret wsL_law) (hX : va_X b L xs s s.heap) (hbl : b < s.heap.size) (hbA : ¬ A b) {i : Nat} (hi : i + 6 ≤ L) (hL : L ≤ 3072) {cells slots : Nat} (hc1 : cells + 692 ≤ 600000) (hs1 : slots + 11937 ≤ 7302250) {G : zG} {S : zSt} {d : zD} (I : Inv (zpk G) S d) {H : Heap} {locs : List Loc} (hw : zH D Y F A G S H) (hS : va_S A s.heap H locs) {ls : Array Slot} (hl : lv_has ls 4 [(0, .ref b), (1, .ref (F 20)), (2, .ref (F 0)), (3, .int (nI i))]) (kk : ∀ (G1 : zG) (S1 : zSt) (d1 : zD) (H1 : Heap) (locs1 : List Loc), Inv (zpk G1) S1 d1 → zH D Y F A G1 S1 H1 → va_S A s.heap H1 locs1 → W p l e room_1 s m #[Value.ref b] below meth c H1 locs1 (cells + 692) (slots + 11937) Q (F0 m 1653 ls [])) : W p l e room_1 s m #[Value.ref b] below meth c H locs cells slots Q (F0 m 1426 ls []) := by
  obtain ⟨hx, hb, hml, hr, hown, hts, hK, hA, hlk, hN⟩ := id C0
  have hrc := lw_rc
  have hrs := lw_rs
  refine lv_aload_n hx hb dL_law_1426 rfl (lv_at hl 1 rfl) ?_
  refine lv_aload_n hx hb dL_law_1427 rfl (lv_at hl 0 rfl) ?_
  refine lv_iload_n hx hb dL_law_1428 rfl (lv_at hl 3 rfl) ?_
  refine lv_iconst (v := 1) hx hb dL_law_1429 (by decide) ?_
  refine lv_iadd hx hb dL_law_1430 ?_
  refine va_sld hx hb hX hbl hbA hS (show vp_in (nI i + 1) L from lw_in hi hL (k := 1) (by decide)) dL_law_1431 ?_
  refine lv_aload_n hx hb dL_law_1432 rfl (lv_at hl 0 rfl) ?_
  refine lv_iload_n hx hb dL_law_1433 rfl (lv_at hl 3 rfl) ?_
  refine lv_iconst (v := 2) hx hb dL_law_1434 (by decide) ?_
  refine lv_iadd hx hb dL_law_1435 ?_
  refine va_sld hx hb hX hbl hbA hS (show vp_in (nI i + 2) L from lw_in hi hL (k := 2) (by decide)) dL_law_1436 ?_
  refine lv_aload_n hx hb dL_law_1437 rfl (lv_at hl 0 rfl) ?_
  refine lv_iload_n hx hb dL_law_1438 rfl (lv_at hl 3 rfl) ?_
  refine lv_iconst (v := 3) hx hb dL_law_1439 (by decide) ?_
  refine lv_iadd hx hb dL_law_1440 ?_
  refine va_sld hx hb hX hbl hbA hS (show vp_in (nI i + 3) L from lw_in hi hL (k := 3) (by decide)) dL_law_1441 ?_
  obtain ⟨r, S1, S2, e1, e2, d2, I2⟩ := s_rub I (xs (Int32.toNatClampNeg (nI i + 1))) (xs (Int32.toNatClampNeg (nI i + 2))) (xs (Int32.toNatClampNeg (nI i + 3)))
  refine z_goi C0 hw hS (res := (r, S1)) (rest := []) (arr := (Value.ref (F 20) :: [.int (xs (Int32.toNatClampNeg (nI i + 1))), .int (xs (Int32.toNatClampNeg (nI i + 2))), .int (xs (Int32.toNatClampNeg (nI i + 3)))]).toArray) ?_ (fun H locs hw hS => ?_)
  · exact va_runV (z_fix C0) (c_X11_rub l D Y F G S _ (xs (Int32.toNatClampNeg (nI i + 1))) (xs (Int32.toNatClampNeg (nI i + 2))) (xs (Int32.toNatClampNeg (nI i + 3))) (r, S1) e1) (cwV 3 hts gL_law_X11_rub rfl rfl rfl (by decide +kernel) ⟨Nat.le_of_ble_eq_true rfl, Nat.le_of_ble_eq_true rfl⟩) ⟨zPc_blind, z_rv C0 hw (k := 20) rfl rfl rfl rfl, z_give C0 hw hS _⟩ rfl rfl hl.1 rfl (lv_room (Nat.le_of_ble_eq_true rfl)) dL_law_1442 ⟨by rw [hrc]; omega, by rw [hrs]; omega⟩
  refine lv_aload_n hx hb dL_law_1445 rfl (lv_at hl 2 rfl) ?_
  refine lv_aload_n hx hb dL_law_1446 rfl (lv_at hl 0 rfl) ?_
  refine lv_iload_n hx hb dL_law_1447 rfl (lv_at hl 3 rfl) ?_
  refine lv_iconst (v := 1) hx hb dL_law_1448 (by decide) ?_
  refine lv_iadd hx hb dL_law_1449 ?_
  refine va_sld hx hb hX hbl hbA hS (show vp_in (nI i + 1) L from lw_in hi hL (k := 1) (by decide)) dL_law_1450 ?_
  refine lv_aload_n hx hb dL_law_1451 rfl (lv_at hl 0 rfl) ?_
  refine lv_iload_n hx hb dL_law_1452 rfl (lv_at hl 3 rfl) ?_
  refine lv_iconst (v := 2) hx hb dL_law_1453 (by decide) ?_
  refine lv_iadd hx hb dL_law_1454 ?_
  refine va_sld hx hb hX hbl hbA hS (show vp_in (nI i + 2) L from lw_in hi hL (k := 2) (by decide)) dL_law_1455 ?_
  refine lv_aload_n hx hb dL_law_1456 rfl (lv_at hl 0 rfl) ?_
  refine lv_iload_n hx hb dL_law_1457 rfl (lv_at hl 3 rfl) ?_
  refine lv_iconst (v := 3) hx hb dL_law_1458 (by decide) ?_
  refine lv_iadd hx hb dL_law_1459 ?_
  refine va_sld hx hb hX hbl hbA hS (show vp_in (nI i + 3) L from lw_in hi hL (k := 3) (by decide)) dL_law_1460 ?_
  refine z_goi C0 hw hS (res := (r, S2)) (rest := [.int r]) (arr := (Value.ref (F 0) :: [.int (xs (Int32.toNatClampNeg (nI i + 1))), .int (xs (Int32.toNatClampNeg (nI i + 2))), .int (xs (Int32.toNatClampNeg (nI i + 3)))]).toArray) ?_ (fun H locs hw hS => ?_)
  · exact va_runV (z_fix C0) (c_X12_rub l D Y F G S1 _ (xs (Int32.toNatClampNeg (nI i + 1))) (xs (Int32.toNatClampNeg (nI i + 2))) (xs (Int32.toNatClampNeg (nI i + 3))) (r, S2) e2) (cwV 3 hts gL_law_X12_rub rfl rfl rfl (by decide +kernel) ⟨Nat.le_of_ble_eq_true rfl, Nat.le_of_ble_eq_true rfl⟩) ⟨zPc_blind, z_rv C0 hw (k := 0) rfl rfl rfl rfl, z_give C0 hw hS _⟩ rfl rfl hl.1 rfl (lv_room (Nat.le_of_ble_eq_true rfl)) dL_law_1461 ⟨by rw [hrc]; omega, by rw [hrs]; omega⟩
  refine lv_icmp_eq (tgt := 1653) hx hb dL_law_1464 (by decide) (fun _ => ?_) (fun q => absurd rfl q)
  refine W.widen (k := cells + 692) (n := slots + 11937) (by omega) (by omega) ?_
  exact kk G _ _ _ _ I2 hw hS
set_option maxHeartbeats 4000000 in
set_option maxRecDepth 100000 in
theorem lwa_34 {p : Program} {l : Launch} {e : Env} {s : State} {m : MethodId} {below : List Frame} {meth : Method} {c : Code} {D : va_G} {Y : Nat → ClassId} {F : Nat → Nat} {A : Nat → Prop} {b L : Nat} {xs : Nat → Int32} {Q : State → Prop} (C0 : zCx p s m #[Value.ref b] meth c D Y F A RL cL_law 4 ret wsL_law) (hX : va_X b L xs s s.heap) (hbl : b < s.heap.size) (hbA : ¬ A b) {i : Nat} (hi : i + 6 ≤ L) (hL : L ≤ 3072) {cells slots : Nat} (hc1 : cells + 692 ≤ 600000) (hs1 : slots + 11937 ≤ 7302250) {G : zG} {S : zSt} {d : zD} (I : Inv (zpk G) S d) {H : Heap} {locs : List Loc} (hw : zH D Y F A G S H) (hS : va_S A s.heap H locs) {ls : Array Slot} (hl : lv_has ls 4 [(0, .ref b), (1, .ref (F 20)), (2, .ref (F 0)), (3, .int (nI i))]) (kk : ∀ (G1 : zG) (S1 : zSt) (d1 : zD) (H1 : Heap) (locs1 : List Loc), Inv (zpk G1) S1 d1 → zH D Y F A G1 S1 H1 → va_S A s.heap H1 locs1 → W p l e room_1 s m #[Value.ref b] below meth c H1 locs1 (cells + 692) (slots + 11937) Q (F0 m 1653 ls [])) : W p l e room_1 s m #[Value.ref b] below meth c H locs cells slots Q (F0 m 1469 ls []) := by
  obtain ⟨hx, hb, hml, hr, hown, hts, hK, hA, hlk, hN⟩ := id C0
  have hrc := lw_rc
  have hrs := lw_rs
  refine lv_aload_n hx hb dL_law_1469 rfl (lv_at hl 1 rfl) ?_
  refine lv_aload_n hx hb dL_law_1470 rfl (lv_at hl 0 rfl) ?_
  refine lv_iload_n hx hb dL_law_1471 rfl (lv_at hl 3 rfl) ?_
  refine lv_iconst (v := 1) hx hb dL_law_1472 (by decide) ?_
  refine lv_iadd hx hb dL_law_1473 ?_
  refine va_sld hx hb hX hbl hbA hS (show vp_in (nI i + 1) L from lw_in hi hL (k := 1) (by decide)) dL_law_1474 ?_
  obtain ⟨r, S1, S2, e1, e2, d2, I2⟩ := s_dies I (xs (Int32.toNatClampNeg (nI i + 1)))
  refine z_goi C0 hw hS (res := (r, S1)) (rest := []) (arr := (Value.ref (F 20) :: [.int (xs (Int32.toNatClampNeg (nI i + 1)))]).toArray) ?_ (fun H locs hw hS => ?_)
  · exact va_runV (z_fix C0) (c_X11_dies l D Y F G S _ (xs (Int32.toNatClampNeg (nI i + 1))) (r, S1) e1) (cwV 1 hts gL_law_X11_dies rfl rfl rfl (by decide +kernel) ⟨Nat.le_of_ble_eq_true rfl, Nat.le_of_ble_eq_true rfl⟩) ⟨zPc_blind, z_rv C0 hw (k := 20) rfl rfl rfl rfl, z_give C0 hw hS _⟩ rfl rfl hl.1 rfl (lv_room (Nat.le_of_ble_eq_true rfl)) dL_law_1475 ⟨by rw [hrc]; omega, by rw [hrs]; omega⟩
  refine lv_aload_n hx hb dL_law_1478 rfl (lv_at hl 2 rfl) ?_
  refine lv_aload_n hx hb dL_law_1479 rfl (lv_at hl 0 rfl) ?_
  refine lv_iload_n hx hb dL_law_1480 rfl (lv_at hl 3 rfl) ?_
  refine lv_iconst (v := 1) hx hb dL_law_1481 (by decide) ?_
  refine lv_iadd hx hb dL_law_1482 ?_
  refine va_sld hx hb hX hbl hbA hS (show vp_in (nI i + 1) L from lw_in hi hL (k := 1) (by decide)) dL_law_1483 ?_
  refine z_goi C0 hw hS (res := (r, S2)) (rest := [.int r]) (arr := (Value.ref (F 0) :: [.int (xs (Int32.toNatClampNeg (nI i + 1)))]).toArray) ?_ (fun H locs hw hS => ?_)
  · exact va_runV (z_fix C0) (c_X12_dies l D Y F G S1 _ (xs (Int32.toNatClampNeg (nI i + 1))) (r, S2) e2) (cwV 1 hts gL_law_X12_dies rfl rfl rfl (by decide +kernel) ⟨Nat.le_of_ble_eq_true rfl, Nat.le_of_ble_eq_true rfl⟩) ⟨zPc_blind, z_rv C0 hw (k := 0) rfl rfl rfl rfl, z_give C0 hw hS _⟩ rfl rfl hl.1 rfl (lv_room (Nat.le_of_ble_eq_true rfl)) dL_law_1484 ⟨by rw [hrc]; omega, by rw [hrs]; omega⟩
  refine lv_icmp_eq (tgt := 1653) hx hb dL_law_1487 (by decide) (fun _ => ?_) (fun q => absurd rfl q)
  refine W.widen (k := cells + 692) (n := slots + 11937) (by omega) (by omega) ?_
  exact kk G _ _ _ _ I2 hw hS
set_option maxHeartbeats 4000000 in
set_option maxRecDepth 100000 in
theorem lwa_35 {p : Program} {l : Launch} {e : Env} {s : State} {m : MethodId} {below : List Frame} {meth : Method} {c : Code} {D : va_G} {Y : Nat → ClassId} {F : Nat → Nat} {A : Nat → Prop} {b L : Nat} {xs : Nat → Int32} {Q : State → Prop} (C0 : zCx p s m #[Value.ref b] meth c D Y F A RL cL_law 4 ret wsL_law) (hX : va_X b L xs s s.heap) (hbl : b < s.heap.size) (hbA : ¬ A b) {i : Nat} (hi : i + 6 ≤ L) (hL : L ≤ 3072) {cells slots : Nat} (hc1 : cells + 692 ≤ 600000) (hs1 : slots + 11937 ≤ 7302250) {G : zG} {S : zSt} {d : zD} (I : Inv (zpk G) S d) {H : Heap} {locs : List Loc} (hw : zH D Y F A G S H) (hS : va_S A s.heap H locs) {ls : Array Slot} (hl : lv_has ls 4 [(0, .ref b), (1, .ref (F 20)), (2, .ref (F 0)), (3, .int (nI i))]) (kk : ∀ (G1 : zG) (S1 : zSt) (d1 : zD) (H1 : Heap) (locs1 : List Loc), Inv (zpk G1) S1 d1 → zH D Y F A G1 S1 H1 → va_S A s.heap H1 locs1 → W p l e room_1 s m #[Value.ref b] below meth c H1 locs1 (cells + 692) (slots + 11937) Q (F0 m 1653 ls [])) : W p l e room_1 s m #[Value.ref b] below meth c H locs cells slots Q (F0 m 1492 ls []) := by
  obtain ⟨hx, hb, hml, hr, hown, hts, hK, hA, hlk, hN⟩ := id C0
  have hrc := lw_rc
  have hrs := lw_rs
  refine lv_aload_n hx hb dL_law_1492 rfl (lv_at hl 1 rfl) ?_
  refine lv_aload_n hx hb dL_law_1493 rfl (lv_at hl 0 rfl) ?_
  refine lv_iload_n hx hb dL_law_1494 rfl (lv_at hl 3 rfl) ?_
  refine lv_iconst (v := 1) hx hb dL_law_1495 (by decide) ?_
  refine lv_iadd hx hb dL_law_1496 ?_
  refine va_sld hx hb hX hbl hbA hS (show vp_in (nI i + 1) L from lw_in hi hL (k := 1) (by decide)) dL_law_1497 ?_
  obtain ⟨r, S1, S2, e1, e2, d2, I2⟩ := s_years I (xs (Int32.toNatClampNeg (nI i + 1)))
  refine z_goi C0 hw hS (res := (r, S1)) (rest := []) (arr := (Value.ref (F 20) :: [.int (xs (Int32.toNatClampNeg (nI i + 1)))]).toArray) ?_ (fun H locs hw hS => ?_)
  · exact va_runV (z_fix C0) (c_X11_years l D Y F G S _ (xs (Int32.toNatClampNeg (nI i + 1))) (r, S1) e1) (cwV 1 hts gL_law_X11_years rfl rfl rfl (by decide +kernel) ⟨Nat.le_of_ble_eq_true rfl, Nat.le_of_ble_eq_true rfl⟩) ⟨zPc_blind, z_rv C0 hw (k := 20) rfl rfl rfl rfl, z_give C0 hw hS _⟩ rfl rfl hl.1 rfl (lv_room (Nat.le_of_ble_eq_true rfl)) dL_law_1498 ⟨by rw [hrc]; omega, by rw [hrs]; omega⟩
  refine lv_aload_n hx hb dL_law_1501 rfl (lv_at hl 2 rfl) ?_
  refine lv_aload_n hx hb dL_law_1502 rfl (lv_at hl 0 rfl) ?_
  refine lv_iload_n hx hb dL_law_1503 rfl (lv_at hl 3 rfl) ?_
  refine lv_iconst (v := 1) hx hb dL_law_1504 (by decide) ?_
  refine lv_iadd hx hb dL_law_1505 ?_
  refine va_sld hx hb hX hbl hbA hS (show vp_in (nI i + 1) L from lw_in hi hL (k := 1) (by decide)) dL_law_1506 ?_
  refine z_goi C0 hw hS (res := (r, S2)) (rest := [.int r]) (arr := (Value.ref (F 0) :: [.int (xs (Int32.toNatClampNeg (nI i + 1)))]).toArray) ?_ (fun H locs hw hS => ?_)
  · exact va_runV (z_fix C0) (c_X12_years l D Y F G S1 _ (xs (Int32.toNatClampNeg (nI i + 1))) (r, S2) e2) (cwV 1 hts gL_law_X12_years rfl rfl rfl (by decide +kernel) ⟨Nat.le_of_ble_eq_true rfl, Nat.le_of_ble_eq_true rfl⟩) ⟨zPc_blind, z_rv C0 hw (k := 0) rfl rfl rfl rfl, z_give C0 hw hS _⟩ rfl rfl hl.1 rfl (lv_room (Nat.le_of_ble_eq_true rfl)) dL_law_1507 ⟨by rw [hrc]; omega, by rw [hrs]; omega⟩
  refine lv_icmp_eq (tgt := 1653) hx hb dL_law_1510 (by decide) (fun _ => ?_) (fun q => absurd rfl q)
  refine W.widen (k := cells + 692) (n := slots + 11937) (by omega) (by omega) ?_
  exact kk G _ _ _ _ I2 hw hS
set_option maxHeartbeats 4000000 in
set_option maxRecDepth 100000 in
theorem lwa_36 {p : Program} {l : Launch} {e : Env} {s : State} {m : MethodId} {below : List Frame} {meth : Method} {c : Code} {D : va_G} {Y : Nat → ClassId} {F : Nat → Nat} {A : Nat → Prop} {b L : Nat} {xs : Nat → Int32} {Q : State → Prop} (C0 : zCx p s m #[Value.ref b] meth c D Y F A RL cL_law 4 ret wsL_law) (hX : va_X b L xs s s.heap) (hbl : b < s.heap.size) (hbA : ¬ A b) {i : Nat} (hi : i + 6 ≤ L) (hL : L ≤ 3072) {cells slots : Nat} (hc1 : cells + 692 ≤ 600000) (hs1 : slots + 11937 ≤ 7302250) {G : zG} {S : zSt} {d : zD} (I : Inv (zpk G) S d) {H : Heap} {locs : List Loc} (hw : zH D Y F A G S H) (hS : va_S A s.heap H locs) {ls : Array Slot} (hl : lv_has ls 4 [(0, .ref b), (1, .ref (F 20)), (2, .ref (F 0)), (3, .int (nI i))]) (kk : ∀ (G1 : zG) (S1 : zSt) (d1 : zD) (H1 : Heap) (locs1 : List Loc), Inv (zpk G1) S1 d1 → zH D Y F A G1 S1 H1 → va_S A s.heap H1 locs1 → W p l e room_1 s m #[Value.ref b] below meth c H1 locs1 (cells + 692) (slots + 11937) Q (F0 m 1653 ls [])) : W p l e room_1 s m #[Value.ref b] below meth c H locs cells slots Q (F0 m 1515 ls []) := by
  obtain ⟨hx, hb, hml, hr, hown, hts, hK, hA, hlk, hN⟩ := id C0
  have hrc := lw_rc
  have hrs := lw_rs
  refine lv_aload_n hx hb dL_law_1515 rfl (lv_at hl 1 rfl) ?_
  refine lv_aload_n hx hb dL_law_1516 rfl (lv_at hl 0 rfl) ?_
  refine lv_iload_n hx hb dL_law_1517 rfl (lv_at hl 3 rfl) ?_
  refine lv_iconst (v := 1) hx hb dL_law_1518 (by decide) ?_
  refine lv_iadd hx hb dL_law_1519 ?_
  refine va_sld hx hb hX hbl hbA hS (show vp_in (nI i + 1) L from lw_in hi hL (k := 1) (by decide)) dL_law_1520 ?_
  obtain ⟨r, S1, S2, e1, e2, d2, I2⟩ := s_seed I (xs (Int32.toNatClampNeg (nI i + 1)))
  refine z_goi C0 hw hS (res := (r, S1)) (rest := []) (arr := (Value.ref (F 20) :: [.int (xs (Int32.toNatClampNeg (nI i + 1)))]).toArray) ?_ (fun H locs hw hS => ?_)
  · exact va_runV (z_fix C0) (c_X11_seed l D Y F G S _ (xs (Int32.toNatClampNeg (nI i + 1))) (r, S1) e1) (cwV 1 hts gL_law_X11_seed rfl rfl rfl (by decide +kernel) ⟨Nat.le_of_ble_eq_true rfl, Nat.le_of_ble_eq_true rfl⟩) ⟨zPc_blind, z_rv C0 hw (k := 20) rfl rfl rfl rfl, z_give C0 hw hS _⟩ rfl rfl hl.1 rfl (lv_room (Nat.le_of_ble_eq_true rfl)) dL_law_1521 ⟨by rw [hrc]; omega, by rw [hrs]; omega⟩
  refine lv_aload_n hx hb dL_law_1524 rfl (lv_at hl 2 rfl) ?_
  refine lv_aload_n hx hb dL_law_1525 rfl (lv_at hl 0 rfl) ?_
  refine lv_iload_n hx hb dL_law_1526 rfl (lv_at hl 3 rfl) ?_
  refine lv_iconst (v := 1) hx hb dL_law_1527 (by decide) ?_
  refine lv_iadd hx hb dL_law_1528 ?_
  refine va_sld hx hb hX hbl hbA hS (show vp_in (nI i + 1) L from lw_in hi hL (k := 1) (by decide)) dL_law_1529 ?_
  refine z_goi C0 hw hS (res := (r, S2)) (rest := [.int r]) (arr := (Value.ref (F 0) :: [.int (xs (Int32.toNatClampNeg (nI i + 1)))]).toArray) ?_ (fun H locs hw hS => ?_)
  · exact va_runV (z_fix C0) (c_X12_seed l D Y F G S1 _ (xs (Int32.toNatClampNeg (nI i + 1))) (r, S2) e2) (cwV 1 hts gL_law_X12_seed rfl rfl rfl (by decide +kernel) ⟨Nat.le_of_ble_eq_true rfl, Nat.le_of_ble_eq_true rfl⟩) ⟨zPc_blind, z_rv C0 hw (k := 0) rfl rfl rfl rfl, z_give C0 hw hS _⟩ rfl rfl hl.1 rfl (lv_room (Nat.le_of_ble_eq_true rfl)) dL_law_1530 ⟨by rw [hrc]; omega, by rw [hrs]; omega⟩
  refine lv_icmp_eq (tgt := 1653) hx hb dL_law_1533 (by decide) (fun _ => ?_) (fun q => absurd rfl q)
  refine W.widen (k := cells + 692) (n := slots + 11937) (by omega) (by omega) ?_
  exact kk G _ _ _ _ I2 hw hS
set_option maxHeartbeats 4000000 in
set_option maxRecDepth 100000 in
theorem lwa_37 {p : Program} {l : Launch} {e : Env} {s : State} {m : MethodId} {below : List Frame} {meth : Method} {c : Code} {D : va_G} {Y : Nat → ClassId} {F : Nat → Nat} {A : Nat → Prop} {b L : Nat} {xs : Nat → Int32} {Q : State → Prop} (C0 : zCx p s m #[Value.ref b] meth c D Y F A RL cL_law 4 ret wsL_law) (hX : va_X b L xs s s.heap) (hbl : b < s.heap.size) (hbA : ¬ A b) {i : Nat} (hi : i + 6 ≤ L) (hL : L ≤ 3072) {cells slots : Nat} (hc1 : cells + 692 ≤ 600000) (hs1 : slots + 11937 ≤ 7302250) {G : zG} {S : zSt} {d : zD} (I : Inv (zpk G) S d) {H : Heap} {locs : List Loc} (hw : zH D Y F A G S H) (hS : va_S A s.heap H locs) {ls : Array Slot} (hl : lv_has ls 4 [(0, .ref b), (1, .ref (F 20)), (2, .ref (F 0)), (3, .int (nI i))]) (kk : ∀ (G1 : zG) (S1 : zSt) (d1 : zD) (H1 : Heap) (locs1 : List Loc), Inv (zpk G1) S1 d1 → zH D Y F A G1 S1 H1 → va_S A s.heap H1 locs1 → W p l e room_1 s m #[Value.ref b] below meth c H1 locs1 (cells + 692) (slots + 11937) Q (F0 m 1653 ls [])) : W p l e room_1 s m #[Value.ref b] below meth c H locs cells slots Q (F0 m 1538 ls []) := by
  obtain ⟨hx, hb, hml, hr, hown, hts, hK, hA, hlk, hN⟩ := id C0
  have hrc := lw_rc
  have hrs := lw_rs
  refine lv_aload_n hx hb dL_law_1538 rfl (lv_at hl 1 rfl) ?_
  refine lv_aload_n hx hb dL_law_1539 rfl (lv_at hl 0 rfl) ?_
  refine lv_iload_n hx hb dL_law_1540 rfl (lv_at hl 3 rfl) ?_
  refine lv_iconst (v := 1) hx hb dL_law_1541 (by decide) ?_
  refine lv_iadd hx hb dL_law_1542 ?_
  refine va_sld hx hb hX hbl hbA hS (show vp_in (nI i + 1) L from lw_in hi hL (k := 1) (by decide)) dL_law_1543 ?_
  refine lv_aload_n hx hb dL_law_1544 rfl (lv_at hl 0 rfl) ?_
  refine lv_iload_n hx hb dL_law_1545 rfl (lv_at hl 3 rfl) ?_
  refine lv_iconst (v := 2) hx hb dL_law_1546 (by decide) ?_
  refine lv_iadd hx hb dL_law_1547 ?_
  refine va_sld hx hb hX hbl hbA hS (show vp_in (nI i + 2) L from lw_in hi hL (k := 2) (by decide)) dL_law_1548 ?_
  refine lv_aload_n hx hb dL_law_1549 rfl (lv_at hl 0 rfl) ?_
  refine lv_iload_n hx hb dL_law_1550 rfl (lv_at hl 3 rfl) ?_
  refine lv_iconst (v := 3) hx hb dL_law_1551 (by decide) ?_
  refine lv_iadd hx hb dL_law_1552 ?_
  refine va_sld hx hb hX hbl hbA hS (show vp_in (nI i + 3) L from lw_in hi hL (k := 3) (by decide)) dL_law_1553 ?_
  obtain ⟨r, S1, S2, e1, e2, d2, I2⟩ := s_act I (xs (Int32.toNatClampNeg (nI i + 1))) (xs (Int32.toNatClampNeg (nI i + 2))) (xs (Int32.toNatClampNeg (nI i + 3)))
  refine z_goi C0 hw hS (res := (r, S1)) (rest := []) (arr := (Value.ref (F 20) :: [.int (xs (Int32.toNatClampNeg (nI i + 1))), .int (xs (Int32.toNatClampNeg (nI i + 2))), .int (xs (Int32.toNatClampNeg (nI i + 3)))]).toArray) ?_ (fun H locs hw hS => ?_)
  · exact va_runV (z_fix C0) (c_X11_act l D Y F G S _ (xs (Int32.toNatClampNeg (nI i + 1))) (xs (Int32.toNatClampNeg (nI i + 2))) (xs (Int32.toNatClampNeg (nI i + 3))) (r, S1) e1) (cwV 3 hts gL_law_X11_act rfl rfl rfl (by decide +kernel) ⟨Nat.le_of_ble_eq_true rfl, Nat.le_of_ble_eq_true rfl⟩) ⟨zPc_blind, z_rv C0 hw (k := 20) rfl rfl rfl rfl, z_give C0 hw hS _⟩ rfl rfl hl.1 rfl (lv_room (Nat.le_of_ble_eq_true rfl)) dL_law_1554 ⟨by rw [hrc]; omega, by rw [hrs]; omega⟩
  refine lv_aload_n hx hb dL_law_1557 rfl (lv_at hl 2 rfl) ?_
  refine lv_aload_n hx hb dL_law_1558 rfl (lv_at hl 0 rfl) ?_
  refine lv_iload_n hx hb dL_law_1559 rfl (lv_at hl 3 rfl) ?_
  refine lv_iconst (v := 1) hx hb dL_law_1560 (by decide) ?_
  refine lv_iadd hx hb dL_law_1561 ?_
  refine va_sld hx hb hX hbl hbA hS (show vp_in (nI i + 1) L from lw_in hi hL (k := 1) (by decide)) dL_law_1562 ?_
  refine lv_aload_n hx hb dL_law_1563 rfl (lv_at hl 0 rfl) ?_
  refine lv_iload_n hx hb dL_law_1564 rfl (lv_at hl 3 rfl) ?_
  refine lv_iconst (v := 2) hx hb dL_law_1565 (by decide) ?_
  refine lv_iadd hx hb dL_law_1566 ?_
  refine va_sld hx hb hX hbl hbA hS (show vp_in (nI i + 2) L from lw_in hi hL (k := 2) (by decide)) dL_law_1567 ?_
  refine lv_aload_n hx hb dL_law_1568 rfl (lv_at hl 0 rfl) ?_
  refine lv_iload_n hx hb dL_law_1569 rfl (lv_at hl 3 rfl) ?_
  refine lv_iconst (v := 3) hx hb dL_law_1570 (by decide) ?_
  refine lv_iadd hx hb dL_law_1571 ?_
  refine va_sld hx hb hX hbl hbA hS (show vp_in (nI i + 3) L from lw_in hi hL (k := 3) (by decide)) dL_law_1572 ?_
  refine z_goi C0 hw hS (res := (r, S2)) (rest := [.int r]) (arr := (Value.ref (F 0) :: [.int (xs (Int32.toNatClampNeg (nI i + 1))), .int (xs (Int32.toNatClampNeg (nI i + 2))), .int (xs (Int32.toNatClampNeg (nI i + 3)))]).toArray) ?_ (fun H locs hw hS => ?_)
  · exact va_runV (z_fix C0) (c_X12_act l D Y F G S1 _ (xs (Int32.toNatClampNeg (nI i + 1))) (xs (Int32.toNatClampNeg (nI i + 2))) (xs (Int32.toNatClampNeg (nI i + 3))) (r, S2) e2) (cwV 3 hts gL_law_X12_act rfl rfl rfl (by decide +kernel) ⟨Nat.le_of_ble_eq_true rfl, Nat.le_of_ble_eq_true rfl⟩) ⟨zPc_blind, z_rv C0 hw (k := 0) rfl rfl rfl rfl, z_give C0 hw hS _⟩ rfl rfl hl.1 rfl (lv_room (Nat.le_of_ble_eq_true rfl)) dL_law_1573 ⟨by rw [hrc]; omega, by rw [hrs]; omega⟩
  refine lv_icmp_eq (tgt := 1653) hx hb dL_law_1576 (by decide) (fun _ => ?_) (fun q => absurd rfl q)
  refine W.widen (k := cells + 692) (n := slots + 11937) (by omega) (by omega) ?_
  exact kk G _ _ _ _ I2 hw hS
set_option maxHeartbeats 4000000 in
set_option maxRecDepth 100000 in
theorem lwa_38 {p : Program} {l : Launch} {e : Env} {s : State} {m : MethodId} {below : List Frame} {meth : Method} {c : Code} {D : va_G} {Y : Nat → ClassId} {F : Nat → Nat} {A : Nat → Prop} {b L : Nat} {xs : Nat → Int32} {Q : State → Prop} (C0 : zCx p s m #[Value.ref b] meth c D Y F A RL cL_law 4 ret wsL_law) (hX : va_X b L xs s s.heap) (hbl : b < s.heap.size) (hbA : ¬ A b) {i : Nat} (hi : i + 6 ≤ L) (hL : L ≤ 3072) {cells slots : Nat} (hc1 : cells + 692 ≤ 600000) (hs1 : slots + 11937 ≤ 7302250) {G : zG} {S : zSt} {d : zD} (I : Inv (zpk G) S d) {H : Heap} {locs : List Loc} (hw : zH D Y F A G S H) (hS : va_S A s.heap H locs) {ls : Array Slot} (hl : lv_has ls 4 [(0, .ref b), (1, .ref (F 20)), (2, .ref (F 0)), (3, .int (nI i))]) (kk : ∀ (G1 : zG) (S1 : zSt) (d1 : zD) (H1 : Heap) (locs1 : List Loc), Inv (zpk G1) S1 d1 → zH D Y F A G1 S1 H1 → va_S A s.heap H1 locs1 → W p l e room_1 s m #[Value.ref b] below meth c H1 locs1 (cells + 692) (slots + 11937) Q (F0 m 1653 ls [])) : W p l e room_1 s m #[Value.ref b] below meth c H locs cells slots Q (F0 m 1581 ls []) := by
  obtain ⟨hx, hb, hml, hr, hown, hts, hK, hA, hlk, hN⟩ := id C0
  have hrc := lw_rc
  have hrs := lw_rs
  refine lv_aload_n hx hb dL_law_1581 rfl (lv_at hl 1 rfl) ?_
  refine lv_aload_n hx hb dL_law_1582 rfl (lv_at hl 0 rfl) ?_
  refine lv_iload_n hx hb dL_law_1583 rfl (lv_at hl 3 rfl) ?_
  refine lv_iconst (v := 1) hx hb dL_law_1584 (by decide) ?_
  refine lv_iadd hx hb dL_law_1585 ?_
  refine va_sld hx hb hX hbl hbA hS (show vp_in (nI i + 1) L from lw_in hi hL (k := 1) (by decide)) dL_law_1586 ?_
  obtain ⟨r, e1, e2⟩ := s_trace I (xs (Int32.toNatClampNeg (nI i + 1)))
  refine z_goi C0 hw hS (res := (r, S)) (rest := []) (arr := (Value.ref (F 20) :: [.int (xs (Int32.toNatClampNeg (nI i + 1)))]).toArray) ?_ (fun H locs hw hS => ?_)
  · exact va_runV (z_fix C0) (c_X11_trace l D Y F G S _ (xs (Int32.toNatClampNeg (nI i + 1))) r e1) (cwV 1 hts gL_law_X11_trace rfl rfl rfl (by decide +kernel) ⟨Nat.le_of_ble_eq_true rfl, Nat.le_of_ble_eq_true rfl⟩) ⟨zPc_blind, z_rv C0 hw (k := 20) rfl rfl rfl rfl, z_give C0 hw hS _⟩ rfl rfl hl.1 rfl (lv_room (Nat.le_of_ble_eq_true rfl)) dL_law_1587 ⟨by rw [hrc]; omega, by rw [hrs]; omega⟩
  refine lv_aload_n hx hb dL_law_1590 rfl (lv_at hl 2 rfl) ?_
  refine lv_aload_n hx hb dL_law_1591 rfl (lv_at hl 0 rfl) ?_
  refine lv_iload_n hx hb dL_law_1592 rfl (lv_at hl 3 rfl) ?_
  refine lv_iconst (v := 1) hx hb dL_law_1593 (by decide) ?_
  refine lv_iadd hx hb dL_law_1594 ?_
  refine va_sld hx hb hX hbl hbA hS (show vp_in (nI i + 1) L from lw_in hi hL (k := 1) (by decide)) dL_law_1595 ?_
  refine z_goi C0 hw hS (res := (r, S)) (rest := [.int r]) (arr := (Value.ref (F 0) :: [.int (xs (Int32.toNatClampNeg (nI i + 1)))]).toArray) ?_ (fun H locs hw hS => ?_)
  · exact va_runV (z_fix C0) (c_X12_trace l D Y F G S _ (xs (Int32.toNatClampNeg (nI i + 1))) r e2) (cwV 1 hts gL_law_X12_trace rfl rfl rfl (by decide +kernel) ⟨Nat.le_of_ble_eq_true rfl, Nat.le_of_ble_eq_true rfl⟩) ⟨zPc_blind, z_rv C0 hw (k := 0) rfl rfl rfl rfl, z_give C0 hw hS _⟩ rfl rfl hl.1 rfl (lv_room (Nat.le_of_ble_eq_true rfl)) dL_law_1596 ⟨by rw [hrc]; omega, by rw [hrs]; omega⟩
  refine lv_icmp_eq (tgt := 1653) hx hb dL_law_1599 (by decide) (fun _ => ?_) (fun q => absurd rfl q)
  refine W.widen (k := cells + 692) (n := slots + 11937) (by omega) (by omega) ?_
  exact kk G _ _ _ _ I hw hS
set_option maxHeartbeats 4000000 in
set_option maxRecDepth 100000 in
theorem lwa_39 {p : Program} {l : Launch} {e : Env} {s : State} {m : MethodId} {below : List Frame} {meth : Method} {c : Code} {D : va_G} {Y : Nat → ClassId} {F : Nat → Nat} {A : Nat → Prop} {b L : Nat} {xs : Nat → Int32} {Q : State → Prop} (C0 : zCx p s m #[Value.ref b] meth c D Y F A RL cL_law 4 ret wsL_law) (hX : va_X b L xs s s.heap) (hbl : b < s.heap.size) (hbA : ¬ A b) {i : Nat} (hi : i + 6 ≤ L) (hL : L ≤ 3072) {cells slots : Nat} (hc1 : cells + 692 ≤ 600000) (hs1 : slots + 11937 ≤ 7302250) {G : zG} {S : zSt} {d : zD} (I : Inv (zpk G) S d) {H : Heap} {locs : List Loc} (hw : zH D Y F A G S H) (hS : va_S A s.heap H locs) {ls : Array Slot} (hl : lv_has ls 4 [(0, .ref b), (1, .ref (F 20)), (2, .ref (F 0)), (3, .int (nI i))]) (kk : ∀ (G1 : zG) (S1 : zSt) (d1 : zD) (H1 : Heap) (locs1 : List Loc), Inv (zpk G1) S1 d1 → zH D Y F A G1 S1 H1 → va_S A s.heap H1 locs1 → W p l e room_1 s m #[Value.ref b] below meth c H1 locs1 (cells + 692) (slots + 11937) Q (F0 m 1653 ls [])) : W p l e room_1 s m #[Value.ref b] below meth c H locs cells slots Q (F0 m 1604 ls []) := by
  obtain ⟨hx, hb, hml, hr, hown, hts, hK, hA, hlk, hN⟩ := id C0
  have hrc := lw_rc
  have hrs := lw_rs
  refine lv_aload_n hx hb dL_law_1604 rfl (lv_at hl 1 rfl) ?_
  obtain ⟨r, pk1, S1, S2, e1, e2, d2, I2⟩ := s_image I
  refine z_goiG (mc := 24) (ms := 414) C0 hw hS (res := (r, pk1, S1)) (rest := []) (arr := (Value.ref (F 20) :: []).toArray) ?_ (fun G1 H locs eG hw hS => ?_)
  · exact va_runV (z_fix C0) (c_X11_image l D Y F G S _ (r, pk1, S1) e1) (cwV 0 hts gL_law_X11_image rfl rfl rfl (by decide +kernel) ⟨Nat.le_of_ble_eq_true rfl, Nat.le_of_ble_eq_true rfl⟩) ⟨zPc_blind, z_rv C0 hw (k := 20) rfl rfl rfl rfl, z_give C0 hw hS _⟩ rfl rfl hl.1 rfl (lv_room (Nat.le_of_ble_eq_true rfl)) dL_law_1605 ⟨by rw [hrc]; omega, by rw [hrs]; omega⟩
  have eG : zpk G1 = pk1 := eG
  subst eG
  refine lv_aload_n hx hb dL_law_1608 rfl (lv_at hl 2 rfl) ?_
  refine z_goi C0 hw hS (res := (r, S2)) (rest := [.int r]) (arr := (Value.ref (F 0) :: []).toArray) ?_ (fun H locs hw hS => ?_)
  · exact va_runV (z_fix C0) (c_X12_image l D Y F G1 S1 _ (r, S2) e2) (cwV 0 hts gL_law_X12_image rfl rfl rfl (by decide +kernel) ⟨Nat.le_of_ble_eq_true rfl, Nat.le_of_ble_eq_true rfl⟩) ⟨zPc_blind, z_rv C0 hw (k := 0) rfl rfl rfl rfl, z_give C0 hw hS _⟩ rfl rfl hl.1 rfl (lv_room (Nat.le_of_ble_eq_true rfl)) dL_law_1609 ⟨by rw [hrc]; omega, by rw [hrs]; omega⟩
  refine lv_icmp_eq (tgt := 1653) hx hb dL_law_1612 (by decide) (fun _ => ?_) (fun q => absurd rfl q)
  refine W.widen (k := cells + 692) (n := slots + 11937) (by omega) (by omega) ?_
  exact kk G1 _ _ _ _ I2 hw hS
set_option maxHeartbeats 4000000 in
set_option maxRecDepth 100000 in
theorem lwa_40 {p : Program} {l : Launch} {e : Env} {s : State} {m : MethodId} {below : List Frame} {meth : Method} {c : Code} {D : va_G} {Y : Nat → ClassId} {F : Nat → Nat} {A : Nat → Prop} {b L : Nat} {xs : Nat → Int32} {Q : State → Prop} (C0 : zCx p s m #[Value.ref b] meth c D Y F A RL cL_law 4 ret wsL_law) (hX : va_X b L xs s s.heap) (hbl : b < s.heap.size) (hbA : ¬ A b) {i : Nat} (hi : i + 6 ≤ L) (hL : L ≤ 3072) {cells slots : Nat} (hc1 : cells + 692 ≤ 600000) (hs1 : slots + 11937 ≤ 7302250) {G : zG} {S : zSt} {d : zD} (I : Inv (zpk G) S d) {H : Heap} {locs : List Loc} (hw : zH D Y F A G S H) (hS : va_S A s.heap H locs) {ls : Array Slot} (hl : lv_has ls 4 [(0, .ref b), (1, .ref (F 20)), (2, .ref (F 0)), (3, .int (nI i))]) (kk : ∀ (G1 : zG) (S1 : zSt) (d1 : zD) (H1 : Heap) (locs1 : List Loc), Inv (zpk G1) S1 d1 → zH D Y F A G1 S1 H1 → va_S A s.heap H1 locs1 → W p l e room_1 s m #[Value.ref b] below meth c H1 locs1 (cells + 692) (slots + 11937) Q (F0 m 1653 ls [])) : W p l e room_1 s m #[Value.ref b] below meth c H locs cells slots Q (F0 m 1617 ls []) := by
  obtain ⟨hx, hb, hml, hr, hown, hts, hK, hA, hlk, hN⟩ := id C0
  have hrc := lw_rc
  have hrs := lw_rs
  refine lv_aload_n hx hb dL_law_1617 rfl (lv_at hl 1 rfl) ?_
  obtain ⟨r, pk1, S1, S2, e1, e2, d2, I2⟩ := s_restore I
  refine z_goiG (mc := 24) (ms := 414) C0 hw hS (res := (r, pk1, S1)) (rest := []) (arr := (Value.ref (F 20) :: []).toArray) ?_ (fun G1 H locs eG hw hS => ?_)
  · exact va_runV (z_fix C0) (c_X11_restore l D Y F G S _ (r, pk1, S1) e1) (cwV 0 hts gL_law_X11_restore rfl rfl rfl (by decide +kernel) ⟨Nat.le_of_ble_eq_true rfl, Nat.le_of_ble_eq_true rfl⟩) ⟨zPc_blind, z_rv C0 hw (k := 20) rfl rfl rfl rfl, z_give C0 hw hS _⟩ rfl rfl hl.1 rfl (lv_room (Nat.le_of_ble_eq_true rfl)) dL_law_1618 ⟨by rw [hrc]; omega, by rw [hrs]; omega⟩
  have eG : zpk G1 = pk1 := eG
  subst eG
  refine lv_aload_n hx hb dL_law_1621 rfl (lv_at hl 2 rfl) ?_
  refine z_goi C0 hw hS (res := (r, S2)) (rest := [.int r]) (arr := (Value.ref (F 0) :: []).toArray) ?_ (fun H locs hw hS => ?_)
  · exact va_runV (z_fix C0) (c_X12_restore l D Y F G1 S1 _ (r, S2) e2) (cwV 0 hts gL_law_X12_restore rfl rfl rfl (by decide +kernel) ⟨Nat.le_of_ble_eq_true rfl, Nat.le_of_ble_eq_true rfl⟩) ⟨zPc_blind, z_rv C0 hw (k := 0) rfl rfl rfl rfl, z_give C0 hw hS _⟩ rfl rfl hl.1 rfl (lv_room (Nat.le_of_ble_eq_true rfl)) dL_law_1622 ⟨by rw [hrc]; omega, by rw [hrs]; omega⟩
  refine lv_icmp_eq (tgt := 1653) hx hb dL_law_1625 (by decide) (fun _ => ?_) (fun q => absurd rfl q)
  refine W.widen (k := cells + 692) (n := slots + 11937) (by omega) (by omega) ?_
  exact kk G1 _ _ _ _ I2 hw hS
set_option maxHeartbeats 4000000 in
set_option maxRecDepth 100000 in
theorem lwa_41 {p : Program} {l : Launch} {e : Env} {s : State} {m : MethodId} {below : List Frame} {meth : Method} {c : Code} {D : va_G} {Y : Nat → ClassId} {F : Nat → Nat} {A : Nat → Prop} {b L : Nat} {xs : Nat → Int32} {Q : State → Prop} (C0 : zCx p s m #[Value.ref b] meth c D Y F A RL cL_law 4 ret wsL_law) (hX : va_X b L xs s s.heap) (hbl : b < s.heap.size) (hbA : ¬ A b) {i : Nat} (hi : i + 6 ≤ L) (hL : L ≤ 3072) {cells slots : Nat} (hc1 : cells + 692 ≤ 600000) (hs1 : slots + 11937 ≤ 7302250) {G : zG} {S : zSt} {d : zD} (I : Inv (zpk G) S d) {H : Heap} {locs : List Loc} (hw : zH D Y F A G S H) (hS : va_S A s.heap H locs) {ls : Array Slot} (hl : lv_has ls 4 [(0, .ref b), (1, .ref (F 20)), (2, .ref (F 0)), (3, .int (nI i))]) (kk : ∀ (G1 : zG) (S1 : zSt) (d1 : zD) (H1 : Heap) (locs1 : List Loc), Inv (zpk G1) S1 d1 → zH D Y F A G1 S1 H1 → va_S A s.heap H1 locs1 → W p l e room_1 s m #[Value.ref b] below meth c H1 locs1 (cells + 692) (slots + 11937) Q (F0 m 1653 ls [])) : W p l e room_1 s m #[Value.ref b] below meth c H locs cells slots Q (F0 m 1630 ls []) := by
  obtain ⟨hx, hb, hml, hr, hown, hts, hK, hA, hlk, hN⟩ := id C0
  have hrc := lw_rc
  have hrs := lw_rs
  refine lv_aload_n hx hb dL_law_1630 rfl (lv_at hl 1 rfl) ?_
  refine lv_aload_n hx hb dL_law_1631 rfl (lv_at hl 0 rfl) ?_
  refine lv_iload_n hx hb dL_law_1632 rfl (lv_at hl 3 rfl) ?_
  refine lv_iconst (v := 1) hx hb dL_law_1633 (by decide) ?_
  refine lv_iadd hx hb dL_law_1634 ?_
  refine va_sld hx hb hX hbl hbA hS (show vp_in (nI i + 1) L from lw_in hi hL (k := 1) (by decide)) dL_law_1635 ?_
  obtain ⟨r, e1, e2⟩ := s_status I (xs (Int32.toNatClampNeg (nI i + 1)))
  refine z_goi C0 hw hS (res := (r, S)) (rest := []) (arr := (Value.ref (F 20) :: [.int (xs (Int32.toNatClampNeg (nI i + 1)))]).toArray) ?_ (fun H locs hw hS => ?_)
  · exact va_runV (z_fix C0) (c_X11_status l D Y F G S _ (xs (Int32.toNatClampNeg (nI i + 1))) r e1) (cwV 1 hts gL_law_X11_status rfl rfl rfl (by decide +kernel) ⟨Nat.le_of_ble_eq_true rfl, Nat.le_of_ble_eq_true rfl⟩) ⟨zPc_blind, z_rv C0 hw (k := 20) rfl rfl rfl rfl, z_give C0 hw hS _⟩ rfl rfl hl.1 rfl (lv_room (Nat.le_of_ble_eq_true rfl)) dL_law_1636 ⟨by rw [hrc]; omega, by rw [hrs]; omega⟩
  refine lv_aload_n hx hb dL_law_1639 rfl (lv_at hl 2 rfl) ?_
  refine lv_aload_n hx hb dL_law_1640 rfl (lv_at hl 0 rfl) ?_
  refine lv_iload_n hx hb dL_law_1641 rfl (lv_at hl 3 rfl) ?_
  refine lv_iconst (v := 1) hx hb dL_law_1642 (by decide) ?_
  refine lv_iadd hx hb dL_law_1643 ?_
  refine va_sld hx hb hX hbl hbA hS (show vp_in (nI i + 1) L from lw_in hi hL (k := 1) (by decide)) dL_law_1644 ?_
  refine z_goi C0 hw hS (res := (r, S)) (rest := [.int r]) (arr := (Value.ref (F 0) :: [.int (xs (Int32.toNatClampNeg (nI i + 1)))]).toArray) ?_ (fun H locs hw hS => ?_)
  · exact va_runV (z_fix C0) (c_X12_status l D Y F G S _ (xs (Int32.toNatClampNeg (nI i + 1))) r e2) (cwV 1 hts gL_law_X12_status rfl rfl rfl (by decide +kernel) ⟨Nat.le_of_ble_eq_true rfl, Nat.le_of_ble_eq_true rfl⟩) ⟨zPc_blind, z_rv C0 hw (k := 0) rfl rfl rfl rfl, z_give C0 hw hS _⟩ rfl rfl hl.1 rfl (lv_room (Nat.le_of_ble_eq_true rfl)) dL_law_1645 ⟨by rw [hrc]; omega, by rw [hrs]; omega⟩
  refine lv_icmp_eq (tgt := 1653) hx hb dL_law_1648 (by decide) (fun _ => ?_) (fun q => absurd rfl q)
  refine W.widen (k := cells + 692) (n := slots + 11937) (by omega) (by omega) ?_
  exact kk G _ _ _ _ I hw hS
