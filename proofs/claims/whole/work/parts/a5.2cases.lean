/-! the law's cases -/
def lcs_22 (fu gu : Nat) (xs : Nat → Int32) (SL : Nat) (i : Int32) (μ : Mem) : Option Mem :=
  ckI (i + (1 : Int32)) SL <|
  ckI (i + (2 : Int32)) SL <|
  bnd (fL_levelAt 0 (xs (i + (1 : Int32)).toNatClampNeg) (xs (i + (2 : Int32)).toNatClampNeg) 0 μ) fun x2 μ1 =>
  ckI (i + (1 : Int32)) SL <|
  ckI (i + (2 : Int32)) SL <|
  bndJ μ1 (fX13_levelAt 0 (xs (i + (1 : Int32)).toNatClampNeg) (xs (i + (2 : Int32)).toNatClampNeg) (kJ μ μ1)) fun x4 μ3 =>
  bndJ μ3 (fX13_thrown 0 (kJ μ μ3)) fun x6 μ5 =>
  if x6 = x2 then (
    jn (fun (μ8 : Mem) =>
      some μ8
    ) fun j1440 =>
    if ¬ x2 = 0 then (
      j1440 μ5
    ) else (
      ckI (0 : Int32) (1) <|
      if (lg_cmp (μ5.2.2 31 0 (0 : Int32).toNatClampNeg) (x4.toInt64)) = 0 then (
        j1440 μ5
      ) else (
        none
      )
    )
  ) else (
    none
  )
set_option maxHeartbeats 4000000 in
set_option maxRecDepth 100000 in
theorem lcz_22 {X : CX} (hT : (xl X).stackTraces = false) (V : 2 ≤ xv X) (C : Ok X RL cL_law) (R0 : Rm X 2048 84000 601024 7293034) (hN : ∀ i : Nat, i < 8 → i < xn X) {bs SL : Nat} {xs : Nat → Int32} (S : Scr X bs SL xs) (fu gu : Nat) {ca sl : Nat} (hc : ca + 2 ≤ 601024) (hs : sl + 12 ≤ 7293034) (i : Int32) (μ r0 : Mem) (H0 : J X (ca + 2) (sl + 12) r0 2636 [(4, .int i), (0, .ref bs), (1, .ref (xa X 0 0)), (2, .ref (xa X 26 0)), (3, .ref (xa X 31 0))] []) : G X r0 ca sl μ 1375 [(4, .int i), (0, .ref bs), (1, .ref (xa X 0 0)), (2, .ref (xa X 26 0)), (3, .ref (xa X 31 0))] [] (lcs_22 fu gu xs SL i μ) := by
  unfold lcs_22
  refine s_aload_n C dL_law_1375 rfl 2 rfl ?_
  refine s_aload_n C dL_law_1376 rfl 1 rfl ?_
  refine s_iload C dL_law_1377 0 rfl ?_
  refine s_iconst (v := (1 : Int32)) C dL_law_1379 (by decide) ?_
  refine s_iadd C dL_law_1380 ?_
  refine s_sld C S dL_law_1381 ?_
  refine s_aload_n C dL_law_1382 rfl 1 rfl ?_
  refine s_iload C dL_law_1383 0 rfl ?_
  refine s_iconst (v := (2 : Int32)) C dL_law_1385 (by decide) ?_
  refine s_iadd C dL_law_1386 ?_
  refine s_sld C S dL_law_1387 ?_
  refine s_aload_n C dL_law_1388 rfl 4 rfl ?_
  refine s_callH (n := 4) C R0 (kL_levelAt (xl X) hT 0 (by decide) (xs (i + (1 : Int32)).toNatClampNeg) (xs (i + (2 : Int32)).toNatClampNeg) 0 (by decide)) (Nat.le_trans (by decide) V) q154 q1357 ⟨by decide +kernel, by decide +kernel, by decide +kernel⟩ q1356 q1355 rfl rfl rfl (Nat.le_of_ble_eq_true rfl) ⟨Nat.le_of_ble_eq_true rfl, Nat.le_of_ble_eq_true rfl, by omega, by omega⟩ dL_law_1389 (fun x2 μ1 => ?_)
  refine g_st (st' := [.int x2]) rfl ?_
  refine s_istore (L' := [(5, .int x2), (4, .int i), (0, .ref bs), (1, .ref (xa X 0 0)), (2, .ref (xa X 26 0)), (3, .ref (xa X 31 0))]) C dL_law_1392 (hN 5 (by decide)) rfl ?_
  refine s_aload_n C dL_law_1394 rfl 4 rfl ?_
  refine s_aload_n C dL_law_1395 rfl 2 rfl ?_
  refine s_iload C dL_law_1396 1 rfl ?_
  refine s_iconst (v := (1 : Int32)) C dL_law_1398 (by decide) ?_
  refine s_iadd C dL_law_1399 ?_
  refine s_sld C S dL_law_1400 ?_
  refine s_aload_n C dL_law_1401 rfl 2 rfl ?_
  refine s_iload C dL_law_1402 1 rfl ?_
  refine s_iconst (v := (2 : Int32)) C dL_law_1404 (by decide) ?_
  refine s_iadd C dL_law_1405 ?_
  refine s_sld C S dL_law_1406 ?_
  refine s_callM C R0 V (kX13_levelAt (xl X) 0 (by decide) (xs (i + (1 : Int32)).toNatClampNeg) (xs (i + (2 : Int32)).toNatClampNeg)) mmX13_levelAt miX13_levelAt q2352 (rc26 (Nat.le_trans (by decide) V)) (by decide) rfl rfl rfl (Nat.le_of_ble_eq_true rfl) ⟨Nat.le_of_ble_eq_true rfl, Nat.le_of_ble_eq_true rfl, by omega, by omega⟩ dL_law_1407 (fun x4 μ3 => ?_)
  refine g_st (st' := [.int x4]) rfl ?_
  refine s_istore (L' := [(6, .int x4), (5, .int x2), (4, .int i), (0, .ref bs), (1, .ref (xa X 0 0)), (2, .ref (xa X 26 0)), (3, .ref (xa X 31 0))]) C dL_law_1410 (hN 6 (by decide)) rfl ?_
  refine s_aload_n C dL_law_1412 rfl 5 rfl ?_
  refine s_callM C R0 V (kX13_thrown (xl X) 0 (by decide)) mmX13_thrown miX13_thrown q2229 (rc26 (Nat.le_trans (by decide) V)) (by decide) rfl rfl rfl (Nat.le_of_ble_eq_true rfl) ⟨Nat.le_of_ble_eq_true rfl, Nat.le_of_ble_eq_true rfl, by omega, by omega⟩ dL_law_1413 (fun x6 μ5 => ?_)
  refine g_st (st' := [.int x6]) rfl ?_
  refine s_iload C dL_law_1416 1 rfl ?_
  refine s_icmp_eq (tgt := 1423) C dL_law_1418 (by decide) (fun c7 => ?_) (fun c7 => ?_)
  ·
    refine g_jn (P := fun j1440 => ∀ (μ8 : Mem), G X r0 (ca + 2) (sl + 12) μ8 1440 [(0, .ref bs), (1, .ref (xa X 0 0)), (2, .ref (xa X 26 0)), (3, .ref (xa X 31 0)), (4, .int i)] [] (j1440 μ8)) ?_ (fun j1440 hj1440 => ?_)
    · intro μ8
      refine s_goto (tgt := 2636) C dL_law_1440 (by decide) ?_
      exact g_endL (ca1 := ca + 2) (sl1 := sl + 12) (by omega) (by omega) [4, 0, 1, 2, 3] rfl H0
    refine s_iload C dL_law_1423 1 rfl ?_
    refine s_if_ne (tgt := 1440) C dL_law_1425 (by decide) (fun c9 => ?_) (fun c9 => ?_)
    ·
      exact g_wid (ca1 := ca + 2) (sl1 := sl + 12) (by omega) (by omega) <| g_sub [3, 4, 5, 6, 2] rfl (hj1440 μ5)
    ·
      refine s_aload_n C dL_law_1428 rfl 6 rfl ?_
      refine s_iconst (v := (0 : Int32)) C dL_law_1429 (by decide) ?_
      refine s_lald C (ag31 V) (by decide) dL_law_1430 ?_
      refine s_iload C dL_law_1431 0 rfl ?_
      refine s_i2l C dL_law_1433 ?_
      refine s_lcmp C dL_law_1434 ?_
      refine s_if_eq (tgt := 1440) C dL_law_1435 (by decide) (fun c10 => ?_) (fun c10 => ?_)
      ·
        exact g_wid (ca1 := ca + 2) (sl1 := sl + 12) (by omega) (by omega) <| g_sub [3, 4, 5, 6, 2] rfl (hj1440 μ5)
      ·
        refine s_iconst (v := (0 : Int32)) C dL_law_1438 (by decide) ?_
        exact g_none
  ·
    refine s_iconst (v := (0 : Int32)) C dL_law_1421 (by decide) ?_
    exact g_none

def lcs_23 (fu gu : Nat) (xs : Nat → Int32) (SL : Nat) (i : Int32) (μ : Mem) : Option Mem :=
  ckI (i + (1 : Int32)) SL <|
  bnd (fL_edges 0 (xs (i + (1 : Int32)).toNatClampNeg) 0 μ) fun x2 μ1 =>
  ckI (i + (1 : Int32)) SL <|
  bndJ μ1 (fX13_edges 0 (xs (i + (1 : Int32)).toNatClampNeg) (kJ μ μ1)) fun x4 μ3 =>
  bndJ μ3 (fX13_thrown 0 (kJ μ μ3)) fun x6 μ5 =>
  if x6 = x2 then (
    jn (fun (μ8 : Mem) =>
      some μ8
    ) fun j1496 =>
    if ¬ x2 = 0 then (
      j1496 μ5
    ) else (
      ckI (0 : Int32) (1) <|
      if (lg_cmp (μ5.2.2 31 0 (0 : Int32).toNatClampNeg) (x4.toInt64)) = 0 then (
        j1496 μ5
      ) else (
        none
      )
    )
  ) else (
    none
  )
set_option maxHeartbeats 4000000 in
set_option maxRecDepth 100000 in
theorem lcz_23 {X : CX} (hT : (xl X).stackTraces = false) (V : 2 ≤ xv X) (C : Ok X RL cL_law) (R0 : Rm X 2048 84000 601024 7293034) (hN : ∀ i : Nat, i < 8 → i < xn X) {bs SL : Nat} {xs : Nat → Int32} (S : Scr X bs SL xs) (fu gu : Nat) {ca sl : Nat} (hc : ca + 1 ≤ 601024) (hs : sl + 6 ≤ 7293034) (i : Int32) (μ r0 : Mem) (H0 : J X (ca + 1) (sl + 6) r0 2636 [(4, .int i), (0, .ref bs), (1, .ref (xa X 0 0)), (2, .ref (xa X 26 0)), (3, .ref (xa X 31 0))] []) : G X r0 ca sl μ 1443 [(4, .int i), (0, .ref bs), (1, .ref (xa X 0 0)), (2, .ref (xa X 26 0)), (3, .ref (xa X 31 0))] [] (lcs_23 fu gu xs SL i μ) := by
  unfold lcs_23
  refine s_aload_n C dL_law_1443 rfl 2 rfl ?_
  refine s_aload_n C dL_law_1444 rfl 1 rfl ?_
  refine s_iload C dL_law_1445 0 rfl ?_
  refine s_iconst (v := (1 : Int32)) C dL_law_1447 (by decide) ?_
  refine s_iadd C dL_law_1448 ?_
  refine s_sld C S dL_law_1449 ?_
  refine s_aload_n C dL_law_1450 rfl 4 rfl ?_
  refine s_callH (n := 3) C R0 (kL_edges (xl X) hT 0 (by decide) (xs (i + (1 : Int32)).toNatClampNeg) 0 (by decide)) (Nat.le_trans (by decide) V) q154 q1368 ⟨by decide +kernel, by decide +kernel, by decide +kernel⟩ q1367 q1366 rfl rfl rfl (Nat.le_of_ble_eq_true rfl) ⟨Nat.le_of_ble_eq_true rfl, Nat.le_of_ble_eq_true rfl, by omega, by omega⟩ dL_law_1451 (fun x2 μ1 => ?_)
  refine g_st (st' := [.int x2]) rfl ?_
  refine s_istore (L' := [(5, .int x2), (4, .int i), (0, .ref bs), (1, .ref (xa X 0 0)), (2, .ref (xa X 26 0)), (3, .ref (xa X 31 0))]) C dL_law_1454 (hN 5 (by decide)) rfl ?_
  refine s_aload_n C dL_law_1456 rfl 4 rfl ?_
  refine s_aload_n C dL_law_1457 rfl 2 rfl ?_
  refine s_iload C dL_law_1458 1 rfl ?_
  refine s_iconst (v := (1 : Int32)) C dL_law_1460 (by decide) ?_
  refine s_iadd C dL_law_1461 ?_
  refine s_sld C S dL_law_1462 ?_
  refine s_callM C R0 V (kX13_edges (xl X) 0 (by decide) (xs (i + (1 : Int32)).toNatClampNeg)) mmX13_edges miX13_edges q2356 (rc26 (Nat.le_trans (by decide) V)) (by decide) rfl rfl rfl (Nat.le_of_ble_eq_true rfl) ⟨Nat.le_of_ble_eq_true rfl, Nat.le_of_ble_eq_true rfl, by omega, by omega⟩ dL_law_1463 (fun x4 μ3 => ?_)
  refine g_st (st' := [.int x4]) rfl ?_
  refine s_istore (L' := [(6, .int x4), (5, .int x2), (4, .int i), (0, .ref bs), (1, .ref (xa X 0 0)), (2, .ref (xa X 26 0)), (3, .ref (xa X 31 0))]) C dL_law_1466 (hN 6 (by decide)) rfl ?_
  refine s_aload_n C dL_law_1468 rfl 5 rfl ?_
  refine s_callM C R0 V (kX13_thrown (xl X) 0 (by decide)) mmX13_thrown miX13_thrown q2229 (rc26 (Nat.le_trans (by decide) V)) (by decide) rfl rfl rfl (Nat.le_of_ble_eq_true rfl) ⟨Nat.le_of_ble_eq_true rfl, Nat.le_of_ble_eq_true rfl, by omega, by omega⟩ dL_law_1469 (fun x6 μ5 => ?_)
  refine g_st (st' := [.int x6]) rfl ?_
  refine s_iload C dL_law_1472 1 rfl ?_
  refine s_icmp_eq (tgt := 1479) C dL_law_1474 (by decide) (fun c7 => ?_) (fun c7 => ?_)
  ·
    refine g_jn (P := fun j1496 => ∀ (μ8 : Mem), G X r0 (ca + 1) (sl + 6) μ8 1496 [(0, .ref bs), (1, .ref (xa X 0 0)), (2, .ref (xa X 26 0)), (3, .ref (xa X 31 0)), (4, .int i)] [] (j1496 μ8)) ?_ (fun j1496 hj1496 => ?_)
    · intro μ8
      refine s_goto (tgt := 2636) C dL_law_1496 (by decide) ?_
      exact g_endL (ca1 := ca + 1) (sl1 := sl + 6) (by omega) (by omega) [4, 0, 1, 2, 3] rfl H0
    refine s_iload C dL_law_1479 1 rfl ?_
    refine s_if_ne (tgt := 1496) C dL_law_1481 (by decide) (fun c9 => ?_) (fun c9 => ?_)
    ·
      exact g_wid (ca1 := ca + 1) (sl1 := sl + 6) (by omega) (by omega) <| g_sub [3, 4, 5, 6, 2] rfl (hj1496 μ5)
    ·
      refine s_aload_n C dL_law_1484 rfl 6 rfl ?_
      refine s_iconst (v := (0 : Int32)) C dL_law_1485 (by decide) ?_
      refine s_lald C (ag31 V) (by decide) dL_law_1486 ?_
      refine s_iload C dL_law_1487 0 rfl ?_
      refine s_i2l C dL_law_1489 ?_
      refine s_lcmp C dL_law_1490 ?_
      refine s_if_eq (tgt := 1496) C dL_law_1491 (by decide) (fun c10 => ?_) (fun c10 => ?_)
      ·
        exact g_wid (ca1 := ca + 1) (sl1 := sl + 6) (by omega) (by omega) <| g_sub [3, 4, 5, 6, 2] rfl (hj1496 μ5)
      ·
        refine s_iconst (v := (0 : Int32)) C dL_law_1494 (by decide) ?_
        exact g_none
  ·
    refine s_iconst (v := (0 : Int32)) C dL_law_1477 (by decide) ?_
    exact g_none

def lcs_24 (fu gu : Nat) (xs : Nat → Int32) (SL : Nat) (i : Int32) (μ : Mem) : Option Mem :=
  ckI (i + (1 : Int32)) SL <|
  bnd (fL_highTime 0 (xs (i + (1 : Int32)).toNatClampNeg) 0 μ) fun x2 μ1 =>
  ckI (i + (1 : Int32)) SL <|
  bndJ μ1 (fX13_highTime 0 (xs (i + (1 : Int32)).toNatClampNeg) (kJ μ μ1)) fun x4 μ3 =>
  bndJ μ3 (fX13_thrown 0 (kJ μ μ3)) fun x6 μ5 =>
  if x6 = x2 then (
    jn (fun (μ8 : Mem) =>
      some μ8
    ) fun j1552 =>
    if ¬ x2 = 0 then (
      j1552 μ5
    ) else (
      ckI (0 : Int32) (1) <|
      if (lg_cmp (μ5.2.2 31 0 (0 : Int32).toNatClampNeg) (x4.toInt64)) = 0 then (
        j1552 μ5
      ) else (
        none
      )
    )
  ) else (
    none
  )
set_option maxHeartbeats 4000000 in
set_option maxRecDepth 100000 in
theorem lcz_24 {X : CX} (hT : (xl X).stackTraces = false) (V : 2 ≤ xv X) (C : Ok X RL cL_law) (R0 : Rm X 2048 84000 601024 7293034) (hN : ∀ i : Nat, i < 8 → i < xn X) {bs SL : Nat} {xs : Nat → Int32} (S : Scr X bs SL xs) (fu gu : Nat) {ca sl : Nat} (hc : ca + 1 ≤ 601024) (hs : sl + 6 ≤ 7293034) (i : Int32) (μ r0 : Mem) (H0 : J X (ca + 1) (sl + 6) r0 2636 [(4, .int i), (0, .ref bs), (1, .ref (xa X 0 0)), (2, .ref (xa X 26 0)), (3, .ref (xa X 31 0))] []) : G X r0 ca sl μ 1499 [(4, .int i), (0, .ref bs), (1, .ref (xa X 0 0)), (2, .ref (xa X 26 0)), (3, .ref (xa X 31 0))] [] (lcs_24 fu gu xs SL i μ) := by
  unfold lcs_24
  refine s_aload_n C dL_law_1499 rfl 2 rfl ?_
  refine s_aload_n C dL_law_1500 rfl 1 rfl ?_
  refine s_iload C dL_law_1501 0 rfl ?_
  refine s_iconst (v := (1 : Int32)) C dL_law_1503 (by decide) ?_
  refine s_iadd C dL_law_1504 ?_
  refine s_sld C S dL_law_1505 ?_
  refine s_aload_n C dL_law_1506 rfl 4 rfl ?_
  refine s_callH (n := 3) C R0 (kL_highTime (xl X) hT 0 (by decide) (xs (i + (1 : Int32)).toNatClampNeg) 0 (by decide)) (Nat.le_trans (by decide) V) q154 q1375 ⟨by decide +kernel, by decide +kernel, by decide +kernel⟩ q1374 q1373 rfl rfl rfl (Nat.le_of_ble_eq_true rfl) ⟨Nat.le_of_ble_eq_true rfl, Nat.le_of_ble_eq_true rfl, by omega, by omega⟩ dL_law_1507 (fun x2 μ1 => ?_)
  refine g_st (st' := [.int x2]) rfl ?_
  refine s_istore (L' := [(5, .int x2), (4, .int i), (0, .ref bs), (1, .ref (xa X 0 0)), (2, .ref (xa X 26 0)), (3, .ref (xa X 31 0))]) C dL_law_1510 (hN 5 (by decide)) rfl ?_
  refine s_aload_n C dL_law_1512 rfl 4 rfl ?_
  refine s_aload_n C dL_law_1513 rfl 2 rfl ?_
  refine s_iload C dL_law_1514 1 rfl ?_
  refine s_iconst (v := (1 : Int32)) C dL_law_1516 (by decide) ?_
  refine s_iadd C dL_law_1517 ?_
  refine s_sld C S dL_law_1518 ?_
  refine s_callM C R0 V (kX13_highTime (xl X) 0 (by decide) (xs (i + (1 : Int32)).toNatClampNeg)) mmX13_highTime miX13_highTime q2360 (rc26 (Nat.le_trans (by decide) V)) (by decide) rfl rfl rfl (Nat.le_of_ble_eq_true rfl) ⟨Nat.le_of_ble_eq_true rfl, Nat.le_of_ble_eq_true rfl, by omega, by omega⟩ dL_law_1519 (fun x4 μ3 => ?_)
  refine g_st (st' := [.int x4]) rfl ?_
  refine s_istore (L' := [(6, .int x4), (5, .int x2), (4, .int i), (0, .ref bs), (1, .ref (xa X 0 0)), (2, .ref (xa X 26 0)), (3, .ref (xa X 31 0))]) C dL_law_1522 (hN 6 (by decide)) rfl ?_
  refine s_aload_n C dL_law_1524 rfl 5 rfl ?_
  refine s_callM C R0 V (kX13_thrown (xl X) 0 (by decide)) mmX13_thrown miX13_thrown q2229 (rc26 (Nat.le_trans (by decide) V)) (by decide) rfl rfl rfl (Nat.le_of_ble_eq_true rfl) ⟨Nat.le_of_ble_eq_true rfl, Nat.le_of_ble_eq_true rfl, by omega, by omega⟩ dL_law_1525 (fun x6 μ5 => ?_)
  refine g_st (st' := [.int x6]) rfl ?_
  refine s_iload C dL_law_1528 1 rfl ?_
  refine s_icmp_eq (tgt := 1535) C dL_law_1530 (by decide) (fun c7 => ?_) (fun c7 => ?_)
  ·
    refine g_jn (P := fun j1552 => ∀ (μ8 : Mem), G X r0 (ca + 1) (sl + 6) μ8 1552 [(0, .ref bs), (1, .ref (xa X 0 0)), (2, .ref (xa X 26 0)), (3, .ref (xa X 31 0)), (4, .int i)] [] (j1552 μ8)) ?_ (fun j1552 hj1552 => ?_)
    · intro μ8
      refine s_goto (tgt := 2636) C dL_law_1552 (by decide) ?_
      exact g_endL (ca1 := ca + 1) (sl1 := sl + 6) (by omega) (by omega) [4, 0, 1, 2, 3] rfl H0
    refine s_iload C dL_law_1535 1 rfl ?_
    refine s_if_ne (tgt := 1552) C dL_law_1537 (by decide) (fun c9 => ?_) (fun c9 => ?_)
    ·
      exact g_wid (ca1 := ca + 1) (sl1 := sl + 6) (by omega) (by omega) <| g_sub [3, 4, 5, 6, 2] rfl (hj1552 μ5)
    ·
      refine s_aload_n C dL_law_1540 rfl 6 rfl ?_
      refine s_iconst (v := (0 : Int32)) C dL_law_1541 (by decide) ?_
      refine s_lald C (ag31 V) (by decide) dL_law_1542 ?_
      refine s_iload C dL_law_1543 0 rfl ?_
      refine s_i2l C dL_law_1545 ?_
      refine s_lcmp C dL_law_1546 ?_
      refine s_if_eq (tgt := 1552) C dL_law_1547 (by decide) (fun c10 => ?_) (fun c10 => ?_)
      ·
        exact g_wid (ca1 := ca + 1) (sl1 := sl + 6) (by omega) (by omega) <| g_sub [3, 4, 5, 6, 2] rfl (hj1552 μ5)
      ·
        refine s_iconst (v := (0 : Int32)) C dL_law_1550 (by decide) ?_
        exact g_none
  ·
    refine s_iconst (v := (0 : Int32)) C dL_law_1533 (by decide) ?_
    exact g_none

def lcs_25 (fu gu : Nat) (xs : Nat → Int32) (SL : Nat) (i : Int32) (μ : Mem) : Option Mem :=
  ckI (i + (1 : Int32)) SL <|
  ckI (i + (2 : Int32)) SL <|
  bnd (fL_put fu 0 (xs (i + (1 : Int32)).toNatClampNeg) (xs (i + (2 : Int32)).toNatClampNeg) 0 μ) fun x2 μ1 =>
  ckI (i + (1 : Int32)) SL <|
  ckI (i + (2 : Int32)) SL <|
  bndJ μ1 (fX13_put gu 0 (xs (i + (1 : Int32)).toNatClampNeg) (xs (i + (2 : Int32)).toNatClampNeg) (kJ μ μ1)) fun x4 μ3 =>
  bndJ μ3 (fX13_thrown 0 (kJ μ μ3)) fun x6 μ5 =>
  if x6 = x2 then (
    jn (fun (μ8 : Mem) =>
      some μ8
    ) fun j1620 =>
    if ¬ x2 = 0 then (
      j1620 μ5
    ) else (
      ckI (0 : Int32) (1) <|
      if (lg_cmp (μ5.2.2 31 0 (0 : Int32).toNatClampNeg) (x4.toInt64)) = 0 then (
        j1620 μ5
      ) else (
        none
      )
    )
  ) else (
    none
  )
set_option maxHeartbeats 4000000 in
set_option maxRecDepth 100000 in
theorem lcz_25 {X : CX} (hT : (xl X).stackTraces = false) (V : 2 ≤ xv X) (C : Ok X RL cL_law) (R0 : Rm X 2048 84000 601024 7293034) (hN : ∀ i : Nat, i < 8 → i < xn X) {bs SL : Nat} {xs : Nat → Int32} (S : Scr X bs SL xs) (fu gu : Nat) {ca sl : Nat} (hc : ca + 1 ≤ 601024) (hs : sl + 6 ≤ 7293034) (i : Int32) (μ r0 : Mem) (H0 : J X (ca + 1) (sl + 6) r0 2636 [(4, .int i), (0, .ref bs), (1, .ref (xa X 0 0)), (2, .ref (xa X 26 0)), (3, .ref (xa X 31 0))] []) : G X r0 ca sl μ 1555 [(4, .int i), (0, .ref bs), (1, .ref (xa X 0 0)), (2, .ref (xa X 26 0)), (3, .ref (xa X 31 0))] [] (lcs_25 fu gu xs SL i μ) := by
  unfold lcs_25
  refine s_aload_n C dL_law_1555 rfl 2 rfl ?_
  refine s_aload_n C dL_law_1556 rfl 1 rfl ?_
  refine s_iload C dL_law_1557 0 rfl ?_
  refine s_iconst (v := (1 : Int32)) C dL_law_1559 (by decide) ?_
  refine s_iadd C dL_law_1560 ?_
  refine s_sld C S dL_law_1561 ?_
  refine s_aload_n C dL_law_1562 rfl 1 rfl ?_
  refine s_iload C dL_law_1563 0 rfl ?_
  refine s_iconst (v := (2 : Int32)) C dL_law_1565 (by decide) ?_
  refine s_iadd C dL_law_1566 ?_
  refine s_sld C S dL_law_1567 ?_
  refine s_aload_n C dL_law_1568 rfl 4 rfl ?_
  refine s_callH (n := 4) C R0 (kL_put (xl X) hT fu 0 (by decide) (xs (i + (1 : Int32)).toNatClampNeg) (xs (i + (2 : Int32)).toNatClampNeg) 0 (by decide)) (Nat.le_trans (by decide) V) q154 q1386 ⟨by decide +kernel, by decide +kernel, by decide +kernel⟩ q1385 q1384 rfl rfl rfl (Nat.le_of_ble_eq_true rfl) ⟨Nat.le_of_ble_eq_true rfl, Nat.le_of_ble_eq_true rfl, by omega, by omega⟩ dL_law_1569 (fun x2 μ1 => ?_)
  refine g_st (st' := [.int x2]) rfl ?_
  refine s_istore (L' := [(5, .int x2), (4, .int i), (0, .ref bs), (1, .ref (xa X 0 0)), (2, .ref (xa X 26 0)), (3, .ref (xa X 31 0))]) C dL_law_1572 (hN 5 (by decide)) rfl ?_
  refine s_aload_n C dL_law_1574 rfl 4 rfl ?_
  refine s_aload_n C dL_law_1575 rfl 2 rfl ?_
  refine s_iload C dL_law_1576 1 rfl ?_
  refine s_iconst (v := (1 : Int32)) C dL_law_1578 (by decide) ?_
  refine s_iadd C dL_law_1579 ?_
  refine s_sld C S dL_law_1580 ?_
  refine s_aload_n C dL_law_1581 rfl 2 rfl ?_
  refine s_iload C dL_law_1582 1 rfl ?_
  refine s_iconst (v := (2 : Int32)) C dL_law_1584 (by decide) ?_
  refine s_iadd C dL_law_1585 ?_
  refine s_sld C S dL_law_1586 ?_
  refine s_callM C R0 V (kX13_put (xl X) gu 0 (by decide) (xs (i + (1 : Int32)).toNatClampNeg) (xs (i + (2 : Int32)).toNatClampNeg)) mmX13_put miX13_put q2364 (rc26 (Nat.le_trans (by decide) V)) (by decide) rfl rfl rfl (Nat.le_of_ble_eq_true rfl) ⟨Nat.le_of_ble_eq_true rfl, Nat.le_of_ble_eq_true rfl, by omega, by omega⟩ dL_law_1587 (fun x4 μ3 => ?_)
  refine g_st (st' := [.int x4]) rfl ?_
  refine s_istore (L' := [(6, .int x4), (5, .int x2), (4, .int i), (0, .ref bs), (1, .ref (xa X 0 0)), (2, .ref (xa X 26 0)), (3, .ref (xa X 31 0))]) C dL_law_1590 (hN 6 (by decide)) rfl ?_
  refine s_aload_n C dL_law_1592 rfl 5 rfl ?_
  refine s_callM C R0 V (kX13_thrown (xl X) 0 (by decide)) mmX13_thrown miX13_thrown q2229 (rc26 (Nat.le_trans (by decide) V)) (by decide) rfl rfl rfl (Nat.le_of_ble_eq_true rfl) ⟨Nat.le_of_ble_eq_true rfl, Nat.le_of_ble_eq_true rfl, by omega, by omega⟩ dL_law_1593 (fun x6 μ5 => ?_)
  refine g_st (st' := [.int x6]) rfl ?_
  refine s_iload C dL_law_1596 1 rfl ?_
  refine s_icmp_eq (tgt := 1603) C dL_law_1598 (by decide) (fun c7 => ?_) (fun c7 => ?_)
  ·
    refine g_jn (P := fun j1620 => ∀ (μ8 : Mem), G X r0 (ca + 1) (sl + 6) μ8 1620 [(0, .ref bs), (1, .ref (xa X 0 0)), (2, .ref (xa X 26 0)), (3, .ref (xa X 31 0)), (4, .int i)] [] (j1620 μ8)) ?_ (fun j1620 hj1620 => ?_)
    · intro μ8
      refine s_goto (tgt := 2636) C dL_law_1620 (by decide) ?_
      exact g_endL (ca1 := ca + 1) (sl1 := sl + 6) (by omega) (by omega) [4, 0, 1, 2, 3] rfl H0
    refine s_iload C dL_law_1603 1 rfl ?_
    refine s_if_ne (tgt := 1620) C dL_law_1605 (by decide) (fun c9 => ?_) (fun c9 => ?_)
    ·
      exact g_wid (ca1 := ca + 1) (sl1 := sl + 6) (by omega) (by omega) <| g_sub [3, 4, 5, 6, 2] rfl (hj1620 μ5)
    ·
      refine s_aload_n C dL_law_1608 rfl 6 rfl ?_
      refine s_iconst (v := (0 : Int32)) C dL_law_1609 (by decide) ?_
      refine s_lald C (ag31 V) (by decide) dL_law_1610 ?_
      refine s_iload C dL_law_1611 0 rfl ?_
      refine s_i2l C dL_law_1613 ?_
      refine s_lcmp C dL_law_1614 ?_
      refine s_if_eq (tgt := 1620) C dL_law_1615 (by decide) (fun c10 => ?_) (fun c10 => ?_)
      ·
        exact g_wid (ca1 := ca + 1) (sl1 := sl + 6) (by omega) (by omega) <| g_sub [3, 4, 5, 6, 2] rfl (hj1620 μ5)
      ·
        refine s_iconst (v := (0 : Int32)) C dL_law_1618 (by decide) ?_
        exact g_none
  ·
    refine s_iconst (v := (0 : Int32)) C dL_law_1601 (by decide) ?_
    exact g_none

def lcs_26 (fu gu : Nat) (xs : Nat → Int32) (SL : Nat) (i : Int32) (μ : Mem) : Option Mem :=
  ckI (i + (1 : Int32)) SL <|
  bnd (fL_take fu 0 (xs (i + (1 : Int32)).toNatClampNeg) 0 μ) fun x2 μ1 =>
  ckI (i + (1 : Int32)) SL <|
  bndJ μ1 (fX13_take gu 0 (xs (i + (1 : Int32)).toNatClampNeg) (kJ μ μ1)) fun y4 μ3 =>
  bndJ μ3 (fX13_thrown 0 (kJ μ μ3)) fun x6 μ5 =>
  if x6 = x2 then (
    jn (fun (μ8 : Mem) =>
      some μ8
    ) fun j1675 =>
    if ¬ x2 = 0 then (
      j1675 μ5
    ) else (
      ckI (0 : Int32) (1) <|
      if (lg_cmp (μ5.2.2 31 0 (0 : Int32).toNatClampNeg) y4) = 0 then (
        j1675 μ5
      ) else (
        none
      )
    )
  ) else (
    none
  )
set_option maxHeartbeats 4000000 in
set_option maxRecDepth 100000 in
theorem lcz_26 {X : CX} (hT : (xl X).stackTraces = false) (V : 2 ≤ xv X) (C : Ok X RL cL_law) (R0 : Rm X 2048 84000 601024 7293034) (hN : ∀ i : Nat, i < 8 → i < xn X) {bs SL : Nat} {xs : Nat → Int32} (S : Scr X bs SL xs) (fu gu : Nat) {ca sl : Nat} (hc : ca + 1 ≤ 601024) (hs : sl + 6 ≤ 7293034) (i : Int32) (μ r0 : Mem) (H0 : J X (ca + 1) (sl + 6) r0 2636 [(4, .int i), (0, .ref bs), (1, .ref (xa X 0 0)), (2, .ref (xa X 26 0)), (3, .ref (xa X 31 0))] []) : G X r0 ca sl μ 1623 [(4, .int i), (0, .ref bs), (1, .ref (xa X 0 0)), (2, .ref (xa X 26 0)), (3, .ref (xa X 31 0))] [] (lcs_26 fu gu xs SL i μ) := by
  unfold lcs_26
  refine s_aload_n C dL_law_1623 rfl 2 rfl ?_
  refine s_aload_n C dL_law_1624 rfl 1 rfl ?_
  refine s_iload C dL_law_1625 0 rfl ?_
  refine s_iconst (v := (1 : Int32)) C dL_law_1627 (by decide) ?_
  refine s_iadd C dL_law_1628 ?_
  refine s_sld C S dL_law_1629 ?_
  refine s_aload_n C dL_law_1630 rfl 4 rfl ?_
  refine s_callH (n := 3) C R0 (kL_take (xl X) hT fu 0 (by decide) (xs (i + (1 : Int32)).toNatClampNeg) 0 (by decide)) (Nat.le_trans (by decide) V) q154 q1407 ⟨by decide +kernel, by decide +kernel, by decide +kernel⟩ q1406 q1405 rfl rfl rfl (Nat.le_of_ble_eq_true rfl) ⟨Nat.le_of_ble_eq_true rfl, Nat.le_of_ble_eq_true rfl, by omega, by omega⟩ dL_law_1631 (fun x2 μ1 => ?_)
  refine g_st (st' := [.int x2]) rfl ?_
  refine s_istore (L' := [(5, .int x2), (4, .int i), (0, .ref bs), (1, .ref (xa X 0 0)), (2, .ref (xa X 26 0)), (3, .ref (xa X 31 0))]) C dL_law_1634 (hN 5 (by decide)) rfl ?_
  refine s_aload_n C dL_law_1636 rfl 4 rfl ?_
  refine s_aload_n C dL_law_1637 rfl 2 rfl ?_
  refine s_iload C dL_law_1638 1 rfl ?_
  refine s_iconst (v := (1 : Int32)) C dL_law_1640 (by decide) ?_
  refine s_iadd C dL_law_1641 ?_
  refine s_sld C S dL_law_1642 ?_
  refine s_callM C R0 V (kX13_take (xl X) gu 0 (by decide) (xs (i + (1 : Int32)).toNatClampNeg)) mmX13_take miX13_take q2391 (rc26 (Nat.le_trans (by decide) V)) (by decide) rfl rfl rfl (Nat.le_of_ble_eq_true rfl) ⟨Nat.le_of_ble_eq_true rfl, Nat.le_of_ble_eq_true rfl, by omega, by omega⟩ dL_law_1643 (fun y4 μ3 => ?_)
  refine g_st (st' := [.long y4]) rfl ?_
  refine s_lstore (L' := [(6, .long y4), (5, .int x2), (4, .int i), (0, .ref bs), (1, .ref (xa X 0 0)), (2, .ref (xa X 26 0)), (3, .ref (xa X 31 0))]) C dL_law_1646 (hN 7 (by decide)) rfl ?_
  refine s_aload_n C dL_law_1648 rfl 5 rfl ?_
  refine s_callM C R0 V (kX13_thrown (xl X) 0 (by decide)) mmX13_thrown miX13_thrown q2229 (rc26 (Nat.le_trans (by decide) V)) (by decide) rfl rfl rfl (Nat.le_of_ble_eq_true rfl) ⟨Nat.le_of_ble_eq_true rfl, Nat.le_of_ble_eq_true rfl, by omega, by omega⟩ dL_law_1649 (fun x6 μ5 => ?_)
  refine g_st (st' := [.int x6]) rfl ?_
  refine s_iload C dL_law_1652 1 rfl ?_
  refine s_icmp_eq (tgt := 1659) C dL_law_1654 (by decide) (fun c7 => ?_) (fun c7 => ?_)
  ·
    refine g_jn (P := fun j1675 => ∀ (μ8 : Mem), G X r0 (ca + 1) (sl + 6) μ8 1675 [(0, .ref bs), (1, .ref (xa X 0 0)), (2, .ref (xa X 26 0)), (3, .ref (xa X 31 0)), (4, .int i)] [] (j1675 μ8)) ?_ (fun j1675 hj1675 => ?_)
    · intro μ8
      refine s_goto (tgt := 2636) C dL_law_1675 (by decide) ?_
      exact g_endL (ca1 := ca + 1) (sl1 := sl + 6) (by omega) (by omega) [4, 0, 1, 2, 3] rfl H0
    refine s_iload C dL_law_1659 1 rfl ?_
    refine s_if_ne (tgt := 1675) C dL_law_1661 (by decide) (fun c9 => ?_) (fun c9 => ?_)
    ·
      exact g_wid (ca1 := ca + 1) (sl1 := sl + 6) (by omega) (by omega) <| g_sub [3, 4, 5, 6, 2] rfl (hj1675 μ5)
    ·
      refine s_aload_n C dL_law_1664 rfl 6 rfl ?_
      refine s_iconst (v := (0 : Int32)) C dL_law_1665 (by decide) ?_
      refine s_lald C (ag31 V) (by decide) dL_law_1666 ?_
      refine s_lload C dL_law_1667 0 rfl ?_
      refine s_lcmp C dL_law_1669 ?_
      refine s_if_eq (tgt := 1675) C dL_law_1670 (by decide) (fun c10 => ?_) (fun c10 => ?_)
      ·
        exact g_wid (ca1 := ca + 1) (sl1 := sl + 6) (by omega) (by omega) <| g_sub [3, 4, 5, 6, 2] rfl (hj1675 μ5)
      ·
        refine s_iconst (v := (0 : Int32)) C dL_law_1673 (by decide) ?_
        exact g_none
  ·
    refine s_iconst (v := (0 : Int32)) C dL_law_1657 (by decide) ?_
    exact g_none

def lcs_27 (fu gu : Nat) (xs : Nat → Int32) (SL : Nat) (i : Int32) (μ : Mem) : Option Mem :=
  jn (fun (μ1 : Mem) (a2 : Nat) (x4 : Int32) (x5 : Int32) =>
    jn (fun (μ6 : Mem) (x7 : Int32) (a8 : Nat) (x10 : Int32) (x11 : Int32) =>
      bndJ μ6 (fX13_enable gu a8 x10 x11 (kJ μ μ6)) fun x13 μ12 =>
      bndJ μ12 (fX13_thrown 0 (kJ μ μ12)) fun x15 μ14 =>
      if x15 = x7 then (
        jn (fun (μ17 : Mem) =>
          some μ17
        ) fun j1766 =>
        if ¬ x7 = 0 then (
          j1766 μ14
        ) else (
          jn (fun (μ19 : Mem) (y20 : Int64) (y21 : Int64) =>
            if (lg_cmp y20 y21) = 0 then (
              j1766 μ19
            ) else (
              none
            )
          ) fun j1760 =>
          ckI (0 : Int32) (1) <|
          if x13 = 0 then (
            j1760 μ14 (μ14.2.2 31 0 (0 : Int32).toNatClampNeg) (0 : Int64)
          ) else (
            j1760 μ14 (μ14.2.2 31 0 (0 : Int32).toNatClampNeg) (1 : Int64)
          )
        )
      ) else (
        none
      )
    ) fun j1726 =>
    bnd (fL_enable fu a2 x4 x5 0 μ1) fun x25 μ24 =>
    ckI (i + (1 : Int32)) SL <|
    ckI (i + (2 : Int32)) SL <|
    if (xs (i + (2 : Int32)).toNatClampNeg) = 0 then (
      j1726 μ24 x25 0 (xs (i + (1 : Int32)).toNatClampNeg) (0 : Int32)
    ) else (
      j1726 μ24 x25 0 (xs (i + (1 : Int32)).toNatClampNeg) (1 : Int32)
    )
  ) fun j1699 =>
  ckI (i + (1 : Int32)) SL <|
  ckI (i + (2 : Int32)) SL <|
  if (xs (i + (2 : Int32)).toNatClampNeg) = 0 then (
    j1699 μ 0 (xs (i + (1 : Int32)).toNatClampNeg) (0 : Int32)
  ) else (
    j1699 μ 0 (xs (i + (1 : Int32)).toNatClampNeg) (1 : Int32)
  )
set_option maxHeartbeats 4000000 in
set_option maxRecDepth 100000 in
theorem lcz_27 {X : CX} (hT : (xl X).stackTraces = false) (V : 2 ≤ xv X) (C : Ok X RL cL_law) (R0 : Rm X 2048 84000 601024 7293034) (hN : ∀ i : Nat, i < 8 → i < xn X) {bs SL : Nat} {xs : Nat → Int32} (S : Scr X bs SL xs) (fu gu : Nat) {ca sl : Nat} (hc : ca + 1 ≤ 601024) (hs : sl + 6 ≤ 7293034) (i : Int32) (μ r0 : Mem) (H0 : J X (ca + 1) (sl + 6) r0 2636 [(4, .int i), (0, .ref bs), (1, .ref (xa X 0 0)), (2, .ref (xa X 26 0)), (3, .ref (xa X 31 0))] []) : G X r0 ca sl μ 1678 [(4, .int i), (0, .ref bs), (1, .ref (xa X 0 0)), (2, .ref (xa X 26 0)), (3, .ref (xa X 31 0))] [] (lcs_27 fu gu xs SL i μ) := by
  unfold lcs_27
  refine g_jn (P := fun j1699 => ∀ (μ1 : Mem) (a2 : Nat) (x4 : Int32) (x5 : Int32), a2 < 1 → G X r0 (ca + 0) (sl + 0) μ1 1699 [(0, .ref bs), (1, .ref (xa X 0 0)), (2, .ref (xa X 26 0)), (3, .ref (xa X 31 0)), (4, .int i)] [.int x5, .int x4, .ref (xa X 0 a2)] (j1699 μ1 a2 x4 x5)) ?_ (fun j1699 hj1699 => ?_)
  · intro μ1 a2 x4 x5 b3
    refine g_jn (P := fun j1726 => ∀ (μ6 : Mem) (x7 : Int32) (a8 : Nat) (x10 : Int32) (x11 : Int32), a8 < 1 → G X r0 (ca + 1) (sl + 6) μ6 1726 [(0, .ref bs), (1, .ref (xa X 0 0)), (2, .ref (xa X 26 0)), (3, .ref (xa X 31 0)), (4, .int i), (5, .int x7)] [.int x11, .int x10, .ref (xa X 26 a8)] (j1726 μ6 x7 a8 x10 x11)) ?_ (fun j1726 hj1726 => ?_)
    · intro μ6 x7 a8 x10 x11 b9
      refine s_callM C R0 V (kX13_enable (xl X) gu a8 b9 x10 x11) mmX13_enable miX13_enable q2400 (rc26 (Nat.le_trans (by decide) V)) b9 rfl rfl rfl (Nat.le_of_ble_eq_true rfl) ⟨Nat.le_of_ble_eq_true rfl, Nat.le_of_ble_eq_true rfl, by omega, by omega⟩ dL_law_1726 (fun x13 μ12 => ?_)
      refine g_st (st' := [.int x13]) rfl ?_
      refine s_istore (L' := [(6, .int x13), (0, .ref bs), (1, .ref (xa X 0 0)), (2, .ref (xa X 26 0)), (3, .ref (xa X 31 0)), (4, .int i), (5, .int x7)]) C dL_law_1729 (hN 6 (by decide)) rfl ?_
      refine s_aload_n C dL_law_1731 rfl 3 rfl ?_
      refine s_callM C R0 V (kX13_thrown (xl X) 0 (by decide)) mmX13_thrown miX13_thrown q2229 (rc26 (Nat.le_trans (by decide) V)) (by decide) rfl rfl rfl (Nat.le_of_ble_eq_true rfl) ⟨Nat.le_of_ble_eq_true rfl, Nat.le_of_ble_eq_true rfl, by omega, by omega⟩ dL_law_1732 (fun x15 μ14 => ?_)
      refine g_st (st' := [.int x15]) rfl ?_
      refine s_iload C dL_law_1735 6 rfl ?_
      refine s_icmp_eq (tgt := 1742) C dL_law_1737 (by decide) (fun c16 => ?_) (fun c16 => ?_)
      ·
        refine g_jn (P := fun j1766 => ∀ (μ17 : Mem), G X r0 (ca + 1) (sl + 6) μ17 1766 [(0, .ref bs), (1, .ref (xa X 0 0)), (2, .ref (xa X 26 0)), (3, .ref (xa X 31 0)), (4, .int i)] [] (j1766 μ17)) ?_ (fun j1766 hj1766 => ?_)
        · intro μ17
          refine s_goto (tgt := 2636) C dL_law_1766 (by decide) ?_
          exact g_endL (ca1 := ca + 1) (sl1 := sl + 6) (by omega) (by omega) [4, 0, 1, 2, 3] rfl H0
        refine s_iload C dL_law_1742 6 rfl ?_
        refine s_if_ne (tgt := 1766) C dL_law_1744 (by decide) (fun c18 => ?_) (fun c18 => ?_)
        ·
          exact g_wid (ca1 := ca + 1) (sl1 := sl + 6) (by omega) (by omega) <| g_sub [1, 2, 3, 4, 5] rfl (hj1766 μ14)
        ·
          refine g_jn (P := fun j1760 => ∀ (μ19 : Mem) (y20 : Int64) (y21 : Int64), G X r0 (ca + 1) (sl + 6) μ19 1760 [(0, .ref bs), (1, .ref (xa X 0 0)), (2, .ref (xa X 26 0)), (3, .ref (xa X 31 0)), (4, .int i)] [.long y21, .long y20] (j1760 μ19 y20 y21)) ?_ (fun j1760 hj1760 => ?_)
          · intro μ19 y20 y21
            refine s_lcmp C dL_law_1760 ?_
            refine s_if_eq (tgt := 1766) C dL_law_1761 (by decide) (fun c22 => ?_) (fun c22 => ?_)
            ·
              exact g_wid (ca1 := ca + 1) (sl1 := sl + 6) (by omega) (by omega) <| g_sub [0, 1, 2, 3, 4] rfl (hj1766 μ19)
            ·
              refine s_iconst (v := (0 : Int32)) C dL_law_1764 (by decide) ?_
              exact g_none
          refine s_aload_n C dL_law_1747 rfl 4 rfl ?_
          refine s_iconst (v := (0 : Int32)) C dL_law_1748 (by decide) ?_
          refine s_lald C (ag31 V) (by decide) dL_law_1749 ?_
          refine s_iload C dL_law_1750 0 rfl ?_
          refine s_if_eq (tgt := 1759) C dL_law_1752 (by decide) (fun c23 => ?_) (fun c23 => ?_)
          ·
            refine s_lconst (v := (0 : Int64)) C dL_law_1759 (by decide) ?_
            exact g_wid (ca1 := ca + 1) (sl1 := sl + 6) (by omega) (by omega) <| g_sub [1, 2, 3, 4, 5] rfl (hj1760 μ14 (μ14.2.2 31 0 (0 : Int32).toNatClampNeg) (0 : Int64))
          ·
            refine s_lconst (v := (1 : Int64)) C dL_law_1755 (by decide) ?_
            refine s_goto (tgt := 1760) C dL_law_1756 (by decide) ?_
            exact g_wid (ca1 := ca + 1) (sl1 := sl + 6) (by omega) (by omega) <| g_sub [1, 2, 3, 4, 5] rfl (hj1760 μ14 (μ14.2.2 31 0 (0 : Int32).toNatClampNeg) (1 : Int64))
      ·
        refine s_iconst (v := (0 : Int32)) C dL_law_1740 (by decide) ?_
        exact g_none
    refine s_aload_n C dL_law_1699 rfl 3 rfl ?_
    refine s_callH (n := 4) C R0 (kL_enable (xl X) hT fu a2 b3 x4 x5 0 (by decide)) (Nat.le_trans (by decide) V) q154 q1419 ⟨by decide +kernel, by decide +kernel, by decide +kernel⟩ q1418 q1417 rfl rfl rfl (Nat.le_of_ble_eq_true rfl) ⟨Nat.le_of_ble_eq_true rfl, Nat.le_of_ble_eq_true rfl, by omega, by omega⟩ dL_law_1700 (fun x25 μ24 => ?_)
    refine g_st (st' := [.int x25]) rfl ?_
    refine s_istore (L' := [(5, .int x25), (0, .ref bs), (1, .ref (xa X 0 0)), (2, .ref (xa X 26 0)), (3, .ref (xa X 31 0)), (4, .int i)]) C dL_law_1703 (hN 5 (by decide)) rfl ?_
    refine s_aload_n C dL_law_1705 rfl 3 rfl ?_
    refine s_aload_n C dL_law_1706 rfl 1 rfl ?_
    refine s_iload C dL_law_1707 5 rfl ?_
    refine s_iconst (v := (1 : Int32)) C dL_law_1709 (by decide) ?_
    refine s_iadd C dL_law_1710 ?_
    refine s_sld C S dL_law_1711 ?_
    refine s_aload_n C dL_law_1712 rfl 1 rfl ?_
    refine s_iload C dL_law_1713 5 rfl ?_
    refine s_iconst (v := (2 : Int32)) C dL_law_1715 (by decide) ?_
    refine s_iadd C dL_law_1716 ?_
    refine s_sld C S dL_law_1717 ?_
    refine s_if_eq (tgt := 1725) C dL_law_1718 (by decide) (fun c26 => ?_) (fun c26 => ?_)
    ·
      refine s_iconst (v := (0 : Int32)) C dL_law_1725 (by decide) ?_
      exact g_wid (ca1 := ca + 1) (sl1 := sl + 6) (by omega) (by omega) <| g_sub [1, 2, 3, 4, 5, 0] rfl (hj1726 μ24 x25 0 (xs (i + (1 : Int32)).toNatClampNeg) (0 : Int32) (by decide))
    ·
      refine s_iconst (v := (1 : Int32)) C dL_law_1721 (by decide) ?_
      refine s_goto (tgt := 1726) C dL_law_1722 (by decide) ?_
      exact g_wid (ca1 := ca + 1) (sl1 := sl + 6) (by omega) (by omega) <| g_sub [1, 2, 3, 4, 5, 0] rfl (hj1726 μ24 x25 0 (xs (i + (1 : Int32)).toNatClampNeg) (1 : Int32) (by decide))
  refine s_aload_n C dL_law_1678 rfl 2 rfl ?_
  refine s_aload_n C dL_law_1679 rfl 1 rfl ?_
  refine s_iload C dL_law_1680 0 rfl ?_
  refine s_iconst (v := (1 : Int32)) C dL_law_1682 (by decide) ?_
  refine s_iadd C dL_law_1683 ?_
  refine s_sld C S dL_law_1684 ?_
  refine s_aload_n C dL_law_1685 rfl 1 rfl ?_
  refine s_iload C dL_law_1686 0 rfl ?_
  refine s_iconst (v := (2 : Int32)) C dL_law_1688 (by decide) ?_
  refine s_iadd C dL_law_1689 ?_
  refine s_sld C S dL_law_1690 ?_
  refine s_if_eq (tgt := 1698) C dL_law_1691 (by decide) (fun c27 => ?_) (fun c27 => ?_)
  ·
    refine s_iconst (v := (0 : Int32)) C dL_law_1698 (by decide) ?_
    exact g_wid (ca1 := ca + 0) (sl1 := sl + 0) (by omega) (by omega) <| g_sub [1, 2, 3, 4, 0] rfl (hj1699 μ 0 (xs (i + (1 : Int32)).toNatClampNeg) (0 : Int32) (by decide))
  ·
    refine s_iconst (v := (1 : Int32)) C dL_law_1694 (by decide) ?_
    refine s_goto (tgt := 1699) C dL_law_1695 (by decide) ?_
    exact g_wid (ca1 := ca + 0) (sl1 := sl + 0) (by omega) (by omega) <| g_sub [1, 2, 3, 4, 0] rfl (hj1699 μ 0 (xs (i + (1 : Int32)).toNatClampNeg) (1 : Int32) (by decide))

def lcs_28 (fu gu : Nat) (xs : Nat → Int32) (SL : Nat) (i : Int32) (μ : Mem) : Option Mem :=
  ckI (i + (1 : Int32)) SL <|
  bnd (fL_restart fu 0 (xs (i + (1 : Int32)).toNatClampNeg) 0 μ) fun x2 μ1 =>
  ckI (i + (1 : Int32)) SL <|
  bndJ μ1 (fX13_restart gu 0 (xs (i + (1 : Int32)).toNatClampNeg) (kJ μ μ1)) fun x4 μ3 =>
  bndJ μ3 (fX13_thrown 0 (kJ μ μ3)) fun x6 μ5 =>
  if x6 = x2 then (
    jn (fun (μ8 : Mem) =>
      some μ8
    ) fun j1822 =>
    if ¬ x2 = 0 then (
      j1822 μ5
    ) else (
      ckI (0 : Int32) (1) <|
      if (lg_cmp (μ5.2.2 31 0 (0 : Int32).toNatClampNeg) (x4.toInt64)) = 0 then (
        j1822 μ5
      ) else (
        none
      )
    )
  ) else (
    none
  )
set_option maxHeartbeats 4000000 in
set_option maxRecDepth 100000 in
theorem lcz_28 {X : CX} (hT : (xl X).stackTraces = false) (V : 2 ≤ xv X) (C : Ok X RL cL_law) (R0 : Rm X 2048 84000 601024 7293034) (hN : ∀ i : Nat, i < 8 → i < xn X) {bs SL : Nat} {xs : Nat → Int32} (S : Scr X bs SL xs) (fu gu : Nat) {ca sl : Nat} (hc : ca + 1 ≤ 601024) (hs : sl + 6 ≤ 7293034) (i : Int32) (μ r0 : Mem) (H0 : J X (ca + 1) (sl + 6) r0 2636 [(4, .int i), (0, .ref bs), (1, .ref (xa X 0 0)), (2, .ref (xa X 26 0)), (3, .ref (xa X 31 0))] []) : G X r0 ca sl μ 1769 [(4, .int i), (0, .ref bs), (1, .ref (xa X 0 0)), (2, .ref (xa X 26 0)), (3, .ref (xa X 31 0))] [] (lcs_28 fu gu xs SL i μ) := by
  unfold lcs_28
  refine s_aload_n C dL_law_1769 rfl 2 rfl ?_
  refine s_aload_n C dL_law_1770 rfl 1 rfl ?_
  refine s_iload C dL_law_1771 0 rfl ?_
  refine s_iconst (v := (1 : Int32)) C dL_law_1773 (by decide) ?_
  refine s_iadd C dL_law_1774 ?_
  refine s_sld C S dL_law_1775 ?_
  refine s_aload_n C dL_law_1776 rfl 4 rfl ?_
  refine s_callH (n := 3) C R0 (kL_restart (xl X) hT fu 0 (by decide) (xs (i + (1 : Int32)).toNatClampNeg) 0 (by decide)) (Nat.le_trans (by decide) V) q154 q1426 ⟨by decide +kernel, by decide +kernel, by decide +kernel⟩ q1425 q1424 rfl rfl rfl (Nat.le_of_ble_eq_true rfl) ⟨Nat.le_of_ble_eq_true rfl, Nat.le_of_ble_eq_true rfl, by omega, by omega⟩ dL_law_1777 (fun x2 μ1 => ?_)
  refine g_st (st' := [.int x2]) rfl ?_
  refine s_istore (L' := [(5, .int x2), (4, .int i), (0, .ref bs), (1, .ref (xa X 0 0)), (2, .ref (xa X 26 0)), (3, .ref (xa X 31 0))]) C dL_law_1780 (hN 5 (by decide)) rfl ?_
  refine s_aload_n C dL_law_1782 rfl 4 rfl ?_
  refine s_aload_n C dL_law_1783 rfl 2 rfl ?_
  refine s_iload C dL_law_1784 1 rfl ?_
  refine s_iconst (v := (1 : Int32)) C dL_law_1786 (by decide) ?_
  refine s_iadd C dL_law_1787 ?_
  refine s_sld C S dL_law_1788 ?_
  refine s_callM C R0 V (kX13_restart (xl X) gu 0 (by decide) (xs (i + (1 : Int32)).toNatClampNeg)) mmX13_restart miX13_restart q2404 (rc26 (Nat.le_trans (by decide) V)) (by decide) rfl rfl rfl (Nat.le_of_ble_eq_true rfl) ⟨Nat.le_of_ble_eq_true rfl, Nat.le_of_ble_eq_true rfl, by omega, by omega⟩ dL_law_1789 (fun x4 μ3 => ?_)
  refine g_st (st' := [.int x4]) rfl ?_
  refine s_istore (L' := [(6, .int x4), (5, .int x2), (4, .int i), (0, .ref bs), (1, .ref (xa X 0 0)), (2, .ref (xa X 26 0)), (3, .ref (xa X 31 0))]) C dL_law_1792 (hN 6 (by decide)) rfl ?_
  refine s_aload_n C dL_law_1794 rfl 5 rfl ?_
  refine s_callM C R0 V (kX13_thrown (xl X) 0 (by decide)) mmX13_thrown miX13_thrown q2229 (rc26 (Nat.le_trans (by decide) V)) (by decide) rfl rfl rfl (Nat.le_of_ble_eq_true rfl) ⟨Nat.le_of_ble_eq_true rfl, Nat.le_of_ble_eq_true rfl, by omega, by omega⟩ dL_law_1795 (fun x6 μ5 => ?_)
  refine g_st (st' := [.int x6]) rfl ?_
  refine s_iload C dL_law_1798 1 rfl ?_
  refine s_icmp_eq (tgt := 1805) C dL_law_1800 (by decide) (fun c7 => ?_) (fun c7 => ?_)
  ·
    refine g_jn (P := fun j1822 => ∀ (μ8 : Mem), G X r0 (ca + 1) (sl + 6) μ8 1822 [(0, .ref bs), (1, .ref (xa X 0 0)), (2, .ref (xa X 26 0)), (3, .ref (xa X 31 0)), (4, .int i)] [] (j1822 μ8)) ?_ (fun j1822 hj1822 => ?_)
    · intro μ8
      refine s_goto (tgt := 2636) C dL_law_1822 (by decide) ?_
      exact g_endL (ca1 := ca + 1) (sl1 := sl + 6) (by omega) (by omega) [4, 0, 1, 2, 3] rfl H0
    refine s_iload C dL_law_1805 1 rfl ?_
    refine s_if_ne (tgt := 1822) C dL_law_1807 (by decide) (fun c9 => ?_) (fun c9 => ?_)
    ·
      exact g_wid (ca1 := ca + 1) (sl1 := sl + 6) (by omega) (by omega) <| g_sub [3, 4, 5, 6, 2] rfl (hj1822 μ5)
    ·
      refine s_aload_n C dL_law_1810 rfl 6 rfl ?_
      refine s_iconst (v := (0 : Int32)) C dL_law_1811 (by decide) ?_
      refine s_lald C (ag31 V) (by decide) dL_law_1812 ?_
      refine s_iload C dL_law_1813 0 rfl ?_
      refine s_i2l C dL_law_1815 ?_
      refine s_lcmp C dL_law_1816 ?_
      refine s_if_eq (tgt := 1822) C dL_law_1817 (by decide) (fun c10 => ?_) (fun c10 => ?_)
      ·
        exact g_wid (ca1 := ca + 1) (sl1 := sl + 6) (by omega) (by omega) <| g_sub [3, 4, 5, 6, 2] rfl (hj1822 μ5)
      ·
        refine s_iconst (v := (0 : Int32)) C dL_law_1820 (by decide) ?_
        exact g_none
  ·
    refine s_iconst (v := (0 : Int32)) C dL_law_1803 (by decide) ?_
    exact g_none

def lcs_29 (fu gu : Nat) (xs : Nat → Int32) (SL : Nat) (i : Int32) (μ : Mem) : Option Mem :=
  ckI (i + (1 : Int32)) SL <|
  ckI (i + (2 : Int32)) SL <|
  bnd (fL_drive fu 0 (xs (i + (1 : Int32)).toNatClampNeg) (xs (i + (2 : Int32)).toNatClampNeg) 0 μ) fun x2 μ1 =>
  ckI (i + (1 : Int32)) SL <|
  ckI (i + (2 : Int32)) SL <|
  bndJ μ1 (fX13_drive gu 0 (xs (i + (1 : Int32)).toNatClampNeg) (xs (i + (2 : Int32)).toNatClampNeg) (kJ μ μ1)) fun x4 μ3 =>
  bndJ μ3 (fX13_thrown 0 (kJ μ μ3)) fun x6 μ5 =>
  if x6 = x2 then (
    jn (fun (μ8 : Mem) =>
      some μ8
    ) fun j1890 =>
    if ¬ x2 = 0 then (
      j1890 μ5
    ) else (
      ckI (0 : Int32) (1) <|
      if (lg_cmp (μ5.2.2 31 0 (0 : Int32).toNatClampNeg) (x4.toInt64)) = 0 then (
        j1890 μ5
      ) else (
        none
      )
    )
  ) else (
    none
  )
set_option maxHeartbeats 4000000 in
set_option maxRecDepth 100000 in
theorem lcz_29 {X : CX} (hT : (xl X).stackTraces = false) (V : 2 ≤ xv X) (C : Ok X RL cL_law) (R0 : Rm X 2048 84000 601024 7293034) (hN : ∀ i : Nat, i < 8 → i < xn X) {bs SL : Nat} {xs : Nat → Int32} (S : Scr X bs SL xs) (fu gu : Nat) {ca sl : Nat} (hc : ca + 2 ≤ 601024) (hs : sl + 12 ≤ 7293034) (i : Int32) (μ r0 : Mem) (H0 : J X (ca + 2) (sl + 12) r0 2636 [(4, .int i), (0, .ref bs), (1, .ref (xa X 0 0)), (2, .ref (xa X 26 0)), (3, .ref (xa X 31 0))] []) : G X r0 ca sl μ 1825 [(4, .int i), (0, .ref bs), (1, .ref (xa X 0 0)), (2, .ref (xa X 26 0)), (3, .ref (xa X 31 0))] [] (lcs_29 fu gu xs SL i μ) := by
  unfold lcs_29
  refine s_aload_n C dL_law_1825 rfl 2 rfl ?_
  refine s_aload_n C dL_law_1826 rfl 1 rfl ?_
  refine s_iload C dL_law_1827 0 rfl ?_
  refine s_iconst (v := (1 : Int32)) C dL_law_1829 (by decide) ?_
  refine s_iadd C dL_law_1830 ?_
  refine s_sld C S dL_law_1831 ?_
  refine s_aload_n C dL_law_1832 rfl 1 rfl ?_
  refine s_iload C dL_law_1833 0 rfl ?_
  refine s_iconst (v := (2 : Int32)) C dL_law_1835 (by decide) ?_
  refine s_iadd C dL_law_1836 ?_
  refine s_sld C S dL_law_1837 ?_
  refine s_aload_n C dL_law_1838 rfl 4 rfl ?_
  refine s_callH (n := 4) C R0 (kL_drive (xl X) hT fu 0 (by decide) (xs (i + (1 : Int32)).toNatClampNeg) (xs (i + (2 : Int32)).toNatClampNeg) 0 (by decide)) (Nat.le_trans (by decide) V) q154 q1434 ⟨by decide +kernel, by decide +kernel, by decide +kernel⟩ q1433 q1432 rfl rfl rfl (Nat.le_of_ble_eq_true rfl) ⟨Nat.le_of_ble_eq_true rfl, Nat.le_of_ble_eq_true rfl, by omega, by omega⟩ dL_law_1839 (fun x2 μ1 => ?_)
  refine g_st (st' := [.int x2]) rfl ?_
  refine s_istore (L' := [(5, .int x2), (4, .int i), (0, .ref bs), (1, .ref (xa X 0 0)), (2, .ref (xa X 26 0)), (3, .ref (xa X 31 0))]) C dL_law_1842 (hN 5 (by decide)) rfl ?_
  refine s_aload_n C dL_law_1844 rfl 4 rfl ?_
  refine s_aload_n C dL_law_1845 rfl 2 rfl ?_
  refine s_iload C dL_law_1846 1 rfl ?_
  refine s_iconst (v := (1 : Int32)) C dL_law_1848 (by decide) ?_
  refine s_iadd C dL_law_1849 ?_
  refine s_sld C S dL_law_1850 ?_
  refine s_aload_n C dL_law_1851 rfl 2 rfl ?_
  refine s_iload C dL_law_1852 1 rfl ?_
  refine s_iconst (v := (2 : Int32)) C dL_law_1854 (by decide) ?_
  refine s_iadd C dL_law_1855 ?_
  refine s_sld C S dL_law_1856 ?_
  refine s_callM C R0 V (kX13_drive (xl X) gu 0 (by decide) (xs (i + (1 : Int32)).toNatClampNeg) (xs (i + (2 : Int32)).toNatClampNeg)) mmX13_drive miX13_drive q2412 (rc26 (Nat.le_trans (by decide) V)) (by decide) rfl rfl rfl (Nat.le_of_ble_eq_true rfl) ⟨Nat.le_of_ble_eq_true rfl, Nat.le_of_ble_eq_true rfl, by omega, by omega⟩ dL_law_1857 (fun x4 μ3 => ?_)
  refine g_st (st' := [.int x4]) rfl ?_
  refine s_istore (L' := [(6, .int x4), (5, .int x2), (4, .int i), (0, .ref bs), (1, .ref (xa X 0 0)), (2, .ref (xa X 26 0)), (3, .ref (xa X 31 0))]) C dL_law_1860 (hN 6 (by decide)) rfl ?_
  refine s_aload_n C dL_law_1862 rfl 5 rfl ?_
  refine s_callM C R0 V (kX13_thrown (xl X) 0 (by decide)) mmX13_thrown miX13_thrown q2229 (rc26 (Nat.le_trans (by decide) V)) (by decide) rfl rfl rfl (Nat.le_of_ble_eq_true rfl) ⟨Nat.le_of_ble_eq_true rfl, Nat.le_of_ble_eq_true rfl, by omega, by omega⟩ dL_law_1863 (fun x6 μ5 => ?_)
  refine g_st (st' := [.int x6]) rfl ?_
  refine s_iload C dL_law_1866 1 rfl ?_
  refine s_icmp_eq (tgt := 1873) C dL_law_1868 (by decide) (fun c7 => ?_) (fun c7 => ?_)
  ·
    refine g_jn (P := fun j1890 => ∀ (μ8 : Mem), G X r0 (ca + 2) (sl + 12) μ8 1890 [(0, .ref bs), (1, .ref (xa X 0 0)), (2, .ref (xa X 26 0)), (3, .ref (xa X 31 0)), (4, .int i)] [] (j1890 μ8)) ?_ (fun j1890 hj1890 => ?_)
    · intro μ8
      refine s_goto (tgt := 2636) C dL_law_1890 (by decide) ?_
      exact g_endL (ca1 := ca + 2) (sl1 := sl + 12) (by omega) (by omega) [4, 0, 1, 2, 3] rfl H0
    refine s_iload C dL_law_1873 1 rfl ?_
    refine s_if_ne (tgt := 1890) C dL_law_1875 (by decide) (fun c9 => ?_) (fun c9 => ?_)
    ·
      exact g_wid (ca1 := ca + 2) (sl1 := sl + 12) (by omega) (by omega) <| g_sub [3, 4, 5, 6, 2] rfl (hj1890 μ5)
    ·
      refine s_aload_n C dL_law_1878 rfl 6 rfl ?_
      refine s_iconst (v := (0 : Int32)) C dL_law_1879 (by decide) ?_
      refine s_lald C (ag31 V) (by decide) dL_law_1880 ?_
      refine s_iload C dL_law_1881 0 rfl ?_
      refine s_i2l C dL_law_1883 ?_
      refine s_lcmp C dL_law_1884 ?_
      refine s_if_eq (tgt := 1890) C dL_law_1885 (by decide) (fun c10 => ?_) (fun c10 => ?_)
      ·
        exact g_wid (ca1 := ca + 2) (sl1 := sl + 12) (by omega) (by omega) <| g_sub [3, 4, 5, 6, 2] rfl (hj1890 μ5)
      ·
        refine s_iconst (v := (0 : Int32)) C dL_law_1888 (by decide) ?_
        exact g_none
  ·
    refine s_iconst (v := (0 : Int32)) C dL_law_1871 (by decide) ?_
    exact g_none

def lcs_30 (fu gu : Nat) (xs : Nat → Int32) (SL : Nat) (i : Int32) (μ : Mem) : Option Mem :=
  ckI (i + (1 : Int32)) SL <|
  ckI (i + (2 : Int32)) SL <|
  ckI (i + (3 : Int32)) SL <|
  bnd (fL_schedule fu 0 (xs (i + (1 : Int32)).toNatClampNeg) (xs (i + (2 : Int32)).toNatClampNeg) (xs (i + (3 : Int32)).toNatClampNeg) 0 μ) fun x2 μ1 =>
  ckI (i + (1 : Int32)) SL <|
  ckI (i + (2 : Int32)) SL <|
  ckI (i + (3 : Int32)) SL <|
  bndJ μ1 (fX13_schedule gu 0 (xs (i + (1 : Int32)).toNatClampNeg) (xs (i + (2 : Int32)).toNatClampNeg) (xs (i + (3 : Int32)).toNatClampNeg) (kJ μ μ1)) fun x4 μ3 =>
  bndJ μ3 (fX13_thrown 0 (kJ μ μ3)) fun x6 μ5 =>
  if x6 = x2 then (
    jn (fun (μ8 : Mem) =>
      some μ8
    ) fun j1970 =>
    if ¬ x2 = 0 then (
      j1970 μ5
    ) else (
      ckI (0 : Int32) (1) <|
      if (lg_cmp (μ5.2.2 31 0 (0 : Int32).toNatClampNeg) (x4.toInt64)) = 0 then (
        j1970 μ5
      ) else (
        none
      )
    )
  ) else (
    none
  )
set_option maxHeartbeats 4000000 in
set_option maxRecDepth 100000 in
theorem lcz_30 {X : CX} (hT : (xl X).stackTraces = false) (V : 2 ≤ xv X) (C : Ok X RL cL_law) (R0 : Rm X 2048 84000 601024 7293034) (hN : ∀ i : Nat, i < 8 → i < xn X) {bs SL : Nat} {xs : Nat → Int32} (S : Scr X bs SL xs) (fu gu : Nat) {ca sl : Nat} (hc : ca + 3 ≤ 601024) (hs : sl + 18 ≤ 7293034) (i : Int32) (μ r0 : Mem) (H0 : J X (ca + 3) (sl + 18) r0 2636 [(4, .int i), (0, .ref bs), (1, .ref (xa X 0 0)), (2, .ref (xa X 26 0)), (3, .ref (xa X 31 0))] []) : G X r0 ca sl μ 1893 [(4, .int i), (0, .ref bs), (1, .ref (xa X 0 0)), (2, .ref (xa X 26 0)), (3, .ref (xa X 31 0))] [] (lcs_30 fu gu xs SL i μ) := by
  unfold lcs_30
  refine s_aload_n C dL_law_1893 rfl 2 rfl ?_
  refine s_aload_n C dL_law_1894 rfl 1 rfl ?_
  refine s_iload C dL_law_1895 0 rfl ?_
  refine s_iconst (v := (1 : Int32)) C dL_law_1897 (by decide) ?_
  refine s_iadd C dL_law_1898 ?_
  refine s_sld C S dL_law_1899 ?_
  refine s_aload_n C dL_law_1900 rfl 1 rfl ?_
  refine s_iload C dL_law_1901 0 rfl ?_
  refine s_iconst (v := (2 : Int32)) C dL_law_1903 (by decide) ?_
  refine s_iadd C dL_law_1904 ?_
  refine s_sld C S dL_law_1905 ?_
  refine s_aload_n C dL_law_1906 rfl 1 rfl ?_
  refine s_iload C dL_law_1907 0 rfl ?_
  refine s_iconst (v := (3 : Int32)) C dL_law_1909 (by decide) ?_
  refine s_iadd C dL_law_1910 ?_
  refine s_sld C S dL_law_1911 ?_
  refine s_aload_n C dL_law_1912 rfl 4 rfl ?_
  refine s_callH (n := 5) C R0 (kL_schedule (xl X) hT fu 0 (by decide) (xs (i + (1 : Int32)).toNatClampNeg) (xs (i + (2 : Int32)).toNatClampNeg) (xs (i + (3 : Int32)).toNatClampNeg) 0 (by decide)) (Nat.le_trans (by decide) V) q154 q1448 ⟨by decide +kernel, by decide +kernel, by decide +kernel⟩ q1447 q1446 rfl rfl rfl (Nat.le_of_ble_eq_true rfl) ⟨Nat.le_of_ble_eq_true rfl, Nat.le_of_ble_eq_true rfl, by omega, by omega⟩ dL_law_1913 (fun x2 μ1 => ?_)
  refine g_st (st' := [.int x2]) rfl ?_
  refine s_istore (L' := [(5, .int x2), (4, .int i), (0, .ref bs), (1, .ref (xa X 0 0)), (2, .ref (xa X 26 0)), (3, .ref (xa X 31 0))]) C dL_law_1916 (hN 5 (by decide)) rfl ?_
  refine s_aload_n C dL_law_1918 rfl 4 rfl ?_
  refine s_aload_n C dL_law_1919 rfl 2 rfl ?_
  refine s_iload C dL_law_1920 1 rfl ?_
  refine s_iconst (v := (1 : Int32)) C dL_law_1922 (by decide) ?_
  refine s_iadd C dL_law_1923 ?_
  refine s_sld C S dL_law_1924 ?_
  refine s_aload_n C dL_law_1925 rfl 2 rfl ?_
  refine s_iload C dL_law_1926 1 rfl ?_
  refine s_iconst (v := (2 : Int32)) C dL_law_1928 (by decide) ?_
  refine s_iadd C dL_law_1929 ?_
  refine s_sld C S dL_law_1930 ?_
  refine s_aload_n C dL_law_1931 rfl 2 rfl ?_
  refine s_iload C dL_law_1932 1 rfl ?_
  refine s_iconst (v := (3 : Int32)) C dL_law_1934 (by decide) ?_
  refine s_iadd C dL_law_1935 ?_
  refine s_sld C S dL_law_1936 ?_
  refine s_callM C R0 V (kX13_schedule (xl X) gu 0 (by decide) (xs (i + (1 : Int32)).toNatClampNeg) (xs (i + (2 : Int32)).toNatClampNeg) (xs (i + (3 : Int32)).toNatClampNeg)) mmX13_schedule miX13_schedule q2420 (rc26 (Nat.le_trans (by decide) V)) (by decide) rfl rfl rfl (Nat.le_of_ble_eq_true rfl) ⟨Nat.le_of_ble_eq_true rfl, Nat.le_of_ble_eq_true rfl, by omega, by omega⟩ dL_law_1937 (fun x4 μ3 => ?_)
  refine g_st (st' := [.int x4]) rfl ?_
  refine s_istore (L' := [(6, .int x4), (5, .int x2), (4, .int i), (0, .ref bs), (1, .ref (xa X 0 0)), (2, .ref (xa X 26 0)), (3, .ref (xa X 31 0))]) C dL_law_1940 (hN 6 (by decide)) rfl ?_
  refine s_aload_n C dL_law_1942 rfl 5 rfl ?_
  refine s_callM C R0 V (kX13_thrown (xl X) 0 (by decide)) mmX13_thrown miX13_thrown q2229 (rc26 (Nat.le_trans (by decide) V)) (by decide) rfl rfl rfl (Nat.le_of_ble_eq_true rfl) ⟨Nat.le_of_ble_eq_true rfl, Nat.le_of_ble_eq_true rfl, by omega, by omega⟩ dL_law_1943 (fun x6 μ5 => ?_)
  refine g_st (st' := [.int x6]) rfl ?_
  refine s_iload C dL_law_1946 1 rfl ?_
  refine s_icmp_eq (tgt := 1953) C dL_law_1948 (by decide) (fun c7 => ?_) (fun c7 => ?_)
  ·
    refine g_jn (P := fun j1970 => ∀ (μ8 : Mem), G X r0 (ca + 3) (sl + 18) μ8 1970 [(0, .ref bs), (1, .ref (xa X 0 0)), (2, .ref (xa X 26 0)), (3, .ref (xa X 31 0)), (4, .int i)] [] (j1970 μ8)) ?_ (fun j1970 hj1970 => ?_)
    · intro μ8
      refine s_goto (tgt := 2636) C dL_law_1970 (by decide) ?_
      exact g_endL (ca1 := ca + 3) (sl1 := sl + 18) (by omega) (by omega) [4, 0, 1, 2, 3] rfl H0
    refine s_iload C dL_law_1953 1 rfl ?_
    refine s_if_ne (tgt := 1970) C dL_law_1955 (by decide) (fun c9 => ?_) (fun c9 => ?_)
    ·
      exact g_wid (ca1 := ca + 3) (sl1 := sl + 18) (by omega) (by omega) <| g_sub [3, 4, 5, 6, 2] rfl (hj1970 μ5)
    ·
      refine s_aload_n C dL_law_1958 rfl 6 rfl ?_
      refine s_iconst (v := (0 : Int32)) C dL_law_1959 (by decide) ?_
      refine s_lald C (ag31 V) (by decide) dL_law_1960 ?_
      refine s_iload C dL_law_1961 0 rfl ?_
      refine s_i2l C dL_law_1963 ?_
      refine s_lcmp C dL_law_1964 ?_
      refine s_if_eq (tgt := 1970) C dL_law_1965 (by decide) (fun c10 => ?_) (fun c10 => ?_)
      ·
        exact g_wid (ca1 := ca + 3) (sl1 := sl + 18) (by omega) (by omega) <| g_sub [3, 4, 5, 6, 2] rfl (hj1970 μ5)
      ·
        refine s_iconst (v := (0 : Int32)) C dL_law_1968 (by decide) ?_
        exact g_none
  ·
    refine s_iconst (v := (0 : Int32)) C dL_law_1951 (by decide) ?_
    exact g_none

def lcs_31 (fu gu : Nat) (xs : Nat → Int32) (SL : Nat) (i : Int32) (μ : Mem) : Option Mem :=
  ckI (i + (1 : Int32)) SL <|
  ckI (i + (2 : Int32)) SL <|
  bnd (fL_poke fu 0 (xs (i + (1 : Int32)).toNatClampNeg) (xs (i + (2 : Int32)).toNatClampNeg) 0 μ) fun x2 μ1 =>
  ckI (i + (1 : Int32)) SL <|
  ckI (i + (2 : Int32)) SL <|
  bndJ μ1 (fX13_poke gu 0 (xs (i + (1 : Int32)).toNatClampNeg) (xs (i + (2 : Int32)).toNatClampNeg) (kJ μ μ1)) fun x4 μ3 =>
  bndJ μ3 (fX13_thrown 0 (kJ μ μ3)) fun x6 μ5 =>
  if x6 = x2 then (
    jn (fun (μ8 : Mem) =>
      some μ8
    ) fun j2038 =>
    if ¬ x2 = 0 then (
      j2038 μ5
    ) else (
      ckI (0 : Int32) (1) <|
      if (lg_cmp (μ5.2.2 31 0 (0 : Int32).toNatClampNeg) (x4.toInt64)) = 0 then (
        j2038 μ5
      ) else (
        none
      )
    )
  ) else (
    none
  )
set_option maxHeartbeats 4000000 in
set_option maxRecDepth 100000 in
theorem lcz_31 {X : CX} (hT : (xl X).stackTraces = false) (V : 2 ≤ xv X) (C : Ok X RL cL_law) (R0 : Rm X 2048 84000 601024 7293034) (hN : ∀ i : Nat, i < 8 → i < xn X) {bs SL : Nat} {xs : Nat → Int32} (S : Scr X bs SL xs) (fu gu : Nat) {ca sl : Nat} (hc : ca + 1 ≤ 601024) (hs : sl + 6 ≤ 7293034) (i : Int32) (μ r0 : Mem) (H0 : J X (ca + 1) (sl + 6) r0 2636 [(4, .int i), (0, .ref bs), (1, .ref (xa X 0 0)), (2, .ref (xa X 26 0)), (3, .ref (xa X 31 0))] []) : G X r0 ca sl μ 1973 [(4, .int i), (0, .ref bs), (1, .ref (xa X 0 0)), (2, .ref (xa X 26 0)), (3, .ref (xa X 31 0))] [] (lcs_31 fu gu xs SL i μ) := by
  unfold lcs_31
  refine s_aload_n C dL_law_1973 rfl 2 rfl ?_
  refine s_aload_n C dL_law_1974 rfl 1 rfl ?_
  refine s_iload C dL_law_1975 0 rfl ?_
  refine s_iconst (v := (1 : Int32)) C dL_law_1977 (by decide) ?_
  refine s_iadd C dL_law_1978 ?_
  refine s_sld C S dL_law_1979 ?_
  refine s_aload_n C dL_law_1980 rfl 1 rfl ?_
  refine s_iload C dL_law_1981 0 rfl ?_
  refine s_iconst (v := (2 : Int32)) C dL_law_1983 (by decide) ?_
  refine s_iadd C dL_law_1984 ?_
  refine s_sld C S dL_law_1985 ?_
  refine s_aload_n C dL_law_1986 rfl 4 rfl ?_
  refine s_callH (n := 4) C R0 (kL_poke (xl X) hT fu 0 (by decide) (xs (i + (1 : Int32)).toNatClampNeg) (xs (i + (2 : Int32)).toNatClampNeg) 0 (by decide)) (Nat.le_trans (by decide) V) q154 q1460 ⟨by decide +kernel, by decide +kernel, by decide +kernel⟩ q1459 q1458 rfl rfl rfl (Nat.le_of_ble_eq_true rfl) ⟨Nat.le_of_ble_eq_true rfl, Nat.le_of_ble_eq_true rfl, by omega, by omega⟩ dL_law_1987 (fun x2 μ1 => ?_)
  refine g_st (st' := [.int x2]) rfl ?_
  refine s_istore (L' := [(5, .int x2), (4, .int i), (0, .ref bs), (1, .ref (xa X 0 0)), (2, .ref (xa X 26 0)), (3, .ref (xa X 31 0))]) C dL_law_1990 (hN 5 (by decide)) rfl ?_
  refine s_aload_n C dL_law_1992 rfl 4 rfl ?_
  refine s_aload_n C dL_law_1993 rfl 2 rfl ?_
  refine s_iload C dL_law_1994 1 rfl ?_
  refine s_iconst (v := (1 : Int32)) C dL_law_1996 (by decide) ?_
  refine s_iadd C dL_law_1997 ?_
  refine s_sld C S dL_law_1998 ?_
  refine s_aload_n C dL_law_1999 rfl 2 rfl ?_
  refine s_iload C dL_law_2000 1 rfl ?_
  refine s_iconst (v := (2 : Int32)) C dL_law_2002 (by decide) ?_
  refine s_iadd C dL_law_2003 ?_
  refine s_sld C S dL_law_2004 ?_
  refine s_callM C R0 V (kX13_poke (xl X) gu 0 (by decide) (xs (i + (1 : Int32)).toNatClampNeg) (xs (i + (2 : Int32)).toNatClampNeg)) mmX13_poke miX13_poke q2425 (rc26 (Nat.le_trans (by decide) V)) (by decide) rfl rfl rfl (Nat.le_of_ble_eq_true rfl) ⟨Nat.le_of_ble_eq_true rfl, Nat.le_of_ble_eq_true rfl, by omega, by omega⟩ dL_law_2005 (fun x4 μ3 => ?_)
  refine g_st (st' := [.int x4]) rfl ?_
  refine s_istore (L' := [(6, .int x4), (5, .int x2), (4, .int i), (0, .ref bs), (1, .ref (xa X 0 0)), (2, .ref (xa X 26 0)), (3, .ref (xa X 31 0))]) C dL_law_2008 (hN 6 (by decide)) rfl ?_
  refine s_aload_n C dL_law_2010 rfl 5 rfl ?_
  refine s_callM C R0 V (kX13_thrown (xl X) 0 (by decide)) mmX13_thrown miX13_thrown q2229 (rc26 (Nat.le_trans (by decide) V)) (by decide) rfl rfl rfl (Nat.le_of_ble_eq_true rfl) ⟨Nat.le_of_ble_eq_true rfl, Nat.le_of_ble_eq_true rfl, by omega, by omega⟩ dL_law_2011 (fun x6 μ5 => ?_)
  refine g_st (st' := [.int x6]) rfl ?_
  refine s_iload C dL_law_2014 1 rfl ?_
  refine s_icmp_eq (tgt := 2021) C dL_law_2016 (by decide) (fun c7 => ?_) (fun c7 => ?_)
  ·
    refine g_jn (P := fun j2038 => ∀ (μ8 : Mem), G X r0 (ca + 1) (sl + 6) μ8 2038 [(0, .ref bs), (1, .ref (xa X 0 0)), (2, .ref (xa X 26 0)), (3, .ref (xa X 31 0)), (4, .int i)] [] (j2038 μ8)) ?_ (fun j2038 hj2038 => ?_)
    · intro μ8
      refine s_goto (tgt := 2636) C dL_law_2038 (by decide) ?_
      exact g_endL (ca1 := ca + 1) (sl1 := sl + 6) (by omega) (by omega) [4, 0, 1, 2, 3] rfl H0
    refine s_iload C dL_law_2021 1 rfl ?_
    refine s_if_ne (tgt := 2038) C dL_law_2023 (by decide) (fun c9 => ?_) (fun c9 => ?_)
    ·
      exact g_wid (ca1 := ca + 1) (sl1 := sl + 6) (by omega) (by omega) <| g_sub [3, 4, 5, 6, 2] rfl (hj2038 μ5)
    ·
      refine s_aload_n C dL_law_2026 rfl 6 rfl ?_
      refine s_iconst (v := (0 : Int32)) C dL_law_2027 (by decide) ?_
      refine s_lald C (ag31 V) (by decide) dL_law_2028 ?_
      refine s_iload C dL_law_2029 0 rfl ?_
      refine s_i2l C dL_law_2031 ?_
      refine s_lcmp C dL_law_2032 ?_
      refine s_if_eq (tgt := 2038) C dL_law_2033 (by decide) (fun c10 => ?_) (fun c10 => ?_)
      ·
        exact g_wid (ca1 := ca + 1) (sl1 := sl + 6) (by omega) (by omega) <| g_sub [3, 4, 5, 6, 2] rfl (hj2038 μ5)
      ·
        refine s_iconst (v := (0 : Int32)) C dL_law_2036 (by decide) ?_
        exact g_none
  ·
    refine s_iconst (v := (0 : Int32)) C dL_law_2019 (by decide) ?_
    exact g_none

def lcs_32 (fu gu : Nat) (xs : Nat → Int32) (SL : Nat) (i : Int32) (μ : Mem) : Option Mem :=
  ckI (i + (1 : Int32)) SL <|
  bnd (fL_run fu 0 (xs (i + (1 : Int32)).toNatClampNeg) 0 μ) fun x2 μ1 =>
  ckI (i + (1 : Int32)) SL <|
  bndJ μ1 (fX13_run gu 0 (xs (i + (1 : Int32)).toNatClampNeg) (kJ μ μ1)) fun x4 μ3 =>
  bndJ μ3 (fX13_thrown 0 (kJ μ μ3)) fun x6 μ5 =>
  if x6 = x2 then (
    jn (fun (μ8 : Mem) =>
      some μ8
    ) fun j2094 =>
    if ¬ x2 = 0 then (
      j2094 μ5
    ) else (
      ckI (0 : Int32) (1) <|
      if (lg_cmp (μ5.2.2 31 0 (0 : Int32).toNatClampNeg) (x4.toInt64)) = 0 then (
        j2094 μ5
      ) else (
        none
      )
    )
  ) else (
    none
  )
set_option maxHeartbeats 4000000 in
set_option maxRecDepth 100000 in
theorem lcz_32 {X : CX} (hT : (xl X).stackTraces = false) (V : 2 ≤ xv X) (C : Ok X RL cL_law) (R0 : Rm X 2048 84000 601024 7293034) (hN : ∀ i : Nat, i < 8 → i < xn X) {bs SL : Nat} {xs : Nat → Int32} (S : Scr X bs SL xs) (fu gu : Nat) {ca sl : Nat} (hc : ca + 1 ≤ 601024) (hs : sl + 6 ≤ 7293034) (i : Int32) (μ r0 : Mem) (H0 : J X (ca + 1) (sl + 6) r0 2636 [(4, .int i), (0, .ref bs), (1, .ref (xa X 0 0)), (2, .ref (xa X 26 0)), (3, .ref (xa X 31 0))] []) : G X r0 ca sl μ 2041 [(4, .int i), (0, .ref bs), (1, .ref (xa X 0 0)), (2, .ref (xa X 26 0)), (3, .ref (xa X 31 0))] [] (lcs_32 fu gu xs SL i μ) := by
  unfold lcs_32
  refine s_aload_n C dL_law_2041 rfl 2 rfl ?_
  refine s_aload_n C dL_law_2042 rfl 1 rfl ?_
  refine s_iload C dL_law_2043 0 rfl ?_
  refine s_iconst (v := (1 : Int32)) C dL_law_2045 (by decide) ?_
  refine s_iadd C dL_law_2046 ?_
  refine s_sld C S dL_law_2047 ?_
  refine s_aload_n C dL_law_2048 rfl 4 rfl ?_
  refine s_callH (n := 3) C R0 (kL_run (xl X) hT fu 0 (by decide) (xs (i + (1 : Int32)).toNatClampNeg) 0 (by decide)) (Nat.le_trans (by decide) V) q154 q1467 ⟨by decide +kernel, by decide +kernel, by decide +kernel⟩ q1466 q1465 rfl rfl rfl (Nat.le_of_ble_eq_true rfl) ⟨Nat.le_of_ble_eq_true rfl, Nat.le_of_ble_eq_true rfl, by omega, by omega⟩ dL_law_2049 (fun x2 μ1 => ?_)
  refine g_st (st' := [.int x2]) rfl ?_
  refine s_istore (L' := [(5, .int x2), (4, .int i), (0, .ref bs), (1, .ref (xa X 0 0)), (2, .ref (xa X 26 0)), (3, .ref (xa X 31 0))]) C dL_law_2052 (hN 5 (by decide)) rfl ?_
  refine s_aload_n C dL_law_2054 rfl 4 rfl ?_
  refine s_aload_n C dL_law_2055 rfl 2 rfl ?_
  refine s_iload C dL_law_2056 1 rfl ?_
  refine s_iconst (v := (1 : Int32)) C dL_law_2058 (by decide) ?_
  refine s_iadd C dL_law_2059 ?_
  refine s_sld C S dL_law_2060 ?_
  refine s_callM C R0 V (kX13_run (xl X) gu 0 (by decide) (xs (i + (1 : Int32)).toNatClampNeg)) mmX13_run miX13_run q2429 (rc26 (Nat.le_trans (by decide) V)) (by decide) rfl rfl rfl (Nat.le_of_ble_eq_true rfl) ⟨Nat.le_of_ble_eq_true rfl, Nat.le_of_ble_eq_true rfl, by omega, by omega⟩ dL_law_2061 (fun x4 μ3 => ?_)
  refine g_st (st' := [.int x4]) rfl ?_
  refine s_istore (L' := [(6, .int x4), (5, .int x2), (4, .int i), (0, .ref bs), (1, .ref (xa X 0 0)), (2, .ref (xa X 26 0)), (3, .ref (xa X 31 0))]) C dL_law_2064 (hN 6 (by decide)) rfl ?_
  refine s_aload_n C dL_law_2066 rfl 5 rfl ?_
  refine s_callM C R0 V (kX13_thrown (xl X) 0 (by decide)) mmX13_thrown miX13_thrown q2229 (rc26 (Nat.le_trans (by decide) V)) (by decide) rfl rfl rfl (Nat.le_of_ble_eq_true rfl) ⟨Nat.le_of_ble_eq_true rfl, Nat.le_of_ble_eq_true rfl, by omega, by omega⟩ dL_law_2067 (fun x6 μ5 => ?_)
  refine g_st (st' := [.int x6]) rfl ?_
  refine s_iload C dL_law_2070 1 rfl ?_
  refine s_icmp_eq (tgt := 2077) C dL_law_2072 (by decide) (fun c7 => ?_) (fun c7 => ?_)
  ·
    refine g_jn (P := fun j2094 => ∀ (μ8 : Mem), G X r0 (ca + 1) (sl + 6) μ8 2094 [(0, .ref bs), (1, .ref (xa X 0 0)), (2, .ref (xa X 26 0)), (3, .ref (xa X 31 0)), (4, .int i)] [] (j2094 μ8)) ?_ (fun j2094 hj2094 => ?_)
    · intro μ8
      refine s_goto (tgt := 2636) C dL_law_2094 (by decide) ?_
      exact g_endL (ca1 := ca + 1) (sl1 := sl + 6) (by omega) (by omega) [4, 0, 1, 2, 3] rfl H0
    refine s_iload C dL_law_2077 1 rfl ?_
    refine s_if_ne (tgt := 2094) C dL_law_2079 (by decide) (fun c9 => ?_) (fun c9 => ?_)
    ·
      exact g_wid (ca1 := ca + 1) (sl1 := sl + 6) (by omega) (by omega) <| g_sub [3, 4, 5, 6, 2] rfl (hj2094 μ5)
    ·
      refine s_aload_n C dL_law_2082 rfl 6 rfl ?_
      refine s_iconst (v := (0 : Int32)) C dL_law_2083 (by decide) ?_
      refine s_lald C (ag31 V) (by decide) dL_law_2084 ?_
      refine s_iload C dL_law_2085 0 rfl ?_
      refine s_i2l C dL_law_2087 ?_
      refine s_lcmp C dL_law_2088 ?_
      refine s_if_eq (tgt := 2094) C dL_law_2089 (by decide) (fun c10 => ?_) (fun c10 => ?_)
      ·
        exact g_wid (ca1 := ca + 1) (sl1 := sl + 6) (by omega) (by omega) <| g_sub [3, 4, 5, 6, 2] rfl (hj2094 μ5)
      ·
        refine s_iconst (v := (0 : Int32)) C dL_law_2092 (by decide) ?_
        exact g_none
  ·
    refine s_iconst (v := (0 : Int32)) C dL_law_2075 (by decide) ?_
    exact g_none

