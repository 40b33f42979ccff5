/-! PinEnginesModel.putNumber(III)V -/
def fX13_putNumber (fu : Nat) (n0 : Nat) (p1 : Int32) (p2 : Int32) (p3 : Int32) (μ : Mem) : Option (Unit × Mem) :=
  jn (fun (μ1 : Mem) =>
    some ((), μ1)
  ) fun j23 =>
  bnd (fX13_number fu n0 p2 p3 μ) fun x3 μ2 =>
  if ¬ (μ2.1 26 n0 26) = 0 then (
    j23 μ2
  ) else (
    ckI p1 (if 1 = 4 then 7000 else 700) <|
    nm (wI μ2 27 1 p1.toNatClampNeg x3) fun μ5 =>
    j23 μ5
  )
set_option maxHeartbeats 4000000 in
set_option maxRecDepth 100000 in
theorem kX13_putNumber (l : Launch) (fu : Nat) (n0 : Nat) (g0 : n0 < 1) (p1 : Int32) (p2 : Int32) (p3 : Int32) : Kon 1 l yX13_putNumber cX13_putNumber 5 (none) 5 105 0 0 (fun ad => [.ref (ad 26 n0), .int p1, .int p2, .int p3]) rvV (fun μ => fX13_putNumber fu n0 p1 p2 p3 μ) := by
  refine kon_of (by decide) (fun _ => Nat.le_of_ble_eq_true rfl) (fun X r0 μ hXl hXn V C E => ?_)
  have hN : ∀ i : Nat, i < 5 → i < xn X := fun i h => hXn.symm ▸ h
  have R0 := fen_rm E
  show G X r0 0 0 μ 0 [(0, .ref (xa X 26 n0)), (1, .int p1), (2, .int p2), (3, .int p3)] [] (fX13_putNumber fu n0 p1 p2 p3 μ)
  unfold fX13_putNumber
  refine g_jn (P := fun j23 => ∀ (μ1 : Mem), G X r0 0 0 μ1 23 [] [] (j23 μ1)) ?_ (fun j23 hj23 => ?_)
  · intro μ1
    exact s_vret C E dX13_putNumber_23
  refine s_aload_n C dX13_putNumber_0 rfl 0 rfl ?_
  refine s_iload_n C dX13_putNumber_1 rfl 2 rfl ?_
  refine s_iload_n C dX13_putNumber_2 rfl 3 rfl ?_
  refine s_callV C R0 (kX13_number (xl X) fu n0 g0 p2 p3) (Nat.le_trans (by decide) V) mmX13_number miX13_number q2720 (rc26 (Nat.le_trans (by decide) V)) g0 rfl rfl rfl (Nat.le_of_ble_eq_true rfl) ⟨Nat.le_of_ble_eq_true rfl, Nat.le_of_ble_eq_true rfl, Nat.le_of_ble_eq_true rfl, Nat.le_of_ble_eq_true rfl⟩ dX13_putNumber_3 (fun x3 μ2 => ?_)
  refine g_st (st' := [.int x3]) rfl ?_
  refine s_istore (L' := [(4, .int x3), (0, .ref (xa X 26 n0)), (1, .int p1), (2, .int p2), (3, .int p3)]) C dX13_putNumber_6 (hN 4 (by decide)) rfl ?_
  refine s_aload_n C dX13_putNumber_8 rfl 1 rfl ?_
  refine s_getI C (fgX13_490_26 (Nat.le_trans (by decide) V)) g0 dX13_putNumber_9 ?_
  refine s_if_ne (tgt := 23) C dX13_putNumber_12 (by decide) (fun c4 => ?_) (fun c4 => ?_)
  ·
    exact g_sub [] rfl (hj23 μ2)
  ·
    refine s_aload_n C dX13_putNumber_15 rfl 1 rfl ?_
    refine s_getF C (fgX13_13_26 (Nat.le_trans (by decide) V)) g0 dX13_putNumber_16 ?_
    refine s_iload_n C dX13_putNumber_19 rfl 2 rfl ?_
    refine s_iload C dX13_putNumber_20 0 rfl ?_
    refine s_iast C (ag27 (Nat.le_trans (by decide) V)) (by decide) dX13_putNumber_22 ?_
    refine g_nmM (fun μ5 => ?_)
    exact g_sub [] rfl (hj23 μ5)
/-! PinEnginesModel.readGroup(II)V -/
def fX13_readGroup (fu : Nat) (n0 : Nat) (p1 : Int32) (p2 : Int32) (μ : Mem) : Option (Unit × Mem) :=
  bnd (fX13_scan fu n0 μ) fun _ μ1 =>
  bnd (fX13_putNumber fu n0 p1 (0 : Int32) (15 : Int32) μ1) fun _ μ2 =>
  bnd (fX13_putNumber fu n0 (p1 + (1 : Int32)) (1 : Int32) p2 μ2) fun _ μ3 =>
  some ((), μ3)
set_option maxHeartbeats 4000000 in
set_option maxRecDepth 100000 in
theorem kX13_readGroup (l : Launch) (fu : Nat) (n0 : Nat) (g0 : n0 < 1) (p1 : Int32) (p2 : Int32) : Kon 1 l yX13_readGroup cX13_readGroup 3 (none) 6 129 0 0 (fun ad => [.ref (ad 26 n0), .int p1, .int p2]) rvV (fun μ => fX13_readGroup fu n0 p1 p2 μ) := by
  refine kon_of (by decide) (fun _ => Nat.le_of_ble_eq_true rfl) (fun X r0 μ hXl hXn V C E => ?_)
  have hN : ∀ i : Nat, i < 3 → i < xn X := fun i h => hXn.symm ▸ h
  have R0 := fen_rm E
  show G X r0 0 0 μ 0 [(0, .ref (xa X 26 n0)), (1, .int p1), (2, .int p2)] [] (fX13_readGroup fu n0 p1 p2 μ)
  unfold fX13_readGroup
  refine s_aload_n C dX13_readGroup_0 rfl 0 rfl ?_
  refine s_callV C R0 (kX13_scan (xl X) fu n0 g0) (Nat.le_trans (by decide) V) mmX13_scan miX13_scan q2646 (rc26 (Nat.le_trans (by decide) V)) g0 rfl rfl rfl (Nat.le_of_ble_eq_true rfl) ⟨Nat.le_of_ble_eq_true rfl, Nat.le_of_ble_eq_true rfl, Nat.le_of_ble_eq_true rfl, Nat.le_of_ble_eq_true rfl⟩ dX13_readGroup_1 (fun _ μ1 => ?_)
  refine g_st (st' := []) rfl ?_
  refine s_aload_n C dX13_readGroup_4 rfl 0 rfl ?_
  refine s_iload_n C dX13_readGroup_5 rfl 1 rfl ?_
  refine s_iconst (v := (0 : Int32)) C dX13_readGroup_6 (by decide) ?_
  refine s_bipush (v := (15 : Int32)) C dX13_readGroup_7 (by decide) ?_
  refine s_callV C R0 (kX13_putNumber (xl X) fu n0 g0 p1 (0 : Int32) (15 : Int32)) (Nat.le_trans (by decide) V) mmX13_putNumber miX13_putNumber q2728 (rc26 (Nat.le_trans (by decide) V)) g0 rfl rfl rfl (Nat.le_of_ble_eq_true rfl) ⟨Nat.le_of_ble_eq_true rfl, Nat.le_of_ble_eq_true rfl, Nat.le_of_ble_eq_true rfl, Nat.le_of_ble_eq_true rfl⟩ dX13_readGroup_9 (fun _ μ2 => ?_)
  refine g_st (st' := []) rfl ?_
  refine s_aload_n C dX13_readGroup_12 rfl 0 rfl ?_
  refine s_iload_n C dX13_readGroup_13 rfl 1 rfl ?_
  refine s_iconst (v := (1 : Int32)) C dX13_readGroup_14 (by decide) ?_
  refine s_iadd C dX13_readGroup_15 ?_
  refine s_iconst (v := (1 : Int32)) C dX13_readGroup_16 (by decide) ?_
  refine s_iload_n C dX13_readGroup_17 rfl 2 rfl ?_
  refine s_callV C R0 (kX13_putNumber (xl X) fu n0 g0 (p1 + (1 : Int32)) (1 : Int32) p2) (Nat.le_trans (by decide) V) mmX13_putNumber miX13_putNumber q2728 (rc26 (Nat.le_trans (by decide) V)) g0 rfl rfl rfl (Nat.le_of_ble_eq_true rfl) ⟨Nat.le_of_ble_eq_true rfl, Nat.le_of_ble_eq_true rfl, Nat.le_of_ble_eq_true rfl, Nat.le_of_ble_eq_true rfl⟩ dX13_readGroup_18 (fun _ μ3 => ?_)
  refine g_st (st' := []) rfl ?_
  exact s_vret C E dX13_readGroup_21
/-! PinEnginesModel.readLimit(I)V -/
def fX13_readLimit (fu : Nat) (n0 : Nat) (p1 : Int32) (μ : Mem) : Option (Unit × Mem) :=
  bnd (fX13_scan fu n0 μ) fun _ μ1 =>
  bnd (fX13_putNumber fu n0 p1 (1 : Int32) (32 : Int32) μ1) fun _ μ2 =>
  ckI (p1 + (1 : Int32)) (if 1 = 4 then 7000 else 700) <|
  nm (wI μ2 27 1 (p1 + (1 : Int32)).toNatClampNeg (1 : Int32)) fun μ3 =>
  some ((), μ3)
set_option maxHeartbeats 4000000 in
set_option maxRecDepth 100000 in
theorem kX13_readLimit (l : Launch) (fu : Nat) (n0 : Nat) (g0 : n0 < 1) (p1 : Int32) : Kon 1 l yX13_readLimit cX13_readLimit 2 (none) 6 129 0 0 (fun ad => [.ref (ad 26 n0), .int p1]) rvV (fun μ => fX13_readLimit fu n0 p1 μ) := by
  refine kon_of (by decide) (fun _ => Nat.le_of_ble_eq_true rfl) (fun X r0 μ hXl hXn V C E => ?_)
  have hN : ∀ i : Nat, i < 2 → i < xn X := fun i h => hXn.symm ▸ h
  have R0 := fen_rm E
  show G X r0 0 0 μ 0 [(0, .ref (xa X 26 n0)), (1, .int p1)] [] (fX13_readLimit fu n0 p1 μ)
  unfold fX13_readLimit
  refine s_aload_n C dX13_readLimit_0 rfl 0 rfl ?_
  refine s_callV C R0 (kX13_scan (xl X) fu n0 g0) (Nat.le_trans (by decide) V) mmX13_scan miX13_scan q2646 (rc26 (Nat.le_trans (by decide) V)) g0 rfl rfl rfl (Nat.le_of_ble_eq_true rfl) ⟨Nat.le_of_ble_eq_true rfl, Nat.le_of_ble_eq_true rfl, Nat.le_of_ble_eq_true rfl, Nat.le_of_ble_eq_true rfl⟩ dX13_readLimit_1 (fun _ μ1 => ?_)
  refine g_st (st' := []) rfl ?_
  refine s_aload_n C dX13_readLimit_4 rfl 0 rfl ?_
  refine s_iload_n C dX13_readLimit_5 rfl 1 rfl ?_
  refine s_iconst (v := (1 : Int32)) C dX13_readLimit_6 (by decide) ?_
  refine s_bipush (v := (32 : Int32)) C dX13_readLimit_7 (by decide) ?_
  refine s_callV C R0 (kX13_putNumber (xl X) fu n0 g0 p1 (1 : Int32) (32 : Int32)) (Nat.le_trans (by decide) V) mmX13_putNumber miX13_putNumber q2728 (rc26 (Nat.le_trans (by decide) V)) g0 rfl rfl rfl (Nat.le_of_ble_eq_true rfl) ⟨Nat.le_of_ble_eq_true rfl, Nat.le_of_ble_eq_true rfl, Nat.le_of_ble_eq_true rfl, Nat.le_of_ble_eq_true rfl⟩ dX13_readLimit_9 (fun _ μ2 => ?_)
  refine g_st (st' := []) rfl ?_
  refine s_aload_n C dX13_readLimit_12 rfl 0 rfl ?_
  refine s_getF C (fgX13_13_26 (Nat.le_trans (by decide) V)) g0 dX13_readLimit_13 ?_
  refine s_iload_n C dX13_readLimit_16 rfl 1 rfl ?_
  refine s_iconst (v := (1 : Int32)) C dX13_readLimit_17 (by decide) ?_
  refine s_iadd C dX13_readLimit_18 ?_
  refine s_iconst (v := (1 : Int32)) C dX13_readLimit_19 (by decide) ?_
  refine s_iast C (ag27 (Nat.le_trans (by decide) V)) (by decide) dX13_readLimit_20 ?_
  refine g_nmM (fun μ3 => ?_)
  exact s_vret C E dX13_readLimit_21
/-! PinEnginesModel.join(II)V -/
def fX13_join (fu : Nat) (n0 : Nat) (p1 : Int32) (p2 : Int32) (μ : Mem) : Option (Unit × Mem) :=
  bnd (fX13_scan fu n0 μ) fun _ μ1 =>
  ckI (p1 + (19 : Int32)) (if 1 = 4 then 7000 else 700) <|
  nm (wI μ1 27 1 (p1 + (19 : Int32)).toNatClampNeg p2) fun μ2 =>
  ckI (p1 + (20 : Int32)) (if 1 = 4 then 7000 else 700) <|
  nm (wI μ2 27 1 (p1 + (20 : Int32)).toNatClampNeg ((8 : Int32) - p2)) fun μ3 =>
  some ((), μ3)
set_option maxHeartbeats 4000000 in
set_option maxRecDepth 100000 in
theorem kX13_join (l : Launch) (fu : Nat) (n0 : Nat) (g0 : n0 < 1) (p1 : Int32) (p2 : Int32) : Kon 1 l yX13_join cX13_join 3 (none) 3 62 0 0 (fun ad => [.ref (ad 26 n0), .int p1, .int p2]) rvV (fun μ => fX13_join fu n0 p1 p2 μ) := by
  refine kon_of (by decide) (fun _ => Nat.le_of_ble_eq_true rfl) (fun X r0 μ hXl hXn V C E => ?_)
  have hN : ∀ i : Nat, i < 3 → i < xn X := fun i h => hXn.symm ▸ h
  have R0 := fen_rm E
  show G X r0 0 0 μ 0 [(0, .ref (xa X 26 n0)), (1, .int p1), (2, .int p2)] [] (fX13_join fu n0 p1 p2 μ)
  unfold fX13_join
  refine s_aload_n C dX13_join_0 rfl 0 rfl ?_
  refine s_callV C R0 (kX13_scan (xl X) fu n0 g0) (Nat.le_trans (by decide) V) mmX13_scan miX13_scan q2646 (rc26 (Nat.le_trans (by decide) V)) g0 rfl rfl rfl (Nat.le_of_ble_eq_true rfl) ⟨Nat.le_of_ble_eq_true rfl, Nat.le_of_ble_eq_true rfl, Nat.le_of_ble_eq_true rfl, Nat.le_of_ble_eq_true rfl⟩ dX13_join_1 (fun _ μ1 => ?_)
  refine g_st (st' := []) rfl ?_
  refine s_aload_n C dX13_join_4 rfl 0 rfl ?_
  refine s_getF C (fgX13_13_26 (Nat.le_trans (by decide) V)) g0 dX13_join_5 ?_
  refine s_iload_n C dX13_join_8 rfl 1 rfl ?_
  refine s_bipush (v := (19 : Int32)) C dX13_join_9 (by decide) ?_
  refine s_iadd C dX13_join_11 ?_
  refine s_iload_n C dX13_join_12 rfl 2 rfl ?_
  refine s_iast C (ag27 (Nat.le_trans (by decide) V)) (by decide) dX13_join_13 ?_
  refine g_nmM (fun μ2 => ?_)
  refine s_aload_n C dX13_join_14 rfl 0 rfl ?_
  refine s_getF C (fgX13_13_26 (Nat.le_trans (by decide) V)) g0 dX13_join_15 ?_
  refine s_iload_n C dX13_join_18 rfl 1 rfl ?_
  refine s_bipush (v := (20 : Int32)) C dX13_join_19 (by decide) ?_
  refine s_iadd C dX13_join_21 ?_
  refine s_bipush (v := (8 : Int32)) C dX13_join_22 (by decide) ?_
  refine s_iload_n C dX13_join_24 rfl 2 rfl ?_
  refine s_isub C dX13_join_25 ?_
  refine s_iast C (ag27 (Nat.le_trans (by decide) V)) (by decide) dX13_join_26 ?_
  refine g_nmM (fun μ3 => ?_)
  exact s_vret C E dX13_join_27
/-! PinEnginesModel.readClock(I)V -/
def fX13_readClock (fu : Nat) (n0 : Nat) (p1 : Int32) (μ : Mem) : Option (Unit × Mem) :=
  bnd (fX13_number fu n0 (1 : Int32) (255 : Int32) μ) fun x2 μ1 =>
  bnd (fX13_number fu n0 (0 : Int32) (255 : Int32) μ1) fun x4 μ3 =>
  ckI (p1 + (2 : Int32)) (if 1 = 4 then 7000 else 700) <|
  nm (wI μ3 27 1 (p1 + (2 : Int32)).toNatClampNeg (((256 : Int32) * x2) + x4)) fun μ5 =>
  some ((), μ5)
set_option maxHeartbeats 4000000 in
set_option maxRecDepth 100000 in
theorem kX13_readClock (l : Launch) (fu : Nat) (n0 : Nat) (g0 : n0 < 1) (p1 : Int32) : Kon 1 l yX13_readClock cX13_readClock 4 (none) 5 105 0 0 (fun ad => [.ref (ad 26 n0), .int p1]) rvV (fun μ => fX13_readClock fu n0 p1 μ) := by
  refine kon_of (by decide) (fun _ => Nat.le_of_ble_eq_true rfl) (fun X r0 μ hXl hXn V C E => ?_)
  have hN : ∀ i : Nat, i < 4 → i < xn X := fun i h => hXn.symm ▸ h
  have R0 := fen_rm E
  show G X r0 0 0 μ 0 [(0, .ref (xa X 26 n0)), (1, .int p1)] [] (fX13_readClock fu n0 p1 μ)
  unfold fX13_readClock
  refine s_aload_n C dX13_readClock_0 rfl 0 rfl ?_
  refine s_iconst (v := (1 : Int32)) C dX13_readClock_1 (by decide) ?_
  refine s_sipush (v := (255 : Int32)) C dX13_readClock_2 (by decide) ?_
  refine s_callV C R0 (kX13_number (xl X) fu n0 g0 (1 : Int32) (255 : Int32)) (Nat.le_trans (by decide) V) mmX13_number miX13_number q2720 (rc26 (Nat.le_trans (by decide) V)) g0 rfl rfl rfl (Nat.le_of_ble_eq_true rfl) ⟨Nat.le_of_ble_eq_true rfl, Nat.le_of_ble_eq_true rfl, Nat.le_of_ble_eq_true rfl, Nat.le_of_ble_eq_true rfl⟩ dX13_readClock_5 (fun x2 μ1 => ?_)
  refine g_st (st' := [.int x2]) rfl ?_
  refine s_istore_n (L' := [(2, .int x2), (0, .ref (xa X 26 n0)), (1, .int p1)]) C dX13_readClock_8 rfl (hN 2 (by decide)) rfl ?_
  refine s_aload_n C dX13_readClock_9 rfl 1 rfl ?_
  refine s_iconst (v := (0 : Int32)) C dX13_readClock_10 (by decide) ?_
  refine s_sipush (v := (255 : Int32)) C dX13_readClock_11 (by decide) ?_
  refine s_callV C R0 (kX13_number (xl X) fu n0 g0 (0 : Int32) (255 : Int32)) (Nat.le_trans (by decide) V) mmX13_number miX13_number q2720 (rc26 (Nat.le_trans (by decide) V)) g0 rfl rfl rfl (Nat.le_of_ble_eq_true rfl) ⟨Nat.le_of_ble_eq_true rfl, Nat.le_of_ble_eq_true rfl, Nat.le_of_ble_eq_true rfl, Nat.le_of_ble_eq_true rfl⟩ dX13_readClock_14 (fun x4 μ3 => ?_)
  refine g_st (st' := [.int x4]) rfl ?_
  refine s_istore_n (L' := [(3, .int x4), (2, .int x2), (0, .ref (xa X 26 n0)), (1, .int p1)]) C dX13_readClock_17 rfl (hN 3 (by decide)) rfl ?_
  refine s_aload_n C dX13_readClock_18 rfl 2 rfl ?_
  refine s_getF C (fgX13_13_26 (Nat.le_trans (by decide) V)) g0 dX13_readClock_19 ?_
  refine s_iload_n C dX13_readClock_22 rfl 3 rfl ?_
  refine s_iconst (v := (2 : Int32)) C dX13_readClock_23 (by decide) ?_
  refine s_iadd C dX13_readClock_24 ?_
  refine s_sipush (v := (256 : Int32)) C dX13_readClock_25 (by decide) ?_
  refine s_iload_n C dX13_readClock_28 rfl 1 rfl ?_
  refine s_imul C dX13_readClock_29 ?_
  refine s_iload_n C dX13_readClock_30 rfl 0 rfl ?_
  refine s_iadd C dX13_readClock_31 ?_
  refine s_iast C (ag27 (Nat.le_trans (by decide) V)) (by decide) dX13_readClock_32 ?_
  refine g_nmM (fun μ5 => ?_)
  exact s_vret C E dX13_readClock_33
/-! PinEnginesModel.readFlag(ILjava/lang/String;)Z -/
def fX13_readFlag (fu : Nat) (n0 : Nat) (p1 : Int32) (n2 : Nat) (μ : Mem) : Option (Int32 × Mem) :=
  jn (fun (μ1 : Mem) (x2 : Int32) (a3 : Nat) (x5 : Int32) (x6 : Int32) =>
    ckI x5 (if a3 = 4 then 7000 else 700) <|
    nm (wI μ1 27 a3 x5.toNatClampNeg x6) fun μ7 =>
    ckZ x2 (some (x2, μ7))
  ) fun j25 =>
  bnd (fX13_accept fu n0 n2 μ) fun x9 μ8 =>
  if x9 = 0 then (
    ckI p1 (if 1 = 4 then 7000 else 700) <|
    j25 μ8 x9 1 p1 (μ8.1 27 1 p1.toNatClampNeg)
  ) else (
    j25 μ8 x9 1 p1 (1 : Int32)
  )
set_option maxHeartbeats 4000000 in
set_option maxRecDepth 100000 in
theorem kX13_readFlag (l : Launch) (fu : Nat) (n0 : Nat) (g0 : n0 < 1) (p1 : Int32) (n2 : Nat) (g2 : n2 < 70) : Kon 1 l yX13_readFlag cX13_readFlag 4 (some .boolean) 6 130 0 0 (fun ad => [.ref (ad 26 n0), .int p1, .ref (ad 51 n2)]) rvI (fun μ => fX13_readFlag fu n0 p1 n2 μ) := by
  refine kon_of (by decide) (fun _ => Nat.le_of_ble_eq_true rfl) (fun X r0 μ hXl hXn V C E => ?_)
  have hN : ∀ i : Nat, i < 4 → i < xn X := fun i h => hXn.symm ▸ h
  have R0 := fen_rm E
  show G X r0 0 0 μ 0 [(0, .ref (xa X 26 n0)), (1, .int p1), (2, .ref (xa X 51 n2))] [] (fX13_readFlag fu n0 p1 n2 μ)
  unfold fX13_readFlag
  refine g_jn (P := fun j25 => ∀ (μ1 : Mem) (x2 : Int32) (a3 : Nat) (x5 : Int32) (x6 : Int32), a3 < 5 → G X r0 0 0 μ1 25 [(3, .int x2)] [.int x6, .int x5, .ref (xa X 27 a3)] (j25 μ1 x2 a3 x5 x6)) ?_ (fun j25 hj25 => ?_)
  · intro μ1 x2 a3 x5 x6 b4
    refine s_iast C (ag27 (Nat.le_trans (by decide) V)) b4 dX13_readFlag_25 ?_
    refine g_nmM (fun μ7 => ?_)
    refine s_iload_n C dX13_readFlag_26 rfl 0 rfl ?_
    exact s_zret C E dX13_readFlag_27
  refine s_aload_n C dX13_readFlag_0 rfl 0 rfl ?_
  refine s_aload_n C dX13_readFlag_1 rfl 2 rfl ?_
  refine s_callV C R0 (kX13_accept (xl X) fu n0 g0 n2 g2) (Nat.le_trans (by decide) V) mmX13_accept miX13_accept q2666 (rc26 (Nat.le_trans (by decide) V)) g0 rfl rfl rfl (Nat.le_of_ble_eq_true rfl) ⟨Nat.le_of_ble_eq_true rfl, Nat.le_of_ble_eq_true rfl, Nat.le_of_ble_eq_true rfl, Nat.le_of_ble_eq_true rfl⟩ dX13_readFlag_2 (fun x9 μ8 => ?_)
  refine g_st (st' := [.int x9]) rfl ?_
  refine s_istore_n (L' := [(3, .int x9), (0, .ref (xa X 26 n0)), (1, .int p1), (2, .ref (xa X 51 n2))]) C dX13_readFlag_5 rfl (hN 3 (by decide)) rfl ?_
  refine s_aload_n C dX13_readFlag_6 rfl 1 rfl ?_
  refine s_getF C (fgX13_13_26 (Nat.le_trans (by decide) V)) g0 dX13_readFlag_7 ?_
  refine s_iload_n C dX13_readFlag_10 rfl 2 rfl ?_
  refine s_iload_n C dX13_readFlag_11 rfl 0 rfl ?_
  refine s_if_eq (tgt := 19) C dX13_readFlag_12 (by decide) (fun c10 => ?_) (fun c10 => ?_)
  ·
    refine s_aload_n C dX13_readFlag_19 rfl 1 rfl ?_
    refine s_getF C (fgX13_13_26 (Nat.le_trans (by decide) V)) g0 dX13_readFlag_20 ?_
    refine s_iload_n C dX13_readFlag_23 rfl 2 rfl ?_
    refine s_iald C (ag27 (Nat.le_trans (by decide) V)) (by decide) dX13_readFlag_24 ?_
    exact g_sub [0] rfl (hj25 μ8 x9 1 p1 (μ8.1 27 1 p1.toNatClampNeg) (by decide))
  ·
    refine s_iconst (v := (1 : Int32)) C dX13_readFlag_15 (by decide) ?_
    refine s_goto (tgt := 25) C dX13_readFlag_16 (by decide) ?_
    exact g_sub [0] rfl (hj25 μ8 x9 1 p1 (1 : Int32) (by decide))
/-! PinEnginesModel.readSetting(I)Z -/
def fX13_readSetting (fu : Nat) (n0 : Nat) (p1 : Int32) (μ : Mem) : Option (Int32 × Mem) :=
  jn (fun (μ1 : Mem) =>
    jn (fun (μ2 : Mem) (x3 : Int32) =>
      ckZ x3 (some (x3, μ2))
    ) fun j273 =>
    if ¬ (μ1.1 26 n0 26) = 0 then (
      j273 μ1 (0 : Int32)
    ) else (
      j273 μ1 (1 : Int32)
    )
  ) fun j261 =>
  bnd (fX13_accept fu n0 35 μ) fun x6 μ5 =>
  if x6 = 0 then (
    bnd (fX13_accept fu n0 36 μ5) fun x9 μ8 =>
    if x9 = 0 then (
      bnd (fX13_isWord fu n0 37 μ8) fun x12 μ11 =>
      if x12 = 0 then (
        bnd (fX13_isWord fu n0 38 μ11) fun x15 μ14 =>
        if x15 = 0 then (
          bnd (fX13_isWord fu n0 39 μ14) fun x18 μ17 =>
          if x18 = 0 then (
            bnd (fX13_accept fu n0 40 μ17) fun x21 μ20 =>
            if x21 = 0 then (
              bnd (fX13_accept fu n0 41 μ20) fun x24 μ23 =>
              if x24 = 0 then (
                bnd (fX13_isWord fu n0 44 μ23) fun x27 μ26 =>
                if x27 = 0 then (
                  bnd (fX13_isWord fu n0 45 μ26) fun x30 μ29 =>
                  if x30 = 0 then (
                    bnd (fX13_isWord fu n0 46 μ29) fun x33 μ32 =>
                    if x33 = 0 then (
                      bnd (fX13_isWord fu n0 47 μ32) fun x36 μ35 =>
                      if x36 = 0 then (
                        jn (fun (μ38 : Mem) (x39 : Int32) =>
                          ckZ x39 (some (x39, μ38))
                        ) fun j260 =>
                        jn (fun (μ40 : Mem) =>
                          j260 μ40 (1 : Int32)
                        ) fun j255 =>
                        bnd (fX13_readFlag fu n0 (p1 + (13 : Int32)) 42 μ35) fun x42 μ41 =>
                        if ¬ x42 = 0 then (
                          j255 μ41
                        ) else (
                          bnd (fX13_readFlag fu n0 (p1 + (14 : Int32)) 43 μ41) fun x45 μ44 =>
                          if x45 = 0 then (
                            j260 μ44 (0 : Int32)
                          ) else (
                            j255 μ44
                          )
                        )
                      ) else (
                        bnd (fX13_join fu n0 p1 (0 : Int32) μ35) fun _ μ47 =>
                        j261 μ47
                      )
                    ) else (
                      bnd (fX13_join fu n0 p1 (8 : Int32) μ32) fun _ μ48 =>
                      j261 μ48
                    )
                  ) else (
                    bnd (fX13_readLimit fu n0 (p1 + (17 : Int32)) μ29) fun _ μ49 =>
                    j261 μ49
                  )
                ) else (
                  bnd (fX13_readLimit fu n0 (p1 + (15 : Int32)) μ26) fun _ μ50 =>
                  j261 μ50
                )
              ) else (
                bnd (fX13_putNumber fu n0 (p1 + (12 : Int32)) (0 : Int32) (15 : Int32) μ23) fun _ μ51 =>
                j261 μ51
              )
            ) else (
              bnd (fX13_putNumber fu n0 (p1 + (11 : Int32)) (0 : Int32) (15 : Int32) μ20) fun _ μ52 =>
              j261 μ52
            )
          ) else (
            bnd (fX13_readGroup fu n0 (p1 + (9 : Int32)) (4 : Int32) μ17) fun _ μ53 =>
            j261 μ53
          )
        ) else (
          bnd (fX13_readGroup fu n0 (p1 + (7 : Int32)) (5 : Int32) μ14) fun _ μ54 =>
          j261 μ54
        )
      ) else (
        bnd (fX13_readGroup fu n0 (p1 + (5 : Int32)) (16 : Int32) μ11) fun _ μ55 =>
        j261 μ55
      )
    ) else (
      bnd (fX13_readName fu n0 (p1 + (3 : Int32)) μ8) fun _ μ56 =>
      bnd (fX13_readName fu n0 (p1 + (4 : Int32)) μ56) fun _ μ57 =>
      j261 μ57
    )
  ) else (
    bnd (fX13_readClock fu n0 p1 μ5) fun _ μ58 =>
    j261 μ58
  )
set_option maxHeartbeats 4000000 in
set_option maxRecDepth 100000 in
theorem kX13_readSetting (l : Launch) (fu : Nat) (n0 : Nat) (g0 : n0 < 1) (p1 : Int32) : Kon 1 l yX13_readSetting cX13_readSetting 2 (some .boolean) 8 171 0 0 (fun ad => [.ref (ad 26 n0), .int p1]) rvI (fun μ => fX13_readSetting fu n0 p1 μ) := by
  refine kon_of (by decide) (fun _ => Nat.le_of_ble_eq_true rfl) (fun X r0 μ hXl hXn V C E => ?_)
  have hN : ∀ i : Nat, i < 2 → i < xn X := fun i h => hXn.symm ▸ h
  have R0 := fen_rm E
  show G X r0 0 0 μ 0 [(0, .ref (xa X 26 n0)), (1, .int p1)] [] (fX13_readSetting fu n0 p1 μ)
  unfold fX13_readSetting
  refine g_jn (P := fun j261 => ∀ (μ1 : Mem), G X r0 0 0 μ1 261 [(0, .ref (xa X 26 n0))] [] (j261 μ1)) ?_ (fun j261 hj261 => ?_)
  · intro μ1
    refine g_jn (P := fun j273 => ∀ (μ2 : Mem) (x3 : Int32), G X r0 0 0 μ2 273 [] [.int x3] (j273 μ2 x3)) ?_ (fun j273 hj273 => ?_)
    · intro μ2 x3
      exact s_zret C E dX13_readSetting_273
    refine s_aload_n C dX13_readSetting_261 rfl 0 rfl ?_
    refine s_getI C (fgX13_490_26 (Nat.le_trans (by decide) V)) g0 dX13_readSetting_262 ?_
    refine s_if_ne (tgt := 272) C dX13_readSetting_265 (by decide) (fun c4 => ?_) (fun c4 => ?_)
    ·
      refine s_iconst (v := (0 : Int32)) C dX13_readSetting_272 (by decide) ?_
      exact g_sub [] rfl (hj273 μ1 (0 : Int32))
    ·
      refine s_iconst (v := (1 : Int32)) C dX13_readSetting_268 (by decide) ?_
      refine s_goto (tgt := 273) C dX13_readSetting_269 (by decide) ?_
      exact g_sub [] rfl (hj273 μ1 (1 : Int32))
  refine s_aload_n C dX13_readSetting_0 rfl 0 rfl ?_
  refine s_ldcs (i := 35) C (List.mem_of_getElem? (i := 35) rfl) dX13_readSetting_1 ?_
  refine s_callV C R0 (kX13_accept (xl X) fu n0 g0 35 (by decide)) (Nat.le_trans (by decide) V) mmX13_accept miX13_accept q2666 (rc26 (Nat.le_trans (by decide) V)) g0 rfl rfl rfl (Nat.le_of_ble_eq_true rfl) ⟨Nat.le_of_ble_eq_true rfl, Nat.le_of_ble_eq_true rfl, Nat.le_of_ble_eq_true rfl, Nat.le_of_ble_eq_true rfl⟩ dX13_readSetting_3 (fun x6 μ5 => ?_)
  refine g_st (st' := [.int x6]) rfl ?_
  refine s_if_eq (tgt := 17) C dX13_readSetting_6 (by decide) (fun c7 => ?_) (fun c7 => ?_)
  ·
    refine s_aload_n C dX13_readSetting_17 rfl 0 rfl ?_
    refine s_ldcs (i := 36) C (List.mem_of_getElem? (i := 36) rfl) dX13_readSetting_18 ?_
    refine s_callV C R0 (kX13_accept (xl X) fu n0 g0 36 (by decide)) (Nat.le_trans (by decide) V) mmX13_accept miX13_accept q2666 (rc26 (Nat.le_trans (by decide) V)) g0 rfl rfl rfl (Nat.le_of_ble_eq_true rfl) ⟨Nat.le_of_ble_eq_true rfl, Nat.le_of_ble_eq_true rfl, Nat.le_of_ble_eq_true rfl, Nat.le_of_ble_eq_true rfl⟩ dX13_readSetting_20 (fun x9 μ8 => ?_)
    refine g_st (st' := [.int x9]) rfl ?_
    refine s_if_eq (tgt := 43) C dX13_readSetting_23 (by decide) (fun c10 => ?_) (fun c10 => ?_)
    ·
      refine s_aload_n C dX13_readSetting_43 rfl 0 rfl ?_
      refine s_ldcs (i := 37) C (List.mem_of_getElem? (i := 37) rfl) dX13_readSetting_44 ?_
      refine s_callV C R0 (kX13_isWord (xl X) fu n0 g0 37 (by decide)) (Nat.le_trans (by decide) V) mmX13_isWord miX13_isWord q2670 (rc26 (Nat.le_trans (by decide) V)) g0 rfl rfl rfl (Nat.le_of_ble_eq_true rfl) ⟨Nat.le_of_ble_eq_true rfl, Nat.le_of_ble_eq_true rfl, Nat.le_of_ble_eq_true rfl, Nat.le_of_ble_eq_true rfl⟩ dX13_readSetting_46 (fun x12 μ11 => ?_)
      refine g_st (st' := [.int x12]) rfl ?_
      refine s_if_eq (tgt := 64) C dX13_readSetting_49 (by decide) (fun c13 => ?_) (fun c13 => ?_)
      ·
        refine s_aload_n C dX13_readSetting_64 rfl 0 rfl ?_
        refine s_ldcs (i := 38) C (List.mem_of_getElem? (i := 38) rfl) dX13_readSetting_65 ?_
        refine s_callV C R0 (kX13_isWord (xl X) fu n0 g0 38 (by decide)) (Nat.le_trans (by decide) V) mmX13_isWord miX13_isWord q2670 (rc26 (Nat.le_trans (by decide) V)) g0 rfl rfl rfl (Nat.le_of_ble_eq_true rfl) ⟨Nat.le_of_ble_eq_true rfl, Nat.le_of_ble_eq_true rfl, Nat.le_of_ble_eq_true rfl, Nat.le_of_ble_eq_true rfl⟩ dX13_readSetting_67 (fun x15 μ14 => ?_)
        refine g_st (st' := [.int x15]) rfl ?_
        refine s_if_eq (tgt := 85) C dX13_readSetting_70 (by decide) (fun c16 => ?_) (fun c16 => ?_)
        ·
          refine s_aload_n C dX13_readSetting_85 rfl 0 rfl ?_
          refine s_ldcs (i := 39) C (List.mem_of_getElem? (i := 39) rfl) dX13_readSetting_86 ?_
          refine s_callV C R0 (kX13_isWord (xl X) fu n0 g0 39 (by decide)) (Nat.le_trans (by decide) V) mmX13_isWord miX13_isWord q2670 (rc26 (Nat.le_trans (by decide) V)) g0 rfl rfl rfl (Nat.le_of_ble_eq_true rfl) ⟨Nat.le_of_ble_eq_true rfl, Nat.le_of_ble_eq_true rfl, Nat.le_of_ble_eq_true rfl, Nat.le_of_ble_eq_true rfl⟩ dX13_readSetting_88 (fun x18 μ17 => ?_)
          refine g_st (st' := [.int x18]) rfl ?_
          refine s_if_eq (tgt := 106) C dX13_readSetting_91 (by decide) (fun c19 => ?_) (fun c19 => ?_)
          ·
            refine s_aload_n C dX13_readSetting_106 rfl 0 rfl ?_
            refine s_ldcs (i := 40) C (List.mem_of_getElem? (i := 40) rfl) dX13_readSetting_107 ?_
            refine s_callV C R0 (kX13_accept (xl X) fu n0 g0 40 (by decide)) (Nat.le_trans (by decide) V) mmX13_accept miX13_accept q2666 (rc26 (Nat.le_trans (by decide) V)) g0 rfl rfl rfl (Nat.le_of_ble_eq_true rfl) ⟨Nat.le_of_ble_eq_true rfl, Nat.le_of_ble_eq_true rfl, Nat.le_of_ble_eq_true rfl, Nat.le_of_ble_eq_true rfl⟩ dX13_readSetting_109 (fun x21 μ20 => ?_)
            refine g_st (st' := [.int x21]) rfl ?_
            refine s_if_eq (tgt := 129) C dX13_readSetting_112 (by decide) (fun c22 => ?_) (fun c22 => ?_)
            ·
              refine s_aload_n C dX13_readSetting_129 rfl 0 rfl ?_
              refine s_ldcs (i := 41) C (List.mem_of_getElem? (i := 41) rfl) dX13_readSetting_130 ?_
              refine s_callV C R0 (kX13_accept (xl X) fu n0 g0 41 (by decide)) (Nat.le_trans (by decide) V) mmX13_accept miX13_accept q2666 (rc26 (Nat.le_trans (by decide) V)) g0 rfl rfl rfl (Nat.le_of_ble_eq_true rfl) ⟨Nat.le_of_ble_eq_true rfl, Nat.le_of_ble_eq_true rfl, Nat.le_of_ble_eq_true rfl, Nat.le_of_ble_eq_true rfl⟩ dX13_readSetting_132 (fun x24 μ23 => ?_)
              refine g_st (st' := [.int x24]) rfl ?_
              refine s_if_eq (tgt := 152) C dX13_readSetting_135 (by decide) (fun c25 => ?_) (fun c25 => ?_)
              ·
                refine s_aload_n C dX13_readSetting_152 rfl 0 rfl ?_
                refine s_ldcs (i := 44) C (List.mem_of_getElem? (i := 44) rfl) dX13_readSetting_153 ?_
                refine s_callV C R0 (kX13_isWord (xl X) fu n0 g0 44 (by decide)) (Nat.le_trans (by decide) V) mmX13_isWord miX13_isWord q2670 (rc26 (Nat.le_trans (by decide) V)) g0 rfl rfl rfl (Nat.le_of_ble_eq_true rfl) ⟨Nat.le_of_ble_eq_true rfl, Nat.le_of_ble_eq_true rfl, Nat.le_of_ble_eq_true rfl, Nat.le_of_ble_eq_true rfl⟩ dX13_readSetting_155 (fun x27 μ26 => ?_)
                refine g_st (st' := [.int x27]) rfl ?_
                refine s_if_eq (tgt := 172) C dX13_readSetting_158 (by decide) (fun c28 => ?_) (fun c28 => ?_)
                ·
                  refine s_aload_n C dX13_readSetting_172 rfl 0 rfl ?_
                  refine s_ldcs (i := 45) C (List.mem_of_getElem? (i := 45) rfl) dX13_readSetting_173 ?_
                  refine s_callV C R0 (kX13_isWord (xl X) fu n0 g0 45 (by decide)) (Nat.le_trans (by decide) V) mmX13_isWord miX13_isWord q2670 (rc26 (Nat.le_trans (by decide) V)) g0 rfl rfl rfl (Nat.le_of_ble_eq_true rfl) ⟨Nat.le_of_ble_eq_true rfl, Nat.le_of_ble_eq_true rfl, Nat.le_of_ble_eq_true rfl, Nat.le_of_ble_eq_true rfl⟩ dX13_readSetting_175 (fun x30 μ29 => ?_)
                  refine g_st (st' := [.int x30]) rfl ?_
                  refine s_if_eq (tgt := 192) C dX13_readSetting_178 (by decide) (fun c31 => ?_) (fun c31 => ?_)
                  ·
                    refine s_aload_n C dX13_readSetting_192 rfl 0 rfl ?_
                    refine s_ldcs (i := 46) C (List.mem_of_getElem? (i := 46) rfl) dX13_readSetting_193 ?_
                    refine s_callV C R0 (kX13_isWord (xl X) fu n0 g0 46 (by decide)) (Nat.le_trans (by decide) V) mmX13_isWord miX13_isWord q2670 (rc26 (Nat.le_trans (by decide) V)) g0 rfl rfl rfl (Nat.le_of_ble_eq_true rfl) ⟨Nat.le_of_ble_eq_true rfl, Nat.le_of_ble_eq_true rfl, Nat.le_of_ble_eq_true rfl, Nat.le_of_ble_eq_true rfl⟩ dX13_readSetting_195 (fun x33 μ32 => ?_)
                    refine g_st (st' := [.int x33]) rfl ?_
                    refine s_if_eq (tgt := 211) C dX13_readSetting_198 (by decide) (fun c34 => ?_) (fun c34 => ?_)
                    ·
                      refine s_aload_n C dX13_readSetting_211 rfl 0 rfl ?_
                      refine s_ldcs (i := 47) C (List.mem_of_getElem? (i := 47) rfl) dX13_readSetting_212 ?_
                      refine s_callV C R0 (kX13_isWord (xl X) fu n0 g0 47 (by decide)) (Nat.le_trans (by decide) V) mmX13_isWord miX13_isWord q2670 (rc26 (Nat.le_trans (by decide) V)) g0 rfl rfl rfl (Nat.le_of_ble_eq_true rfl) ⟨Nat.le_of_ble_eq_true rfl, Nat.le_of_ble_eq_true rfl, Nat.le_of_ble_eq_true rfl, Nat.le_of_ble_eq_true rfl⟩ dX13_readSetting_214 (fun x36 μ35 => ?_)
                      refine g_st (st' := [.int x36]) rfl ?_
                      refine s_if_eq (tgt := 229) C dX13_readSetting_217 (by decide) (fun c37 => ?_) (fun c37 => ?_)
                      ·
                        refine g_jn (P := fun j260 => ∀ (μ38 : Mem) (x39 : Int32), G X r0 0 0 μ38 260 [] [.int x39] (j260 μ38 x39)) ?_ (fun j260 hj260 => ?_)
                        · intro μ38 x39
                          exact s_zret C E dX13_readSetting_260
                        refine g_jn (P := fun j255 => ∀ (μ40 : Mem), G X r0 0 0 μ40 255 [] [] (j255 μ40)) ?_ (fun j255 hj255 => ?_)
                        · intro μ40
                          refine s_iconst (v := (1 : Int32)) C dX13_readSetting_255 (by decide) ?_
                          refine s_goto (tgt := 260) C dX13_readSetting_256 (by decide) ?_
                          exact g_sub [] rfl (hj260 μ40 (1 : Int32))
                        refine s_aload_n C dX13_readSetting_229 rfl 0 rfl ?_
                        refine s_iload_n C dX13_readSetting_230 rfl 1 rfl ?_
                        refine s_bipush (v := (13 : Int32)) C dX13_readSetting_231 (by decide) ?_
                        refine s_iadd C dX13_readSetting_233 ?_
                        refine s_ldcs (i := 42) C (List.mem_of_getElem? (i := 42) rfl) dX13_readSetting_234 ?_
                        refine s_callV C R0 (kX13_readFlag (xl X) fu n0 g0 (p1 + (13 : Int32)) 42 (by decide)) (Nat.le_trans (by decide) V) mmX13_readFlag miX13_readFlag q2740 (rc26 (Nat.le_trans (by decide) V)) g0 rfl rfl rfl (Nat.le_of_ble_eq_true rfl) ⟨Nat.le_of_ble_eq_true rfl, Nat.le_of_ble_eq_true rfl, Nat.le_of_ble_eq_true rfl, Nat.le_of_ble_eq_true rfl⟩ dX13_readSetting_236 (fun x42 μ41 => ?_)
                        refine g_st (st' := [.int x42]) rfl ?_
                        refine s_if_ne (tgt := 255) C dX13_readSetting_239 (by decide) (fun c43 => ?_) (fun c43 => ?_)
                        ·
                          exact g_sub [] rfl (hj255 μ41)
                        ·
                          refine s_aload_n C dX13_readSetting_242 rfl 0 rfl ?_
                          refine s_iload_n C dX13_readSetting_243 rfl 1 rfl ?_
                          refine s_bipush (v := (14 : Int32)) C dX13_readSetting_244 (by decide) ?_
                          refine s_iadd C dX13_readSetting_246 ?_
                          refine s_ldcs (i := 43) C (List.mem_of_getElem? (i := 43) rfl) dX13_readSetting_247 ?_
                          refine s_callV C R0 (kX13_readFlag (xl X) fu n0 g0 (p1 + (14 : Int32)) 43 (by decide)) (Nat.le_trans (by decide) V) mmX13_readFlag miX13_readFlag q2740 (rc26 (Nat.le_trans (by decide) V)) g0 rfl rfl rfl (Nat.le_of_ble_eq_true rfl) ⟨Nat.le_of_ble_eq_true rfl, Nat.le_of_ble_eq_true rfl, Nat.le_of_ble_eq_true rfl, Nat.le_of_ble_eq_true rfl⟩ dX13_readSetting_249 (fun x45 μ44 => ?_)
                          refine g_st (st' := [.int x45]) rfl ?_
                          refine s_if_eq (tgt := 259) C dX13_readSetting_252 (by decide) (fun c46 => ?_) (fun c46 => ?_)
                          ·
                            refine s_iconst (v := (0 : Int32)) C dX13_readSetting_259 (by decide) ?_
                            exact g_sub [] rfl (hj260 μ44 (0 : Int32))
                          ·
                            exact g_sub [] rfl (hj255 μ44)
                      ·
                        refine s_aload_n C dX13_readSetting_220 rfl 0 rfl ?_
                        refine s_iload_n C dX13_readSetting_221 rfl 1 rfl ?_
                        refine s_iconst (v := (0 : Int32)) C dX13_readSetting_222 (by decide) ?_
                        refine s_callV C R0 (kX13_join (xl X) fu n0 g0 p1 (0 : Int32)) (Nat.le_trans (by decide) V) mmX13_join miX13_join q2736 (rc26 (Nat.le_trans (by decide) V)) g0 rfl rfl rfl (Nat.le_of_ble_eq_true rfl) ⟨Nat.le_of_ble_eq_true rfl, Nat.le_of_ble_eq_true rfl, Nat.le_of_ble_eq_true rfl, Nat.le_of_ble_eq_true rfl⟩ dX13_readSetting_223 (fun _ μ47 => ?_)
                        refine g_st (st' := []) rfl ?_
                        refine s_goto (tgt := 261) C dX13_readSetting_226 (by decide) ?_
                        exact g_sub [0] rfl (hj261 μ47)
                    ·
                      refine s_aload_n C dX13_readSetting_201 rfl 0 rfl ?_
                      refine s_iload_n C dX13_readSetting_202 rfl 1 rfl ?_
                      refine s_bipush (v := (8 : Int32)) C dX13_readSetting_203 (by decide) ?_
                      refine s_callV C R0 (kX13_join (xl X) fu n0 g0 p1 (8 : Int32)) (Nat.le_trans (by decide) V) mmX13_join miX13_join q2736 (rc26 (Nat.le_trans (by decide) V)) g0 rfl rfl rfl (Nat.le_of_ble_eq_true rfl) ⟨Nat.le_of_ble_eq_true rfl, Nat.le_of_ble_eq_true rfl, Nat.le_of_ble_eq_true rfl, Nat.le_of_ble_eq_true rfl⟩ dX13_readSetting_205 (fun _ μ48 => ?_)
                      refine g_st (st' := []) rfl ?_
                      refine s_goto (tgt := 261) C dX13_readSetting_208 (by decide) ?_
                      exact g_sub [0] rfl (hj261 μ48)
                  ·
                    refine s_aload_n C dX13_readSetting_181 rfl 0 rfl ?_
                    refine s_iload_n C dX13_readSetting_182 rfl 1 rfl ?_
                    refine s_bipush (v := (17 : Int32)) C dX13_readSetting_183 (by decide) ?_
                    refine s_iadd C dX13_readSetting_185 ?_
                    refine s_callV C R0 (kX13_readLimit (xl X) fu n0 g0 (p1 + (17 : Int32))) (Nat.le_trans (by decide) V) mmX13_readLimit miX13_readLimit q2732 (rc26 (Nat.le_trans (by decide) V)) g0 rfl rfl rfl (Nat.le_of_ble_eq_true rfl) ⟨Nat.le_of_ble_eq_true rfl, Nat.le_of_ble_eq_true rfl, Nat.le_of_ble_eq_true rfl, Nat.le_of_ble_eq_true rfl⟩ dX13_readSetting_186 (fun _ μ49 => ?_)
                    refine g_st (st' := []) rfl ?_
                    refine s_goto (tgt := 261) C dX13_readSetting_189 (by decide) ?_
                    exact g_sub [0] rfl (hj261 μ49)
                ·
                  refine s_aload_n C dX13_readSetting_161 rfl 0 rfl ?_
                  refine s_iload_n C dX13_readSetting_162 rfl 1 rfl ?_
                  refine s_bipush (v := (15 : Int32)) C dX13_readSetting_163 (by decide) ?_
                  refine s_iadd C dX13_readSetting_165 ?_
                  refine s_callV C R0 (kX13_readLimit (xl X) fu n0 g0 (p1 + (15 : Int32))) (Nat.le_trans (by decide) V) mmX13_readLimit miX13_readLimit q2732 (rc26 (Nat.le_trans (by decide) V)) g0 rfl rfl rfl (Nat.le_of_ble_eq_true rfl) ⟨Nat.le_of_ble_eq_true rfl, Nat.le_of_ble_eq_true rfl, Nat.le_of_ble_eq_true rfl, Nat.le_of_ble_eq_true rfl⟩ dX13_readSetting_166 (fun _ μ50 => ?_)
                  refine g_st (st' := []) rfl ?_
                  refine s_goto (tgt := 261) C dX13_readSetting_169 (by decide) ?_
                  exact g_sub [0] rfl (hj261 μ50)
              ·
                refine s_aload_n C dX13_readSetting_138 rfl 0 rfl ?_
                refine s_iload_n C dX13_readSetting_139 rfl 1 rfl ?_
                refine s_bipush (v := (12 : Int32)) C dX13_readSetting_140 (by decide) ?_
                refine s_iadd C dX13_readSetting_142 ?_
                refine s_iconst (v := (0 : Int32)) C dX13_readSetting_143 (by decide) ?_
                refine s_bipush (v := (15 : Int32)) C dX13_readSetting_144 (by decide) ?_
                refine s_callV C R0 (kX13_putNumber (xl X) fu n0 g0 (p1 + (12 : Int32)) (0 : Int32) (15 : Int32)) (Nat.le_trans (by decide) V) mmX13_putNumber miX13_putNumber q2728 (rc26 (Nat.le_trans (by decide) V)) g0 rfl rfl rfl (Nat.le_of_ble_eq_true rfl) ⟨Nat.le_of_ble_eq_true rfl, Nat.le_of_ble_eq_true rfl, Nat.le_of_ble_eq_true rfl, Nat.le_of_ble_eq_true rfl⟩ dX13_readSetting_146 (fun _ μ51 => ?_)
                refine g_st (st' := []) rfl ?_
                refine s_goto (tgt := 261) C dX13_readSetting_149 (by decide) ?_
                exact g_sub [0] rfl (hj261 μ51)
            ·
              refine s_aload_n C dX13_readSetting_115 rfl 0 rfl ?_
              refine s_iload_n C dX13_readSetting_116 rfl 1 rfl ?_
              refine s_bipush (v := (11 : Int32)) C dX13_readSetting_117 (by decide) ?_
              refine s_iadd C dX13_readSetting_119 ?_
              refine s_iconst (v := (0 : Int32)) C dX13_readSetting_120 (by decide) ?_
              refine s_bipush (v := (15 : Int32)) C dX13_readSetting_121 (by decide) ?_
              refine s_callV C R0 (kX13_putNumber (xl X) fu n0 g0 (p1 + (11 : Int32)) (0 : Int32) (15 : Int32)) (Nat.le_trans (by decide) V) mmX13_putNumber miX13_putNumber q2728 (rc26 (Nat.le_trans (by decide) V)) g0 rfl rfl rfl (Nat.le_of_ble_eq_true rfl) ⟨Nat.le_of_ble_eq_true rfl, Nat.le_of_ble_eq_true rfl, Nat.le_of_ble_eq_true rfl, Nat.le_of_ble_eq_true rfl⟩ dX13_readSetting_123 (fun _ μ52 => ?_)
              refine g_st (st' := []) rfl ?_
              refine s_goto (tgt := 261) C dX13_readSetting_126 (by decide) ?_
              exact g_sub [0] rfl (hj261 μ52)
          ·
            refine s_aload_n C dX13_readSetting_94 rfl 0 rfl ?_
            refine s_iload_n C dX13_readSetting_95 rfl 1 rfl ?_
            refine s_bipush (v := (9 : Int32)) C dX13_readSetting_96 (by decide) ?_
            refine s_iadd C dX13_readSetting_98 ?_
            refine s_iconst (v := (4 : Int32)) C dX13_readSetting_99 (by decide) ?_
            refine s_callV C R0 (kX13_readGroup (xl X) fu n0 g0 (p1 + (9 : Int32)) (4 : Int32)) (Nat.le_trans (by decide) V) mmX13_readGroup miX13_readGroup q2724 (rc26 (Nat.le_trans (by decide) V)) g0 rfl rfl rfl (Nat.le_of_ble_eq_true rfl) ⟨Nat.le_of_ble_eq_true rfl, Nat.le_of_ble_eq_true rfl, Nat.le_of_ble_eq_true rfl, Nat.le_of_ble_eq_true rfl⟩ dX13_readSetting_100 (fun _ μ53 => ?_)
            refine g_st (st' := []) rfl ?_
            refine s_goto (tgt := 261) C dX13_readSetting_103 (by decide) ?_
            exact g_sub [0] rfl (hj261 μ53)
        ·
          refine s_aload_n C dX13_readSetting_73 rfl 0 rfl ?_
          refine s_iload_n C dX13_readSetting_74 rfl 1 rfl ?_
          refine s_bipush (v := (7 : Int32)) C dX13_readSetting_75 (by decide) ?_
          refine s_iadd C dX13_readSetting_77 ?_
          refine s_iconst (v := (5 : Int32)) C dX13_readSetting_78 (by decide) ?_
          refine s_callV C R0 (kX13_readGroup (xl X) fu n0 g0 (p1 + (7 : Int32)) (5 : Int32)) (Nat.le_trans (by decide) V) mmX13_readGroup miX13_readGroup q2724 (rc26 (Nat.le_trans (by decide) V)) g0 rfl rfl rfl (Nat.le_of_ble_eq_true rfl) ⟨Nat.le_of_ble_eq_true rfl, Nat.le_of_ble_eq_true rfl, Nat.le_of_ble_eq_true rfl, Nat.le_of_ble_eq_true rfl⟩ dX13_readSetting_79 (fun _ μ54 => ?_)
          refine g_st (st' := []) rfl ?_
          refine s_goto (tgt := 261) C dX13_readSetting_82 (by decide) ?_
          exact g_sub [0] rfl (hj261 μ54)
      ·
        refine s_aload_n C dX13_readSetting_52 rfl 0 rfl ?_
        refine s_iload_n C dX13_readSetting_53 rfl 1 rfl ?_
        refine s_iconst (v := (5 : Int32)) C dX13_readSetting_54 (by decide) ?_
        refine s_iadd C dX13_readSetting_55 ?_
        refine s_bipush (v := (16 : Int32)) C dX13_readSetting_56 (by decide) ?_
        refine s_callV C R0 (kX13_readGroup (xl X) fu n0 g0 (p1 + (5 : Int32)) (16 : Int32)) (Nat.le_trans (by decide) V) mmX13_readGroup miX13_readGroup q2724 (rc26 (Nat.le_trans (by decide) V)) g0 rfl rfl rfl (Nat.le_of_ble_eq_true rfl) ⟨Nat.le_of_ble_eq_true rfl, Nat.le_of_ble_eq_true rfl, Nat.le_of_ble_eq_true rfl, Nat.le_of_ble_eq_true rfl⟩ dX13_readSetting_58 (fun _ μ55 => ?_)
        refine g_st (st' := []) rfl ?_
        refine s_goto (tgt := 261) C dX13_readSetting_61 (by decide) ?_
        exact g_sub [0] rfl (hj261 μ55)
    ·
      refine s_aload_n C dX13_readSetting_26 rfl 0 rfl ?_
      refine s_iload_n C dX13_readSetting_27 rfl 1 rfl ?_
      refine s_iconst (v := (3 : Int32)) C dX13_readSetting_28 (by decide) ?_
      refine s_iadd C dX13_readSetting_29 ?_
      refine s_callV C R0 (kX13_readName (xl X) fu n0 g0 (p1 + (3 : Int32))) (Nat.le_trans (by decide) V) mmX13_readName miX13_readName q2700 (rc26 (Nat.le_trans (by decide) V)) g0 rfl rfl rfl (Nat.le_of_ble_eq_true rfl) ⟨Nat.le_of_ble_eq_true rfl, Nat.le_of_ble_eq_true rfl, Nat.le_of_ble_eq_true rfl, Nat.le_of_ble_eq_true rfl⟩ dX13_readSetting_30 (fun _ μ56 => ?_)
      refine g_st (st' := []) rfl ?_
      refine s_aload_n C dX13_readSetting_33 rfl 0 rfl ?_
      refine s_iload_n C dX13_readSetting_34 rfl 1 rfl ?_
      refine s_iconst (v := (4 : Int32)) C dX13_readSetting_35 (by decide) ?_
      refine s_iadd C dX13_readSetting_36 ?_
      refine s_callV C R0 (kX13_readName (xl X) fu n0 g0 (p1 + (4 : Int32))) (Nat.le_trans (by decide) V) mmX13_readName miX13_readName q2700 (rc26 (Nat.le_trans (by decide) V)) g0 rfl rfl rfl (Nat.le_of_ble_eq_true rfl) ⟨Nat.le_of_ble_eq_true rfl, Nat.le_of_ble_eq_true rfl, Nat.le_of_ble_eq_true rfl, Nat.le_of_ble_eq_true rfl⟩ dX13_readSetting_37 (fun _ μ57 => ?_)
      refine g_st (st' := []) rfl ?_
      refine s_goto (tgt := 261) C dX13_readSetting_40 (by decide) ?_
      exact g_sub [0] rfl (hj261 μ57)
  ·
    refine s_aload_n C dX13_readSetting_9 rfl 0 rfl ?_
    refine s_iload_n C dX13_readSetting_10 rfl 1 rfl ?_
    refine s_callV C R0 (kX13_readClock (xl X) fu n0 g0 p1) (Nat.le_trans (by decide) V) mmX13_readClock miX13_readClock q2716 (rc26 (Nat.le_trans (by decide) V)) g0 rfl rfl rfl (Nat.le_of_ble_eq_true rfl) ⟨Nat.le_of_ble_eq_true rfl, Nat.le_of_ble_eq_true rfl, Nat.le_of_ble_eq_true rfl, Nat.le_of_ble_eq_true rfl⟩ dX13_readSetting_11 (fun _ μ58 => ?_)
    refine g_st (st' := []) rfl ?_
    refine s_goto (tgt := 261) C dX13_readSetting_14 (by decide) ?_
    exact g_sub [0] rfl (hj261 μ58)
/-! PinEnginesModel.readEngine()V -/
def fX13_readEngine (fu : Nat) (n0 : Nat) (μ : Mem) : Option (Unit × Mem) :=
  jn (fun (μ1 : Mem) (a2 : Nat) (x4 : Int32) =>
    jn (fun (μ5 : Mem) (a6 : Nat) (x8 : Int32) =>
      jn (fun (μ9 : Mem) (x10 : Int32) (x11 : Int32) (x12 : Int32) =>
        jn (fun (μ13 : Mem) (x14 : Int32) (a15 : Nat) (x17 : Int32) =>
          bnd (fX13_check a15 x17 (4 : Int32) μ13) fun _ μ18 =>
          bnd (fX13_advance fu n0 μ18) fun _ μ19 =>
          if (μ19.1 26 n0 26) = 0 then (
            jn (lp (fun _ => none) fu (fun j201 (μ21 : Mem) =>
              bnd (fX13_readSetting fu n0 x14 μ21) fun x23 μ22 =>
              if x23 = 0 then (
                some ((), μ22)
              ) else (
                ckI (x14 + (0 : Int32)) (if 1 = 4 then 7000 else 700) <|
                nm (wI μ22 27 1 (x14 + (0 : Int32)).toNatClampNeg (1 : Int32)) fun μ25 =>
                j201 μ25
              )
            )) fun j201 =>
            ckI (x14 + (0 : Int32)) (if 1 = 4 then 7000 else 700) <|
            nm (wI μ19 27 1 (x14 + (0 : Int32)).toNatClampNeg (1 : Int32)) fun μ26 =>
            ckI (x14 + (2 : Int32)) (if 1 = 4 then 7000 else 700) <|
            nm (wI μ26 27 1 (x14 + (2 : Int32)).toNatClampNeg (256 : Int32)) fun μ27 =>
            ckI (x14 + (4 : Int32)) (if 1 = 4 then 7000 else 700) <|
            nm (wI μ27 27 1 (x14 + (4 : Int32)).toNatClampNeg (-1 : Int32)) fun μ28 =>
            ckI (x14 + (15 : Int32)) (if 1 = 4 then 7000 else 700) <|
            nm (wI μ28 27 1 (x14 + (15 : Int32)).toNatClampNeg (32 : Int32)) fun μ29 =>
            ckI (x14 + (17 : Int32)) (if 1 = 4 then 7000 else 700) <|
            nm (wI μ29 27 1 (x14 + (17 : Int32)).toNatClampNeg (32 : Int32)) fun μ30 =>
            ckI (x14 + (19 : Int32)) (if 1 = 4 then 7000 else 700) <|
            nm (wI μ30 27 1 (x14 + (19 : Int32)).toNatClampNeg (4 : Int32)) fun μ31 =>
            ckI (x14 + (20 : Int32)) (if 1 = 4 then 7000 else 700) <|
            nm (wI μ31 27 1 (x14 + (20 : Int32)).toNatClampNeg (4 : Int32)) fun μ32 =>
            bnd (fX13_expectWord fu n0 31 μ32) fun _ μ33 =>
            bnd (fX13_readName fu n0 (x14 + (1 : Int32)) μ33) fun _ μ34 =>
            j201 μ34
          ) else (
            some ((), μ19)
          )
        ) fun j101 =>
        jn (fun (μ35 : Mem) (x36 : Int32) (a37 : Nat) =>
          j101 μ35 x36 a37 (1 : Int32)
        ) fun j96 =>
        nm ((x10 + (x11 * x12))) fun x39 =>
        if ¬ (μ9.1 26 n0 26) = 0 then (
          j96 μ9 x39 n0
        ) else (
          ckI (x39 + (0 : Int32)) (if 1 = 4 then 7000 else 700) <|
          if ¬ (μ9.1 27 1 (x39 + (0 : Int32)).toNatClampNeg) = 0 then (
            j101 μ9 x39 n0 (0 : Int32)
          ) else (
            j96 μ9 x39 n0
          )
        )
      ) fun j74 =>
      bnd (fX13_check a6 x8 (2 : Int32) μ5) fun _ μ42 =>
      if ¬ (μ42.1 26 n0 26) = 0 then (
        j74 μ42 (476 : Int32) (21 : Int32) (0 : Int32)
      ) else (
        bnd (fX13_value fu n0 μ42) fun x45 μ44 =>
        j74 μ44 (476 : Int32) (21 : Int32) x45
      )
    ) fun j50 =>
    jn (fun (μ46 : Mem) (a47 : Nat) =>
      j50 μ46 a47 (1 : Int32)
    ) fun j45 =>
    bnd (fX13_check a2 x4 (1 : Int32) μ1) fun _ μ49 =>
    if ¬ (μ49.1 26 n0 26) = 0 then (
      j45 μ49 n0
    ) else (
      bnd (fX13_value fu n0 μ49) fun x52 μ51 =>
      bnd (fX13_inRange x52 (0 : Int32) (3 : Int32) μ51) fun x54 μ53 =>
      if x54 = 0 then (
        j50 μ53 n0 (0 : Int32)
      ) else (
        j45 μ53 n0
      )
    )
  ) fun j21 =>
  jn (fun (μ56 : Mem) (a57 : Nat) =>
    j21 μ56 a57 (1 : Int32)
  ) fun j16 =>
  if ¬ (μ.1 26 n0 26) = 0 then (
    j16 μ n0
  ) else (
    if ¬ (μ.1 26 n0 25) = (2 : Int32) then (
      j21 μ n0 (0 : Int32)
    ) else (
      j16 μ n0
    )
  )
set_option maxHeartbeats 4000000 in
set_option maxRecDepth 100000 in
theorem kX13_readEngine (l : Launch) (fu : Nat) (n0 : Nat) (g0 : n0 < 1) : Kon 1 l yX13_readEngine cX13_readEngine 2 (none) 9 192 0 0 (fun ad => [.ref (ad 26 n0)]) rvV (fun μ => fX13_readEngine fu n0 μ) := by
  refine kon_of (by decide) (fun _ => Nat.le_of_ble_eq_true rfl) (fun X r0 μ hXl hXn V C E => ?_)
  have hN : ∀ i : Nat, i < 2 → i < xn X := fun i h => hXn.symm ▸ h
  have R0 := fen_rm E
  show G X r0 0 0 μ 0 [(0, .ref (xa X 26 n0))] [] (fX13_readEngine fu n0 μ)
  unfold fX13_readEngine
  refine g_jn (P := fun j21 => ∀ (μ1 : Mem) (a2 : Nat) (x4 : Int32), a2 < 1 → G X r0 0 0 μ1 21 [(0, .ref (xa X 26 n0))] [.int x4, .ref (xa X 26 a2)] (j21 μ1 a2 x4)) ?_ (fun j21 hj21 => ?_)
  · intro μ1 a2 x4 b3
    refine g_jn (P := fun j50 => ∀ (μ5 : Mem) (a6 : Nat) (x8 : Int32), a6 < 1 → G X r0 0 0 μ5 50 [(0, .ref (xa X 26 n0))] [.int x8, .ref (xa X 26 a6)] (j50 μ5 a6 x8)) ?_ (fun j50 hj50 => ?_)
    · intro μ5 a6 x8 b7
      refine g_jn (P := fun j74 => ∀ (μ9 : Mem) (x10 : Int32) (x11 : Int32) (x12 : Int32), G X r0 0 0 μ9 74 [(0, .ref (xa X 26 n0))] [.int x12, .int x11, .int x10] (j74 μ9 x10 x11 x12)) ?_ (fun j74 hj74 => ?_)
      · intro μ9 x10 x11 x12
        refine g_jn (P := fun j101 => ∀ (μ13 : Mem) (x14 : Int32) (a15 : Nat) (x17 : Int32), a15 < 1 → G X r0 0 0 μ13 101 [(0, .ref (xa X 26 n0)), (1, .int x14)] [.int x17, .ref (xa X 26 a15)] (j101 μ13 x14 a15 x17)) ?_ (fun j101 hj101 => ?_)
        · intro μ13 x14 a15 x17 b16
          refine s_iconst (v := (4 : Int32)) C dX13_readEngine_101 (by decide) ?_
          refine s_callV C R0 (kX13_check (xl X) a15 b16 x17 (4 : Int32)) (Nat.le_trans (by decide) V) mmX13_check miX13_check q2680 (rc26 (Nat.le_trans (by decide) V)) b16 rfl rfl rfl (Nat.le_of_ble_eq_true rfl) ⟨Nat.le_of_ble_eq_true rfl, Nat.le_of_ble_eq_true rfl, Nat.le_of_ble_eq_true rfl, Nat.le_of_ble_eq_true rfl⟩ dX13_readEngine_102 (fun _ μ18 => ?_)
          refine g_st (st' := []) rfl ?_
          refine s_aload_n C dX13_readEngine_105 rfl 0 rfl ?_
          refine s_callV C R0 (kX13_advance (xl X) fu n0 g0) (Nat.le_trans (by decide) V) mmX13_advance miX13_advance q2692 (rc26 (Nat.le_trans (by decide) V)) g0 rfl rfl rfl (Nat.le_of_ble_eq_true rfl) ⟨Nat.le_of_ble_eq_true rfl, Nat.le_of_ble_eq_true rfl, Nat.le_of_ble_eq_true rfl, Nat.le_of_ble_eq_true rfl⟩ dX13_readEngine_106 (fun _ μ19 => ?_)
          refine g_st (st' := []) rfl ?_
          refine s_aload_n C dX13_readEngine_109 rfl 0 rfl ?_
          refine s_getI C (fgX13_490_26 (Nat.le_trans (by decide) V)) g0 dX13_readEngine_110 ?_
          refine s_if_eq (tgt := 117) C dX13_readEngine_113 (by decide) (fun c20 => ?_) (fun c20 => ?_)
          ·
            refine g_jl (P := fun j201 => ∀ (μ21 : Mem), G X r0 0 0 μ21 201 [(0, .ref (xa X 26 n0)), (1, .int x14)] [] (j201 μ21)) (fun _ => g_none) (fun j201 hj201 => ?_) (fun j201 hj201 => ?_)
            · intro μ21
              refine s_aload_n C dX13_readEngine_201 rfl 0 rfl ?_
              refine s_iload_n C dX13_readEngine_202 rfl 1 rfl ?_
              refine s_callV C R0 (kX13_readSetting (xl X) fu n0 g0 x14) (Nat.le_trans (by decide) V) mmX13_readSetting miX13_readSetting q2712 (rc26 (Nat.le_trans (by decide) V)) g0 rfl rfl rfl (Nat.le_of_ble_eq_true rfl) ⟨Nat.le_of_ble_eq_true rfl, Nat.le_of_ble_eq_true rfl, Nat.le_of_ble_eq_true rfl, Nat.le_of_ble_eq_true rfl⟩ dX13_readEngine_203 (fun x23 μ22 => ?_)
              refine g_st (st' := [.int x23]) rfl ?_
              refine s_if_eq (tgt := 221) C dX13_readEngine_206 (by decide) (fun c24 => ?_) (fun c24 => ?_)
              ·
                exact s_vret C E dX13_readEngine_221
              ·
                refine s_aload_n C dX13_readEngine_209 rfl 0 rfl ?_
                refine s_getF C (fgX13_13_26 (Nat.le_trans (by decide) V)) g0 dX13_readEngine_210 ?_
                refine s_iload_n C dX13_readEngine_213 rfl 1 rfl ?_
                refine s_iconst (v := (0 : Int32)) C dX13_readEngine_214 (by decide) ?_
                refine s_iadd C dX13_readEngine_215 ?_
                refine s_iconst (v := (1 : Int32)) C dX13_readEngine_216 (by decide) ?_
                refine s_iast C (ag27 (Nat.le_trans (by decide) V)) (by decide) dX13_readEngine_217 ?_
                refine g_nmM (fun μ25 => ?_)
                refine s_goto (tgt := 201) C dX13_readEngine_218 (by decide) ?_
                exact g_sub [0, 1] rfl (hj201 μ25)
            refine s_aload_n C dX13_readEngine_117 rfl 0 rfl ?_
            refine s_getF C (fgX13_13_26 (Nat.le_trans (by decide) V)) g0 dX13_readEngine_118 ?_
            refine s_iload_n C dX13_readEngine_121 rfl 1 rfl ?_
            refine s_iconst (v := (0 : Int32)) C dX13_readEngine_122 (by decide) ?_
            refine s_iadd C dX13_readEngine_123 ?_
            refine s_iconst (v := (1 : Int32)) C dX13_readEngine_124 (by decide) ?_
            refine s_iast C (ag27 (Nat.le_trans (by decide) V)) (by decide) dX13_readEngine_125 ?_
            refine g_nmM (fun μ26 => ?_)
            refine s_aload_n C dX13_readEngine_126 rfl 0 rfl ?_
            refine s_getF C (fgX13_13_26 (Nat.le_trans (by decide) V)) g0 dX13_readEngine_127 ?_
            refine s_iload_n C dX13_readEngine_130 rfl 1 rfl ?_
            refine s_iconst (v := (2 : Int32)) C dX13_readEngine_131 (by decide) ?_
            refine s_iadd C dX13_readEngine_132 ?_
            refine s_sipush (v := (256 : Int32)) C dX13_readEngine_133 (by decide) ?_
            refine s_iast C (ag27 (Nat.le_trans (by decide) V)) (by decide) dX13_readEngine_136 ?_
            refine g_nmM (fun μ27 => ?_)
            refine s_aload_n C dX13_readEngine_137 rfl 0 rfl ?_
            refine s_getF C (fgX13_13_26 (Nat.le_trans (by decide) V)) g0 dX13_readEngine_138 ?_
            refine s_iload_n C dX13_readEngine_141 rfl 1 rfl ?_
            refine s_iconst (v := (4 : Int32)) C dX13_readEngine_142 (by decide) ?_
            refine s_iadd C dX13_readEngine_143 ?_
            refine s_iconst (v := (-1 : Int32)) C dX13_readEngine_144 (by decide) ?_
            refine s_iast C (ag27 (Nat.le_trans (by decide) V)) (by decide) dX13_readEngine_145 ?_
            refine g_nmM (fun μ28 => ?_)
            refine s_aload_n C dX13_readEngine_146 rfl 0 rfl ?_
            refine s_getF C (fgX13_13_26 (Nat.le_trans (by decide) V)) g0 dX13_readEngine_147 ?_
            refine s_iload_n C dX13_readEngine_150 rfl 1 rfl ?_
            refine s_bipush (v := (15 : Int32)) C dX13_readEngine_151 (by decide) ?_
            refine s_iadd C dX13_readEngine_153 ?_
            refine s_bipush (v := (32 : Int32)) C dX13_readEngine_154 (by decide) ?_
            refine s_iast C (ag27 (Nat.le_trans (by decide) V)) (by decide) dX13_readEngine_156 ?_
            refine g_nmM (fun μ29 => ?_)
            refine s_aload_n C dX13_readEngine_157 rfl 0 rfl ?_
            refine s_getF C (fgX13_13_26 (Nat.le_trans (by decide) V)) g0 dX13_readEngine_158 ?_
            refine s_iload_n C dX13_readEngine_161 rfl 1 rfl ?_
            refine s_bipush (v := (17 : Int32)) C dX13_readEngine_162 (by decide) ?_
            refine s_iadd C dX13_readEngine_164 ?_
            refine s_bipush (v := (32 : Int32)) C dX13_readEngine_165 (by decide) ?_
            refine s_iast C (ag27 (Nat.le_trans (by decide) V)) (by decide) dX13_readEngine_167 ?_
            refine g_nmM (fun μ30 => ?_)
            refine s_aload_n C dX13_readEngine_168 rfl 0 rfl ?_
            refine s_getF C (fgX13_13_26 (Nat.le_trans (by decide) V)) g0 dX13_readEngine_169 ?_
            refine s_iload_n C dX13_readEngine_172 rfl 1 rfl ?_
            refine s_bipush (v := (19 : Int32)) C dX13_readEngine_173 (by decide) ?_
            refine s_iadd C dX13_readEngine_175 ?_
            refine s_iconst (v := (4 : Int32)) C dX13_readEngine_176 (by decide) ?_
            refine s_iast C (ag27 (Nat.le_trans (by decide) V)) (by decide) dX13_readEngine_177 ?_
            refine g_nmM (fun μ31 => ?_)
            refine s_aload_n C dX13_readEngine_178 rfl 0 rfl ?_
            refine s_getF C (fgX13_13_26 (Nat.le_trans (by decide) V)) g0 dX13_readEngine_179 ?_
            refine s_iload_n C dX13_readEngine_182 rfl 1 rfl ?_
            refine s_bipush (v := (20 : Int32)) C dX13_readEngine_183 (by decide) ?_
            refine s_iadd C dX13_readEngine_185 ?_
            refine s_iconst (v := (4 : Int32)) C dX13_readEngine_186 (by decide) ?_
            refine s_iast C (ag27 (Nat.le_trans (by decide) V)) (by decide) dX13_readEngine_187 ?_
            refine g_nmM (fun μ32 => ?_)
            refine s_aload_n C dX13_readEngine_188 rfl 0 rfl ?_
            refine s_ldcs (i := 31) C (List.mem_of_getElem? (i := 31) rfl) dX13_readEngine_189 ?_
            refine s_callV C R0 (kX13_expectWord (xl X) fu n0 g0 31 (by decide)) (Nat.le_trans (by decide) V) mmX13_expectWord miX13_expectWord q2696 (rc26 (Nat.le_trans (by decide) V)) g0 rfl rfl rfl (Nat.le_of_ble_eq_true rfl) ⟨Nat.le_of_ble_eq_true rfl, Nat.le_of_ble_eq_true rfl, Nat.le_of_ble_eq_true rfl, Nat.le_of_ble_eq_true rfl⟩ dX13_readEngine_191 (fun _ μ33 => ?_)
            refine g_st (st' := []) rfl ?_
            refine s_aload_n C dX13_readEngine_194 rfl 0 rfl ?_
            refine s_iload_n C dX13_readEngine_195 rfl 1 rfl ?_
            refine s_iconst (v := (1 : Int32)) C dX13_readEngine_196 (by decide) ?_
            refine s_iadd C dX13_readEngine_197 ?_
            refine s_callV C R0 (kX13_readName (xl X) fu n0 g0 (x14 + (1 : Int32))) (Nat.le_trans (by decide) V) mmX13_readName miX13_readName q2700 (rc26 (Nat.le_trans (by decide) V)) g0 rfl rfl rfl (Nat.le_of_ble_eq_true rfl) ⟨Nat.le_of_ble_eq_true rfl, Nat.le_of_ble_eq_true rfl, Nat.le_of_ble_eq_true rfl, Nat.le_of_ble_eq_true rfl⟩ dX13_readEngine_198 (fun _ μ34 => ?_)
            refine g_st (st' := []) rfl ?_
            exact g_sub [0, 1] rfl (hj201 μ34)
          ·
            exact s_vret C E dX13_readEngine_116
        refine g_jn (P := fun j96 => ∀ (μ35 : Mem) (x36 : Int32) (a37 : Nat), a37 < 1 → G X r0 0 0 μ35 96 [(0, .ref (xa X 26 n0)), (1, .int x36)] [.ref (xa X 26 a37)] (j96 μ35 x36 a37)) ?_ (fun j96 hj96 => ?_)
        · intro μ35 x36 a37 b38
          refine s_iconst (v := (1 : Int32)) C dX13_readEngine_96 (by decide) ?_
          refine s_goto (tgt := 101) C dX13_readEngine_97 (by decide) ?_
          exact g_sub [0, 1] rfl (hj101 μ35 x36 a37 (1 : Int32) b38)
        refine s_imul C dX13_readEngine_74 ?_
        refine s_iadd C dX13_readEngine_75 ?_
        refine g_nmI (fun x39 => ?_)
        refine s_istore_n (L' := [(1, .int x39), (0, .ref (xa X 26 n0))]) C dX13_readEngine_76 rfl (hN 1 (by decide)) rfl ?_
        refine s_aload_n C dX13_readEngine_77 rfl 1 rfl ?_
        refine s_aload_n C dX13_readEngine_78 rfl 1 rfl ?_
        refine s_getI C (fgX13_490_26 (Nat.le_trans (by decide) V)) g0 dX13_readEngine_79 ?_
        refine s_if_ne (tgt := 96) C dX13_readEngine_82 (by decide) (fun c40 => ?_) (fun c40 => ?_)
        ·
          exact g_sub [1, 0] rfl (hj96 μ9 x39 n0 g0)
        ·
          refine s_aload_n C dX13_readEngine_85 rfl 1 rfl ?_
          refine s_getF C (fgX13_13_26 (Nat.le_trans (by decide) V)) g0 dX13_readEngine_86 ?_
          refine s_iload_n C dX13_readEngine_89 rfl 0 rfl ?_
          refine s_iconst (v := (0 : Int32)) C dX13_readEngine_90 (by decide) ?_
          refine s_iadd C dX13_readEngine_91 ?_
          refine s_iald C (ag27 (Nat.le_trans (by decide) V)) (by decide) dX13_readEngine_92 ?_
          refine s_if_ne (tgt := 100) C dX13_readEngine_93 (by decide) (fun c41 => ?_) (fun c41 => ?_)
          ·
            refine s_iconst (v := (0 : Int32)) C dX13_readEngine_100 (by decide) ?_
            exact g_sub [1, 0] rfl (hj101 μ9 x39 n0 (0 : Int32) g0)
          ·
            exact g_sub [1, 0] rfl (hj96 μ9 x39 n0 g0)
      refine s_iconst (v := (2 : Int32)) C dX13_readEngine_50 (by decide) ?_
      refine s_callV C R0 (kX13_check (xl X) a6 b7 x8 (2 : Int32)) (Nat.le_trans (by decide) V) mmX13_check miX13_check q2680 (rc26 (Nat.le_trans (by decide) V)) b7 rfl rfl rfl (Nat.le_of_ble_eq_true rfl) ⟨Nat.le_of_ble_eq_true rfl, Nat.le_of_ble_eq_true rfl, Nat.le_of_ble_eq_true rfl, Nat.le_of_ble_eq_true rfl⟩ dX13_readEngine_51 (fun _ μ42 => ?_)
      refine g_st (st' := []) rfl ?_
      refine s_sipush (v := (476 : Int32)) C dX13_readEngine_54 (by decide) ?_
      refine s_bipush (v := (21 : Int32)) C dX13_readEngine_57 (by decide) ?_
      refine s_aload_n C dX13_readEngine_59 rfl 0 rfl ?_
      refine s_getI C (fgX13_490_26 (Nat.le_trans (by decide) V)) g0 dX13_readEngine_60 ?_
      refine s_if_ne (tgt := 73) C dX13_readEngine_63 (by decide) (fun c43 => ?_) (fun c43 => ?_)
      ·
        refine s_iconst (v := (0 : Int32)) C dX13_readEngine_73 (by decide) ?_
        exact g_sub [0] rfl (hj74 μ42 (476 : Int32) (21 : Int32) (0 : Int32))
      ·
        refine s_aload_n C dX13_readEngine_66 rfl 0 rfl ?_
        refine s_callV C R0 (kX13_value (xl X) fu n0 g0) (Nat.le_trans (by decide) V) mmX13_value miX13_value q2688 (rc26 (Nat.le_trans (by decide) V)) g0 rfl rfl rfl (Nat.le_of_ble_eq_true rfl) ⟨Nat.le_of_ble_eq_true rfl, Nat.le_of_ble_eq_true rfl, Nat.le_of_ble_eq_true rfl, Nat.le_of_ble_eq_true rfl⟩ dX13_readEngine_67 (fun x45 μ44 => ?_)
        refine g_st (st' := [.int x45, .int (21 : Int32), .int (476 : Int32)]) rfl ?_
        refine s_goto (tgt := 74) C dX13_readEngine_70 (by decide) ?_
        exact g_sub [0] rfl (hj74 μ44 (476 : Int32) (21 : Int32) x45)
    refine g_jn (P := fun j45 => ∀ (μ46 : Mem) (a47 : Nat), a47 < 1 → G X r0 0 0 μ46 45 [(0, .ref (xa X 26 n0))] [.ref (xa X 26 a47)] (j45 μ46 a47)) ?_ (fun j45 hj45 => ?_)
    · intro μ46 a47 b48
      refine s_iconst (v := (1 : Int32)) C dX13_readEngine_45 (by decide) ?_
      refine s_goto (tgt := 50) C dX13_readEngine_46 (by decide) ?_
      exact g_sub [0] rfl (hj50 μ46 a47 (1 : Int32) b48)
    refine s_iconst (v := (1 : Int32)) C dX13_readEngine_21 (by decide) ?_
    refine s_callV C R0 (kX13_check (xl X) a2 b3 x4 (1 : Int32)) (Nat.le_trans (by decide) V) mmX13_check miX13_check q2680 (rc26 (Nat.le_trans (by decide) V)) b3 rfl rfl rfl (Nat.le_of_ble_eq_true rfl) ⟨Nat.le_of_ble_eq_true rfl, Nat.le_of_ble_eq_true rfl, Nat.le_of_ble_eq_true rfl, Nat.le_of_ble_eq_true rfl⟩ dX13_readEngine_22 (fun _ μ49 => ?_)
    refine g_st (st' := []) rfl ?_
    refine s_aload_n C dX13_readEngine_25 rfl 0 rfl ?_
    refine s_aload_n C dX13_readEngine_26 rfl 0 rfl ?_
    refine s_getI C (fgX13_490_26 (Nat.le_trans (by decide) V)) g0 dX13_readEngine_27 ?_
    refine s_if_ne (tgt := 45) C dX13_readEngine_30 (by decide) (fun c50 => ?_) (fun c50 => ?_)
    ·
      exact g_sub [0] rfl (hj45 μ49 n0 g0)
    ·
      refine s_aload_n C dX13_readEngine_33 rfl 0 rfl ?_
      refine s_callV C R0 (kX13_value (xl X) fu n0 g0) (Nat.le_trans (by decide) V) mmX13_value miX13_value q2688 (rc26 (Nat.le_trans (by decide) V)) g0 rfl rfl rfl (Nat.le_of_ble_eq_true rfl) ⟨Nat.le_of_ble_eq_true rfl, Nat.le_of_ble_eq_true rfl, Nat.le_of_ble_eq_true rfl, Nat.le_of_ble_eq_true rfl⟩ dX13_readEngine_34 (fun x52 μ51 => ?_)
      refine g_st (st' := [.int x52, .ref (xa X 26 n0)]) rfl ?_
      refine s_iconst (v := (0 : Int32)) C dX13_readEngine_37 (by decide) ?_
      refine s_iconst (v := (3 : Int32)) C dX13_readEngine_38 (by decide) ?_
      refine s_callS C R0 (kX13_inRange (xl X) x52 (0 : Int32) (3 : Int32)) (Nat.le_trans (by decide) V) mmX13_inRange q2257 q2256 rfl rfl rfl rfl (Nat.le_of_ble_eq_true rfl) ⟨Nat.le_of_ble_eq_true rfl, Nat.le_of_ble_eq_true rfl, Nat.le_of_ble_eq_true rfl, Nat.le_of_ble_eq_true rfl⟩ dX13_readEngine_39 (fun x54 μ53 => ?_)
      refine g_st (st' := [.int x54, .ref (xa X 26 n0)]) rfl ?_
      refine s_if_eq (tgt := 49) C dX13_readEngine_42 (by decide) (fun c55 => ?_) (fun c55 => ?_)
      ·
        refine s_iconst (v := (0 : Int32)) C dX13_readEngine_49 (by decide) ?_
        exact g_sub [0] rfl (hj50 μ53 n0 (0 : Int32) g0)
      ·
        exact g_sub [0] rfl (hj45 μ53 n0 g0)
  refine g_jn (P := fun j16 => ∀ (μ56 : Mem) (a57 : Nat), a57 < 1 → G X r0 0 0 μ56 16 [(0, .ref (xa X 26 n0))] [.ref (xa X 26 a57)] (j16 μ56 a57)) ?_ (fun j16 hj16 => ?_)
  · intro μ56 a57 b58
    refine s_iconst (v := (1 : Int32)) C dX13_readEngine_16 (by decide) ?_
    refine s_goto (tgt := 21) C dX13_readEngine_17 (by decide) ?_
    exact g_sub [0] rfl (hj21 μ56 a57 (1 : Int32) b58)
  refine s_aload_n C dX13_readEngine_0 rfl 0 rfl ?_
  refine s_aload_n C dX13_readEngine_1 rfl 0 rfl ?_
  refine s_getI C (fgX13_490_26 (Nat.le_trans (by decide) V)) g0 dX13_readEngine_2 ?_
  refine s_if_ne (tgt := 16) C dX13_readEngine_5 (by decide) (fun c59 => ?_) (fun c59 => ?_)
  ·
    exact g_sub [0] rfl (hj16 μ n0 g0)
  ·
    refine s_aload_n C dX13_readEngine_8 rfl 0 rfl ?_
    refine s_getI C (fgX13_481_26 (Nat.le_trans (by decide) V)) g0 dX13_readEngine_9 ?_
    refine s_iconst (v := (2 : Int32)) C dX13_readEngine_12 (by decide) ?_
    refine s_icmp_ne (tgt := 20) C dX13_readEngine_13 (by decide) (fun c60 => ?_) (fun c60 => ?_)
    ·
      refine s_iconst (v := (0 : Int32)) C dX13_readEngine_20 (by decide) ?_
      exact g_sub [0] rfl (hj21 μ n0 (0 : Int32) g0)
    ·
      exact g_sub [0] rfl (hj16 μ n0 g0)
/-! PinEnginesModel.readLevel()V -/
def fX13_readLevel (fu : Nat) (n0 : Nat) (μ : Mem) : Option (Unit × Mem) :=
  bnd (fX13_number fu n0 (0 : Int32) (15 : Int32) μ) fun x2 μ1 =>
  bnd (fX13_putNumber fu n0 (((4 : Int32) + ((6 : Int32) * x2)) + (2 : Int32)) (0 : Int32) (1 : Int32) μ1) fun _ μ3 =>
  some ((), μ3)
set_option maxHeartbeats 4000000 in
set_option maxRecDepth 100000 in
theorem kX13_readLevel (l : Launch) (fu : Nat) (n0 : Nat) (g0 : n0 < 1) : Kon 1 l yX13_readLevel cX13_readLevel 2 (none) 6 129 0 0 (fun ad => [.ref (ad 26 n0)]) rvV (fun μ => fX13_readLevel fu n0 μ) := by
  refine kon_of (by decide) (fun _ => Nat.le_of_ble_eq_true rfl) (fun X r0 μ hXl hXn V C E => ?_)
  have hN : ∀ i : Nat, i < 2 → i < xn X := fun i h => hXn.symm ▸ h
  have R0 := fen_rm E
  show G X r0 0 0 μ 0 [(0, .ref (xa X 26 n0))] [] (fX13_readLevel fu n0 μ)
  unfold fX13_readLevel
  refine s_aload_n C dX13_readLevel_0 rfl 0 rfl ?_
  refine s_iconst (v := (0 : Int32)) C dX13_readLevel_1 (by decide) ?_
  refine s_bipush (v := (15 : Int32)) C dX13_readLevel_2 (by decide) ?_
  refine s_callV C R0 (kX13_number (xl X) fu n0 g0 (0 : Int32) (15 : Int32)) (Nat.le_trans (by decide) V) mmX13_number miX13_number q2720 (rc26 (Nat.le_trans (by decide) V)) g0 rfl rfl rfl (Nat.le_of_ble_eq_true rfl) ⟨Nat.le_of_ble_eq_true rfl, Nat.le_of_ble_eq_true rfl, Nat.le_of_ble_eq_true rfl, Nat.le_of_ble_eq_true rfl⟩ dX13_readLevel_4 (fun x2 μ1 => ?_)
  refine g_st (st' := [.int x2]) rfl ?_
  refine s_istore_n (L' := [(1, .int x2), (0, .ref (xa X 26 n0))]) C dX13_readLevel_7 rfl (hN 1 (by decide)) rfl ?_
  refine s_aload_n C dX13_readLevel_8 rfl 1 rfl ?_
  refine s_iconst (v := (4 : Int32)) C dX13_readLevel_9 (by decide) ?_
  refine s_bipush (v := (6 : Int32)) C dX13_readLevel_10 (by decide) ?_
  refine s_iload_n C dX13_readLevel_12 rfl 0 rfl ?_
  refine s_imul C dX13_readLevel_13 ?_
  refine s_iadd C dX13_readLevel_14 ?_
  refine s_iconst (v := (2 : Int32)) C dX13_readLevel_15 (by decide) ?_
  refine s_iadd C dX13_readLevel_16 ?_
  refine s_iconst (v := (0 : Int32)) C dX13_readLevel_17 (by decide) ?_
  refine s_iconst (v := (1 : Int32)) C dX13_readLevel_18 (by decide) ?_
  refine s_callV C R0 (kX13_putNumber (xl X) fu n0 g0 (((4 : Int32) + ((6 : Int32) * x2)) + (2 : Int32)) (0 : Int32) (1 : Int32)) (Nat.le_trans (by decide) V) mmX13_putNumber miX13_putNumber q2728 (rc26 (Nat.le_trans (by decide) V)) g0 rfl rfl rfl (Nat.le_of_ble_eq_true rfl) ⟨Nat.le_of_ble_eq_true rfl, Nat.le_of_ble_eq_true rfl, Nat.le_of_ble_eq_true rfl, Nat.le_of_ble_eq_true rfl⟩ dX13_readLevel_19 (fun _ μ3 => ?_)
  refine g_st (st' := []) rfl ?_
  exact s_vret C E dX13_readLevel_22
/-! PinEnginesModel.readPlace(II)V -/
def fX13_readPlace (fu : Nat) (n0 : Nat) (p1 : Int32) (p2 : Int32) (μ : Mem) : Option (Unit × Mem) :=
  jn (fun (μ1 : Mem) (x2 : Int32) (a3 : Nat) (x5 : Int32) =>
    jn (fun (μ6 : Mem) =>
      bnd (fX13_advance fu n0 μ6) fun _ μ7 =>
      some ((), μ7)
    ) fun j54 =>
    bnd (fX13_check a3 x5 (1 : Int32) μ1) fun _ μ8 =>
    if ¬ (μ8.1 26 n0 26) = 0 then (
      j54 μ8
    ) else (
      ckI p1 (if 1 = 4 then 7000 else 700) <|
      nm (wI μ8 27 1 p1.toNatClampNeg x2) fun μ10 =>
      j54 μ10
    )
  ) fun j36 =>
  jn (fun (μ11 : Mem) (x12 : Int32) (a13 : Nat) =>
    j36 μ11 x12 a13 (1 : Int32)
  ) fun j31 =>
  bnd (fX13_indexIn fu n0 2 μ) fun x16 μ15 =>
  if ¬ (μ15.1 26 n0 26) = 0 then (
    j31 μ15 x16 n0
  ) else (
    jn (fun (μ18 : Mem) (a19 : Nat) =>
      j36 μ18 x16 a19 (0 : Int32)
    ) fun j35 =>
    if x16 = (-1 : Int32) then (
      j35 μ15 n0
    ) else (
      if ¬ ((p2 >>> (x16 &&& 31)) &&& (1 : Int32)) = (1 : Int32) then (
        j35 μ15 n0
      ) else (
        j31 μ15 x16 n0
      )
    )
  )
set_option maxHeartbeats 4000000 in
set_option maxRecDepth 100000 in
theorem kX13_readPlace (l : Launch) (fu : Nat) (n0 : Nat) (g0 : n0 < 1) (p1 : Int32) (p2 : Int32) : Kon 1 l yX13_readPlace cX13_readPlace 4 (none) 6 130 0 0 (fun ad => [.ref (ad 26 n0), .int p1, .int p2]) rvV (fun μ => fX13_readPlace fu n0 p1 p2 μ) := by
  refine kon_of (by decide) (fun _ => Nat.le_of_ble_eq_true rfl) (fun X r0 μ hXl hXn V C E => ?_)
  have hN : ∀ i : Nat, i < 4 → i < xn X := fun i h => hXn.symm ▸ h
  have R0 := fen_rm E
  show G X r0 0 0 μ 0 [(0, .ref (xa X 26 n0)), (1, .int p1), (2, .int p2)] [] (fX13_readPlace fu n0 p1 p2 μ)
  unfold fX13_readPlace
  refine g_jn (P := fun j36 => ∀ (μ1 : Mem) (x2 : Int32) (a3 : Nat) (x5 : Int32), a3 < 1 → G X r0 0 0 μ1 36 [(0, .ref (xa X 26 n0)), (1, .int p1), (3, .int x2)] [.int x5, .ref (xa X 26 a3)] (j36 μ1 x2 a3 x5)) ?_ (fun j36 hj36 => ?_)
  · intro μ1 x2 a3 x5 b4
    refine g_jn (P := fun j54 => ∀ (μ6 : Mem), G X r0 0 0 μ6 54 [(0, .ref (xa X 26 n0))] [] (j54 μ6)) ?_ (fun j54 hj54 => ?_)
    · intro μ6
      refine s_aload_n C dX13_readPlace_54 rfl 0 rfl ?_
      refine s_callV C R0 (kX13_advance (xl X) fu n0 g0) (Nat.le_trans (by decide) V) mmX13_advance miX13_advance q2692 (rc26 (Nat.le_trans (by decide) V)) g0 rfl rfl rfl (Nat.le_of_ble_eq_true rfl) ⟨Nat.le_of_ble_eq_true rfl, Nat.le_of_ble_eq_true rfl, Nat.le_of_ble_eq_true rfl, Nat.le_of_ble_eq_true rfl⟩ dX13_readPlace_55 (fun _ μ7 => ?_)
      refine g_st (st' := []) rfl ?_
      exact s_vret C E dX13_readPlace_58
    refine s_iconst (v := (1 : Int32)) C dX13_readPlace_36 (by decide) ?_
    refine s_callV C R0 (kX13_check (xl X) a3 b4 x5 (1 : Int32)) (Nat.le_trans (by decide) V) mmX13_check miX13_check q2680 (rc26 (Nat.le_trans (by decide) V)) b4 rfl rfl rfl (Nat.le_of_ble_eq_true rfl) ⟨Nat.le_of_ble_eq_true rfl, Nat.le_of_ble_eq_true rfl, Nat.le_of_ble_eq_true rfl, Nat.le_of_ble_eq_true rfl⟩ dX13_readPlace_37 (fun _ μ8 => ?_)
    refine g_st (st' := []) rfl ?_
    refine s_aload_n C dX13_readPlace_40 rfl 0 rfl ?_
    refine s_getI C (fgX13_490_26 (Nat.le_trans (by decide) V)) g0 dX13_readPlace_41 ?_
    refine s_if_ne (tgt := 54) C dX13_readPlace_44 (by decide) (fun c9 => ?_) (fun c9 => ?_)
    ·
      exact g_sub [0] rfl (hj54 μ8)
    ·
      refine s_aload_n C dX13_readPlace_47 rfl 0 rfl ?_
      refine s_getF C (fgX13_13_26 (Nat.le_trans (by decide) V)) g0 dX13_readPlace_48 ?_
      refine s_iload_n C dX13_readPlace_51 rfl 1 rfl ?_
      refine s_iload_n C dX13_readPlace_52 rfl 2 rfl ?_
      refine s_iast C (ag27 (Nat.le_trans (by decide) V)) (by decide) dX13_readPlace_53 ?_
      refine g_nmM (fun μ10 => ?_)
      exact g_sub [0] rfl (hj54 μ10)
  refine g_jn (P := fun j31 => ∀ (μ11 : Mem) (x12 : Int32) (a13 : Nat), a13 < 1 → G X r0 0 0 μ11 31 [(0, .ref (xa X 26 n0)), (1, .int p1), (3, .int x12)] [.ref (xa X 26 a13)] (j31 μ11 x12 a13)) ?_ (fun j31 hj31 => ?_)
  · intro μ11 x12 a13 b14
    refine s_iconst (v := (1 : Int32)) C dX13_readPlace_31 (by decide) ?_
    refine s_goto (tgt := 36) C dX13_readPlace_32 (by decide) ?_
    exact g_sub [0, 1, 2] rfl (hj36 μ11 x12 a13 (1 : Int32) b14)
  refine s_aload_n C dX13_readPlace_0 rfl 0 rfl ?_
  refine s_aload_n C dX13_readPlace_1 rfl 0 rfl ?_
  refine s_getF C (fgX13_126_26 (Nat.le_trans (by decide) V)) g0 dX13_readPlace_2 ?_
  refine s_callV C R0 (kX13_indexIn (xl X) fu n0 g0 2 (by decide)) (Nat.le_trans (by decide) V) mmX13_indexIn miX13_indexIn q2708 (rc26 (Nat.le_trans (by decide) V)) g0 rfl rfl rfl (Nat.le_of_ble_eq_true rfl) ⟨Nat.le_of_ble_eq_true rfl, Nat.le_of_ble_eq_true rfl, Nat.le_of_ble_eq_true rfl, Nat.le_of_ble_eq_true rfl⟩ dX13_readPlace_5 (fun x16 μ15 => ?_)
  refine g_st (st' := [.int x16]) rfl ?_
  refine s_istore_n (L' := [(3, .int x16), (0, .ref (xa X 26 n0)), (1, .int p1), (2, .int p2)]) C dX13_readPlace_8 rfl (hN 3 (by decide)) rfl ?_
  refine s_aload_n C dX13_readPlace_9 rfl 1 rfl ?_
  refine s_aload_n C dX13_readPlace_10 rfl 1 rfl ?_
  refine s_getI C (fgX13_490_26 (Nat.le_trans (by decide) V)) g0 dX13_readPlace_11 ?_
  refine s_if_ne (tgt := 31) C dX13_readPlace_14 (by decide) (fun c17 => ?_) (fun c17 => ?_)
  ·
    exact g_sub [1, 2, 0] rfl (hj31 μ15 x16 n0 g0)
  ·
    refine g_jn (P := fun j35 => ∀ (μ18 : Mem) (a19 : Nat), a19 < 1 → G X r0 0 0 μ18 35 [(0, .ref (xa X 26 n0)), (1, .int p1), (3, .int x16)] [.ref (xa X 26 a19)] (j35 μ18 a19)) ?_ (fun j35 hj35 => ?_)
    · intro μ18 a19 b20
      refine s_iconst (v := (0 : Int32)) C dX13_readPlace_35 (by decide) ?_
      exact g_sub [0, 1, 2] rfl (hj36 μ18 x16 a19 (0 : Int32) b20)
    refine s_iload_n C dX13_readPlace_17 rfl 0 rfl ?_
    refine s_iconst (v := (-1 : Int32)) C dX13_readPlace_18 (by decide) ?_
    refine s_icmp_eq (tgt := 35) C dX13_readPlace_19 (by decide) (fun c21 => ?_) (fun c21 => ?_)
    ·
      exact g_sub [1, 2, 0] rfl (hj35 μ15 n0 g0)
    ·
      refine s_iload_n C dX13_readPlace_22 rfl 3 rfl ?_
      refine s_iload_n C dX13_readPlace_23 rfl 0 rfl ?_
      refine s_ishr C dX13_readPlace_24 ?_
      refine s_iconst (v := (1 : Int32)) C dX13_readPlace_25 (by decide) ?_
      refine s_iand C dX13_readPlace_26 ?_
      refine s_iconst (v := (1 : Int32)) C dX13_readPlace_27 (by decide) ?_
      refine s_icmp_ne (tgt := 35) C dX13_readPlace_28 (by decide) (fun c22 => ?_) (fun c22 => ?_)
      ·
        exact g_sub [1, 2, 0] rfl (hj35 μ15 n0 g0)
      ·
        exact g_sub [1, 2, 0] rfl (hj31 μ15 x16 n0 g0)
/-! PinEnginesModel.readJump(I)V -/
def fX13_readJump (fu : Nat) (n0 : Nat) (p1 : Int32) (μ : Mem) : Option (Unit × Mem) :=
  jn (fun (μ1 : Mem) =>
    bnd (fX13_readName fu n0 (p1 + (2 : Int32)) μ1) fun _ μ2 =>
    some ((), μ2)
  ) fun j27 =>
  bnd (fX13_indexIn fu n0 1 μ) fun x4 μ3 =>
  if x4 = (-1 : Int32) then (
    j27 μ3
  ) else (
    ckI (p1 + (1 : Int32)) (if 1 = 4 then 7000 else 700) <|
    nm (wI μ3 27 1 (p1 + (1 : Int32)).toNatClampNeg x4) fun μ6 =>
    bnd (fX13_scan fu n0 μ6) fun _ μ7 =>
    j27 μ7
  )
set_option maxHeartbeats 4000000 in
set_option maxRecDepth 100000 in
theorem kX13_readJump (l : Launch) (fu : Nat) (n0 : Nat) (g0 : n0 < 1) (p1 : Int32) : Kon 1 l yX13_readJump cX13_readJump 3 (none) 8 171 0 0 (fun ad => [.ref (ad 26 n0), .int p1]) rvV (fun μ => fX13_readJump fu n0 p1 μ) := by
  refine kon_of (by decide) (fun _ => Nat.le_of_ble_eq_true rfl) (fun X r0 μ hXl hXn V C E => ?_)
  have hN : ∀ i : Nat, i < 3 → i < xn X := fun i h => hXn.symm ▸ h
  have R0 := fen_rm E
  show G X r0 0 0 μ 0 [(0, .ref (xa X 26 n0)), (1, .int p1)] [] (fX13_readJump fu n0 p1 μ)
  unfold fX13_readJump
  refine g_jn (P := fun j27 => ∀ (μ1 : Mem), G X r0 0 0 μ1 27 [(0, .ref (xa X 26 n0)), (1, .int p1)] [] (j27 μ1)) ?_ (fun j27 hj27 => ?_)
  · intro μ1
    refine s_aload_n C dX13_readJump_27 rfl 0 rfl ?_
    refine s_iload_n C dX13_readJump_28 rfl 1 rfl ?_
    refine s_iconst (v := (2 : Int32)) C dX13_readJump_29 (by decide) ?_
    refine s_iadd C dX13_readJump_30 ?_
    refine s_callV C R0 (kX13_readName (xl X) fu n0 g0 (p1 + (2 : Int32))) (Nat.le_trans (by decide) V) mmX13_readName miX13_readName q2700 (rc26 (Nat.le_trans (by decide) V)) g0 rfl rfl rfl (Nat.le_of_ble_eq_true rfl) ⟨Nat.le_of_ble_eq_true rfl, Nat.le_of_ble_eq_true rfl, Nat.le_of_ble_eq_true rfl, Nat.le_of_ble_eq_true rfl⟩ dX13_readJump_31 (fun _ μ2 => ?_)
    refine g_st (st' := []) rfl ?_
    exact s_vret C E dX13_readJump_34
  refine s_aload_n C dX13_readJump_0 rfl 0 rfl ?_
  refine s_aload_n C dX13_readJump_1 rfl 0 rfl ?_
  refine s_getF C (fgX13_105_26 (Nat.le_trans (by decide) V)) g0 dX13_readJump_2 ?_
  refine s_callV C R0 (kX13_indexIn (xl X) fu n0 g0 1 (by decide)) (Nat.le_trans (by decide) V) mmX13_indexIn miX13_indexIn q2708 (rc26 (Nat.le_trans (by decide) V)) g0 rfl rfl rfl (Nat.le_of_ble_eq_true rfl) ⟨Nat.le_of_ble_eq_true rfl, Nat.le_of_ble_eq_true rfl, Nat.le_of_ble_eq_true rfl, Nat.le_of_ble_eq_true rfl⟩ dX13_readJump_5 (fun x4 μ3 => ?_)
  refine g_st (st' := [.int x4]) rfl ?_
  refine s_istore_n (L' := [(2, .int x4), (0, .ref (xa X 26 n0)), (1, .int p1)]) C dX13_readJump_8 rfl (hN 2 (by decide)) rfl ?_
  refine s_iload_n C dX13_readJump_9 rfl 0 rfl ?_
  refine s_iconst (v := (-1 : Int32)) C dX13_readJump_10 (by decide) ?_
  refine s_icmp_eq (tgt := 27) C dX13_readJump_11 (by decide) (fun c5 => ?_) (fun c5 => ?_)
  ·
    exact g_sub [1, 2] rfl (hj27 μ3)
  ·
    refine s_aload_n C dX13_readJump_14 rfl 1 rfl ?_
    refine s_getF C (fgX13_13_26 (Nat.le_trans (by decide) V)) g0 dX13_readJump_15 ?_
    refine s_iload_n C dX13_readJump_18 rfl 2 rfl ?_
    refine s_iconst (v := (1 : Int32)) C dX13_readJump_19 (by decide) ?_
    refine s_iadd C dX13_readJump_20 ?_
    refine s_iload_n C dX13_readJump_21 rfl 0 rfl ?_
    refine s_iast C (ag27 (Nat.le_trans (by decide) V)) (by decide) dX13_readJump_22 ?_
    refine g_nmM (fun μ6 => ?_)
    refine s_aload_n C dX13_readJump_23 rfl 1 rfl ?_
    refine s_callV C R0 (kX13_scan (xl X) fu n0 g0) (Nat.le_trans (by decide) V) mmX13_scan miX13_scan q2646 (rc26 (Nat.le_trans (by decide) V)) g0 rfl rfl rfl (Nat.le_of_ble_eq_true rfl) ⟨Nat.le_of_ble_eq_true rfl, Nat.le_of_ble_eq_true rfl, Nat.le_of_ble_eq_true rfl, Nat.le_of_ble_eq_true rfl⟩ dX13_readJump_24 (fun _ μ7 => ?_)
    refine g_st (st' := []) rfl ?_
    exact g_sub [1, 2] rfl (hj27 μ7)
/-! PinEnginesModel.readWait(I)V -/
def fX13_readWait (fu : Nat) (n0 : Nat) (p1 : Int32) (μ : Mem) : Option (Unit × Mem) :=
  jn (fun (μ1 : Mem) (x2 : Int32) =>
    jn (fun (μ3 : Mem) (a4 : Nat) (x6 : Int32) (x7 : Int32) =>
      jn (fun (μ8 : Mem) (a9 : Nat) (x11 : Int32) (x12 : Int32) (x13 : Int32) =>
        bnd (fX13_putNumber fu a9 x11 x12 x13 μ8) fun _ μ14 =>
        some ((), μ14)
      ) fun j59 =>
      ckI x6 (if a4 = 4 then 7000 else 700) <|
      nm (wI μ3 27 a4 x6.toNatClampNeg x7) fun μ15 =>
      if x2 = 0 then (
        j59 μ15 n0 (p1 + (3 : Int32)) (0 : Int32) (15 : Int32)
      ) else (
        j59 μ15 n0 (p1 + (3 : Int32)) (0 : Int32) (7 : Int32)
      )
    ) fun j42 =>
    if x2 = 0 then (
      j42 μ1 1 (p1 + (2 : Int32)) (0 : Int32)
    ) else (
      j42 μ1 1 (p1 + (2 : Int32)) (1 : Int32)
    )
  ) fun j26 =>
  bnd (fX13_putNumber fu n0 (p1 + (1 : Int32)) (0 : Int32) (1 : Int32) μ) fun _ μ18 =>
  bnd (fX13_accept fu n0 48 μ18) fun x20 μ19 =>
  if ¬ x20 = 0 then (
    j26 μ19 x20
  ) else (
    bnd (fX13_expectWord fu n0 19 μ19) fun _ μ22 =>
    j26 μ22 x20
  )
set_option maxHeartbeats 4000000 in
set_option maxRecDepth 100000 in
theorem kX13_readWait (l : Launch) (fu : Nat) (n0 : Nat) (g0 : n0 < 1) (p1 : Int32) : Kon 1 l yX13_readWait cX13_readWait 3 (none) 6 130 0 0 (fun ad => [.ref (ad 26 n0), .int p1]) rvV (fun μ => fX13_readWait fu n0 p1 μ) := by
  refine kon_of (by decide) (fun _ => Nat.le_of_ble_eq_true rfl) (fun X r0 μ hXl hXn V C E => ?_)
  have hN : ∀ i : Nat, i < 3 → i < xn X := fun i h => hXn.symm ▸ h
  have R0 := fen_rm E
  show G X r0 0 0 μ 0 [(0, .ref (xa X 26 n0)), (1, .int p1)] [] (fX13_readWait fu n0 p1 μ)
  unfold fX13_readWait
  refine g_jn (P := fun j26 => ∀ (μ1 : Mem) (x2 : Int32), G X r0 0 0 μ1 26 [(0, .ref (xa X 26 n0)), (1, .int p1), (2, .int x2)] [] (j26 μ1 x2)) ?_ (fun j26 hj26 => ?_)
  · intro μ1 x2
    refine g_jn (P := fun j42 => ∀ (μ3 : Mem) (a4 : Nat) (x6 : Int32) (x7 : Int32), a4 < 5 → G X r0 0 0 μ3 42 [(0, .ref (xa X 26 n0)), (1, .int p1), (2, .int x2)] [.int x7, .int x6, .ref (xa X 27 a4)] (j42 μ3 a4 x6 x7)) ?_ (fun j42 hj42 => ?_)
    · intro μ3 a4 x6 x7 b5
      refine g_jn (P := fun j59 => ∀ (μ8 : Mem) (a9 : Nat) (x11 : Int32) (x12 : Int32) (x13 : Int32), a9 < 1 → G X r0 0 0 μ8 59 [] [.int x13, .int x12, .int x11, .ref (xa X 26 a9)] (j59 μ8 a9 x11 x12 x13)) ?_ (fun j59 hj59 => ?_)
      · intro μ8 a9 x11 x12 x13 b10
        refine s_callV C R0 (kX13_putNumber (xl X) fu a9 b10 x11 x12 x13) (Nat.le_trans (by decide) V) mmX13_putNumber miX13_putNumber q2728 (rc26 (Nat.le_trans (by decide) V)) b10 rfl rfl rfl (Nat.le_of_ble_eq_true rfl) ⟨Nat.le_of_ble_eq_true rfl, Nat.le_of_ble_eq_true rfl, Nat.le_of_ble_eq_true rfl, Nat.le_of_ble_eq_true rfl⟩ dX13_readWait_59 (fun _ μ14 => ?_)
        refine g_st (st' := []) rfl ?_
        exact s_vret C E dX13_readWait_62
      refine s_iast C (ag27 (Nat.le_trans (by decide) V)) b5 dX13_readWait_42 ?_
      refine g_nmM (fun μ15 => ?_)
      refine s_aload_n C dX13_readWait_43 rfl 0 rfl ?_
      refine s_iload_n C dX13_readWait_44 rfl 1 rfl ?_
      refine s_iconst (v := (3 : Int32)) C dX13_readWait_45 (by decide) ?_
      refine s_iadd C dX13_readWait_46 ?_
      refine s_iconst (v := (0 : Int32)) C dX13_readWait_47 (by decide) ?_
      refine s_iload_n C dX13_readWait_48 rfl 2 rfl ?_
      refine s_if_eq (tgt := 57) C dX13_readWait_49 (by decide) (fun c16 => ?_) (fun c16 => ?_)
      ·
        refine s_bipush (v := (15 : Int32)) C dX13_readWait_57 (by decide) ?_
        exact g_sub [] rfl (hj59 μ15 n0 (p1 + (3 : Int32)) (0 : Int32) (15 : Int32) g0)
      ·
        refine s_bipush (v := (7 : Int32)) C dX13_readWait_52 (by decide) ?_
        refine s_goto (tgt := 59) C dX13_readWait_54 (by decide) ?_
        exact g_sub [] rfl (hj59 μ15 n0 (p1 + (3 : Int32)) (0 : Int32) (7 : Int32) g0)
    refine s_aload_n C dX13_readWait_26 rfl 0 rfl ?_
    refine s_getF C (fgX13_13_26 (Nat.le_trans (by decide) V)) g0 dX13_readWait_27 ?_
    refine s_iload_n C dX13_readWait_30 rfl 1 rfl ?_
    refine s_iconst (v := (2 : Int32)) C dX13_readWait_31 (by decide) ?_
    refine s_iadd C dX13_readWait_32 ?_
    refine s_iload_n C dX13_readWait_33 rfl 2 rfl ?_
    refine s_if_eq (tgt := 41) C dX13_readWait_34 (by decide) (fun c17 => ?_) (fun c17 => ?_)
    ·
      refine s_iconst (v := (0 : Int32)) C dX13_readWait_41 (by decide) ?_
      exact g_sub [0, 1, 2] rfl (hj42 μ1 1 (p1 + (2 : Int32)) (0 : Int32) (by decide))
    ·
      refine s_iconst (v := (1 : Int32)) C dX13_readWait_37 (by decide) ?_
      refine s_goto (tgt := 42) C dX13_readWait_38 (by decide) ?_
      exact g_sub [0, 1, 2] rfl (hj42 μ1 1 (p1 + (2 : Int32)) (1 : Int32) (by decide))
  refine s_aload_n C dX13_readWait_0 rfl 0 rfl ?_
  refine s_iload_n C dX13_readWait_1 rfl 1 rfl ?_
  refine s_iconst (v := (1 : Int32)) C dX13_readWait_2 (by decide) ?_
  refine s_iadd C dX13_readWait_3 ?_
  refine s_iconst (v := (0 : Int32)) C dX13_readWait_4 (by decide) ?_
  refine s_iconst (v := (1 : Int32)) C dX13_readWait_5 (by decide) ?_
  refine s_callV C R0 (kX13_putNumber (xl X) fu n0 g0 (p1 + (1 : Int32)) (0 : Int32) (1 : Int32)) (Nat.le_trans (by decide) V) mmX13_putNumber miX13_putNumber q2728 (rc26 (Nat.le_trans (by decide) V)) g0 rfl rfl rfl (Nat.le_of_ble_eq_true rfl) ⟨Nat.le_of_ble_eq_true rfl, Nat.le_of_ble_eq_true rfl, Nat.le_of_ble_eq_true rfl, Nat.le_of_ble_eq_true rfl⟩ dX13_readWait_6 (fun _ μ18 => ?_)
  refine g_st (st' := []) rfl ?_
  refine s_aload_n C dX13_readWait_9 rfl 0 rfl ?_
  refine s_ldcs (i := 48) C (List.mem_of_getElem? (i := 48) rfl) dX13_readWait_10 ?_
  refine s_callV C R0 (kX13_accept (xl X) fu n0 g0 48 (by decide)) (Nat.le_trans (by decide) V) mmX13_accept miX13_accept q2666 (rc26 (Nat.le_trans (by decide) V)) g0 rfl rfl rfl (Nat.le_of_ble_eq_true rfl) ⟨Nat.le_of_ble_eq_true rfl, Nat.le_of_ble_eq_true rfl, Nat.le_of_ble_eq_true rfl, Nat.le_of_ble_eq_true rfl⟩ dX13_readWait_12 (fun x20 μ19 => ?_)
  refine g_st (st' := [.int x20]) rfl ?_
  refine s_istore_n (L' := [(2, .int x20), (0, .ref (xa X 26 n0)), (1, .int p1)]) C dX13_readWait_15 rfl (hN 2 (by decide)) rfl ?_
  refine s_iload_n C dX13_readWait_16 rfl 0 rfl ?_
  refine s_if_ne (tgt := 26) C dX13_readWait_17 (by decide) (fun c21 => ?_) (fun c21 => ?_)
  ·
    exact g_sub [1, 2, 0] rfl (hj26 μ19 x20)
  ·
    refine s_aload_n C dX13_readWait_20 rfl 1 rfl ?_
    refine s_ldcs (i := 19) C (List.mem_of_getElem? (i := 19) rfl) dX13_readWait_21 ?_
    refine s_callV C R0 (kX13_expectWord (xl X) fu n0 g0 19 (by decide)) (Nat.le_trans (by decide) V) mmX13_expectWord miX13_expectWord q2696 (rc26 (Nat.le_trans (by decide) V)) g0 rfl rfl rfl (Nat.le_of_ble_eq_true rfl) ⟨Nat.le_of_ble_eq_true rfl, Nat.le_of_ble_eq_true rfl, Nat.le_of_ble_eq_true rfl, Nat.le_of_ble_eq_true rfl⟩ dX13_readWait_23 (fun _ μ22 => ?_)
    refine g_st (st' := []) rfl ?_
    exact g_sub [1, 2, 0] rfl (hj26 μ22 x20)
/-! PinEnginesModel.readMove(I)V -/
def fX13_readMove (fu : Nat) (n0 : Nat) (p1 : Int32) (μ : Mem) : Option (Unit × Mem) :=
  jn (fun (μ1 : Mem) (a2 : Nat) (x4 : Int32) (x5 : Int32) =>
    ckI x4 (if a2 = 4 then 7000 else 700) <|
    nm (wI μ1 27 a2 x4.toNatClampNeg x5) fun μ6 =>
    bnd (fX13_readPlace fu n0 (p1 + (3 : Int32)) (127 : Int32) μ6) fun _ μ7 =>
    some ((), μ7)
  ) fun j44 =>
  bnd (fX13_readPlace fu n0 (p1 + (1 : Int32)) (311 : Int32) μ) fun _ μ8 =>
  bnd (fX13_accept fu n0 52 μ8) fun x10 μ9 =>
  if x10 = 0 then (
    bnd (fX13_accept fu n0 53 μ9) fun x13 μ12 =>
    if x13 = 0 then (
      j44 μ12 1 (p1 + (2 : Int32)) (0 : Int32)
    ) else (
      j44 μ12 1 (p1 + (2 : Int32)) (2 : Int32)
    )
  ) else (
    j44 μ9 1 (p1 + (2 : Int32)) (1 : Int32)
  )
set_option maxHeartbeats 4000000 in
set_option maxRecDepth 100000 in
theorem kX13_readMove (l : Launch) (fu : Nat) (n0 : Nat) (g0 : n0 < 1) (p1 : Int32) : Kon 1 l yX13_readMove cX13_readMove 2 (none) 7 153 0 0 (fun ad => [.ref (ad 26 n0), .int p1]) rvV (fun μ => fX13_readMove fu n0 p1 μ) := by
  refine kon_of (by decide) (fun _ => Nat.le_of_ble_eq_true rfl) (fun X r0 μ hXl hXn V C E => ?_)
  have hN : ∀ i : Nat, i < 2 → i < xn X := fun i h => hXn.symm ▸ h
  have R0 := fen_rm E
  show G X r0 0 0 μ 0 [(0, .ref (xa X 26 n0)), (1, .int p1)] [] (fX13_readMove fu n0 p1 μ)
  unfold fX13_readMove
  refine g_jn (P := fun j44 => ∀ (μ1 : Mem) (a2 : Nat) (x4 : Int32) (x5 : Int32), a2 < 5 → G X r0 0 0 μ1 44 [(0, .ref (xa X 26 n0)), (1, .int p1)] [.int x5, .int x4, .ref (xa X 27 a2)] (j44 μ1 a2 x4 x5)) ?_ (fun j44 hj44 => ?_)
  · intro μ1 a2 x4 x5 b3
    refine s_iast C (ag27 (Nat.le_trans (by decide) V)) b3 dX13_readMove_44 ?_
    refine g_nmM (fun μ6 => ?_)
    refine s_aload_n C dX13_readMove_45 rfl 0 rfl ?_
    refine s_iload_n C dX13_readMove_46 rfl 1 rfl ?_
    refine s_iconst (v := (3 : Int32)) C dX13_readMove_47 (by decide) ?_
    refine s_iadd C dX13_readMove_48 ?_
    refine s_bipush (v := (127 : Int32)) C dX13_readMove_49 (by decide) ?_
    refine s_callV C R0 (kX13_readPlace (xl X) fu n0 g0 (p1 + (3 : Int32)) (127 : Int32)) (Nat.le_trans (by decide) V) mmX13_readPlace miX13_readPlace q2784 (rc26 (Nat.le_trans (by decide) V)) g0 rfl rfl rfl (Nat.le_of_ble_eq_true rfl) ⟨Nat.le_of_ble_eq_true rfl, Nat.le_of_ble_eq_true rfl, Nat.le_of_ble_eq_true rfl, Nat.le_of_ble_eq_true rfl⟩ dX13_readMove_51 (fun _ μ7 => ?_)
    refine g_st (st' := []) rfl ?_
    exact s_vret C E dX13_readMove_54
  refine s_aload_n C dX13_readMove_0 rfl 0 rfl ?_
  refine s_iload_n C dX13_readMove_1 rfl 1 rfl ?_
  refine s_iconst (v := (1 : Int32)) C dX13_readMove_2 (by decide) ?_
  refine s_iadd C dX13_readMove_3 ?_
  refine s_sipush (v := (311 : Int32)) C dX13_readMove_4 (by decide) ?_
  refine s_callV C R0 (kX13_readPlace (xl X) fu n0 g0 (p1 + (1 : Int32)) (311 : Int32)) (Nat.le_trans (by decide) V) mmX13_readPlace miX13_readPlace q2784 (rc26 (Nat.le_trans (by decide) V)) g0 rfl rfl rfl (Nat.le_of_ble_eq_true rfl) ⟨Nat.le_of_ble_eq_true rfl, Nat.le_of_ble_eq_true rfl, Nat.le_of_ble_eq_true rfl, Nat.le_of_ble_eq_true rfl⟩ dX13_readMove_7 (fun _ μ8 => ?_)
  refine g_st (st' := []) rfl ?_
  refine s_aload_n C dX13_readMove_10 rfl 0 rfl ?_
  refine s_getF C (fgX13_13_26 (Nat.le_trans (by decide) V)) g0 dX13_readMove_11 ?_
  refine s_iload_n C dX13_readMove_14 rfl 1 rfl ?_
  refine s_iconst (v := (2 : Int32)) C dX13_readMove_15 (by decide) ?_
  refine s_iadd C dX13_readMove_16 ?_
  refine s_aload_n C dX13_readMove_17 rfl 0 rfl ?_
  refine s_ldcs (i := 52) C (List.mem_of_getElem? (i := 52) rfl) dX13_readMove_18 ?_
  refine s_callV C R0 (kX13_accept (xl X) fu n0 g0 52 (by decide)) (Nat.le_trans (by decide) V) mmX13_accept miX13_accept q2666 (rc26 (Nat.le_trans (by decide) V)) g0 rfl rfl rfl (Nat.le_of_ble_eq_true rfl) ⟨Nat.le_of_ble_eq_true rfl, Nat.le_of_ble_eq_true rfl, Nat.le_of_ble_eq_true rfl, Nat.le_of_ble_eq_true rfl⟩ dX13_readMove_20 (fun x10 μ9 => ?_)
  refine g_st (st' := [.int x10, .int (p1 + (2 : Int32)), .ref (xa X 27 1)]) rfl ?_
  refine s_if_eq (tgt := 30) C dX13_readMove_23 (by decide) (fun c11 => ?_) (fun c11 => ?_)
  ·
    refine s_aload_n C dX13_readMove_30 rfl 0 rfl ?_
    refine s_ldcs (i := 53) C (List.mem_of_getElem? (i := 53) rfl) dX13_readMove_31 ?_
    refine s_callV C R0 (kX13_accept (xl X) fu n0 g0 53 (by decide)) (Nat.le_trans (by decide) V) mmX13_accept miX13_accept q2666 (rc26 (Nat.le_trans (by decide) V)) g0 rfl rfl rfl (Nat.le_of_ble_eq_true rfl) ⟨Nat.le_of_ble_eq_true rfl, Nat.le_of_ble_eq_true rfl, Nat.le_of_ble_eq_true rfl, Nat.le_of_ble_eq_true rfl⟩ dX13_readMove_33 (fun x13 μ12 => ?_)
    refine g_st (st' := [.int x13, .int (p1 + (2 : Int32)), .ref (xa X 27 1)]) rfl ?_
    refine s_if_eq (tgt := 43) C dX13_readMove_36 (by decide) (fun c14 => ?_) (fun c14 => ?_)
    ·
      refine s_iconst (v := (0 : Int32)) C dX13_readMove_43 (by decide) ?_
      exact g_sub [0, 1] rfl (hj44 μ12 1 (p1 + (2 : Int32)) (0 : Int32) (by decide))
    ·
      refine s_iconst (v := (2 : Int32)) C dX13_readMove_39 (by decide) ?_
      refine s_goto (tgt := 44) C dX13_readMove_40 (by decide) ?_
      exact g_sub [0, 1] rfl (hj44 μ12 1 (p1 + (2 : Int32)) (2 : Int32) (by decide))
  ·
    refine s_iconst (v := (1 : Int32)) C dX13_readMove_26 (by decide) ?_
    refine s_goto (tgt := 44) C dX13_readMove_27 (by decide) ?_
    exact g_sub [0, 1] rfl (hj44 μ9 1 (p1 + (2 : Int32)) (1 : Int32) (by decide))
/-! PinEnginesModel.readAccess(II)V -/
def fX13_readAccess (fu : Nat) (n0 : Nat) (p1 : Int32) (p2 : Int32) (μ : Mem) : Option (Unit × Mem) :=
  jn (fun (μ1 : Mem) =>
    some ((), μ1)
  ) fun j62 =>
  bnd (fX13_readPlace fu n0 (p1 + (1 : Int32)) p2 μ) fun _ μ2 =>
  bnd (fX13_accept fu n0 22 μ2) fun x4 μ3 =>
  if x4 = 0 then (
    bnd (fX13_accept fu n0 23 μ3) fun x7 μ6 =>
    if x7 = 0 then (
      bnd (fX13_putNumber fu n0 (p1 + (2 : Int32)) (0 : Int32) (15 : Int32) μ6) fun _ μ9 =>
      j62 μ9
    ) else (
      ckI (p1 + (2 : Int32)) (if 1 = 4 then 7000 else 700) <|
      nm (wI μ6 27 1 (p1 + (2 : Int32)).toNatClampNeg (17 : Int32)) fun μ10 =>
      j62 μ10
    )
  ) else (
    ckI (p1 + (2 : Int32)) (if 1 = 4 then 7000 else 700) <|
    nm (wI μ3 27 1 (p1 + (2 : Int32)).toNatClampNeg (16 : Int32)) fun μ11 =>
    j62 μ11
  )
set_option maxHeartbeats 4000000 in
set_option maxRecDepth 100000 in
theorem kX13_readAccess (l : Launch) (fu : Nat) (n0 : Nat) (g0 : n0 < 1) (p1 : Int32) (p2 : Int32) : Kon 1 l yX13_readAccess cX13_readAccess 3 (none) 7 153 0 0 (fun ad => [.ref (ad 26 n0), .int p1, .int p2]) rvV (fun μ => fX13_readAccess fu n0 p1 p2 μ) := by
  refine kon_of (by decide) (fun _ => Nat.le_of_ble_eq_true rfl) (fun X r0 μ hXl hXn V C E => ?_)
  have hN : ∀ i : Nat, i < 3 → i < xn X := fun i h => hXn.symm ▸ h
  have R0 := fen_rm E
  show G X r0 0 0 μ 0 [(0, .ref (xa X 26 n0)), (1, .int p1), (2, .int p2)] [] (fX13_readAccess fu n0 p1 p2 μ)
  unfold fX13_readAccess
  refine g_jn (P := fun j62 => ∀ (μ1 : Mem), G X r0 0 0 μ1 62 [] [] (j62 μ1)) ?_ (fun j62 hj62 => ?_)
  · intro μ1
    exact s_vret C E dX13_readAccess_62
  refine s_aload_n C dX13_readAccess_0 rfl 0 rfl ?_
  refine s_iload_n C dX13_readAccess_1 rfl 1 rfl ?_
  refine s_iconst (v := (1 : Int32)) C dX13_readAccess_2 (by decide) ?_
  refine s_iadd C dX13_readAccess_3 ?_
  refine s_iload_n C dX13_readAccess_4 rfl 2 rfl ?_
  refine s_callV C R0 (kX13_readPlace (xl X) fu n0 g0 (p1 + (1 : Int32)) p2) (Nat.le_trans (by decide) V) mmX13_readPlace miX13_readPlace q2784 (rc26 (Nat.le_trans (by decide) V)) g0 rfl rfl rfl (Nat.le_of_ble_eq_true rfl) ⟨Nat.le_of_ble_eq_true rfl, Nat.le_of_ble_eq_true rfl, Nat.le_of_ble_eq_true rfl, Nat.le_of_ble_eq_true rfl⟩ dX13_readAccess_5 (fun _ μ2 => ?_)
  refine g_st (st' := []) rfl ?_
  refine s_aload_n C dX13_readAccess_8 rfl 0 rfl ?_
  refine s_ldcs (i := 22) C (List.mem_of_getElem? (i := 22) rfl) dX13_readAccess_9 ?_
  refine s_callV C R0 (kX13_accept (xl X) fu n0 g0 22 (by decide)) (Nat.le_trans (by decide) V) mmX13_accept miX13_accept q2666 (rc26 (Nat.le_trans (by decide) V)) g0 rfl rfl rfl (Nat.le_of_ble_eq_true rfl) ⟨Nat.le_of_ble_eq_true rfl, Nat.le_of_ble_eq_true rfl, Nat.le_of_ble_eq_true rfl, Nat.le_of_ble_eq_true rfl⟩ dX13_readAccess_11 (fun x4 μ3 => ?_)
  refine g_st (st' := [.int x4]) rfl ?_
  refine s_if_eq (tgt := 30) C dX13_readAccess_14 (by decide) (fun c5 => ?_) (fun c5 => ?_)
  ·
    refine s_aload_n C dX13_readAccess_30 rfl 0 rfl ?_
    refine s_ldcs (i := 23) C (List.mem_of_getElem? (i := 23) rfl) dX13_readAccess_31 ?_
    refine s_callV C R0 (kX13_accept (xl X) fu n0 g0 23 (by decide)) (Nat.le_trans (by decide) V) mmX13_accept miX13_accept q2666 (rc26 (Nat.le_trans (by decide) V)) g0 rfl rfl rfl (Nat.le_of_ble_eq_true rfl) ⟨Nat.le_of_ble_eq_true rfl, Nat.le_of_ble_eq_true rfl, Nat.le_of_ble_eq_true rfl, Nat.le_of_ble_eq_true rfl⟩ dX13_readAccess_33 (fun x7 μ6 => ?_)
    refine g_st (st' := [.int x7]) rfl ?_
    refine s_if_eq (tgt := 52) C dX13_readAccess_36 (by decide) (fun c8 => ?_) (fun c8 => ?_)
    ·
      refine s_aload_n C dX13_readAccess_52 rfl 0 rfl ?_
      refine s_iload_n C dX13_readAccess_53 rfl 1 rfl ?_
      refine s_iconst (v := (2 : Int32)) C dX13_readAccess_54 (by decide) ?_
      refine s_iadd C dX13_readAccess_55 ?_
      refine s_iconst (v := (0 : Int32)) C dX13_readAccess_56 (by decide) ?_
      refine s_bipush (v := (15 : Int32)) C dX13_readAccess_57 (by decide) ?_
      refine s_callV C R0 (kX13_putNumber (xl X) fu n0 g0 (p1 + (2 : Int32)) (0 : Int32) (15 : Int32)) (Nat.le_trans (by decide) V) mmX13_putNumber miX13_putNumber q2728 (rc26 (Nat.le_trans (by decide) V)) g0 rfl rfl rfl (Nat.le_of_ble_eq_true rfl) ⟨Nat.le_of_ble_eq_true rfl, Nat.le_of_ble_eq_true rfl, Nat.le_of_ble_eq_true rfl, Nat.le_of_ble_eq_true rfl⟩ dX13_readAccess_59 (fun _ μ9 => ?_)
      refine g_st (st' := []) rfl ?_
      exact g_sub [] rfl (hj62 μ9)
    ·
      refine s_aload_n C dX13_readAccess_39 rfl 0 rfl ?_
      refine s_getF C (fgX13_13_26 (Nat.le_trans (by decide) V)) g0 dX13_readAccess_40 ?_
      refine s_iload_n C dX13_readAccess_43 rfl 1 rfl ?_
      refine s_iconst (v := (2 : Int32)) C dX13_readAccess_44 (by decide) ?_
      refine s_iadd C dX13_readAccess_45 ?_
      refine s_bipush (v := (17 : Int32)) C dX13_readAccess_46 (by decide) ?_
      refine s_iast C (ag27 (Nat.le_trans (by decide) V)) (by decide) dX13_readAccess_48 ?_
      refine g_nmM (fun μ10 => ?_)
      refine s_goto (tgt := 62) C dX13_readAccess_49 (by decide) ?_
      exact g_sub [] rfl (hj62 μ10)
  ·
    refine s_aload_n C dX13_readAccess_17 rfl 0 rfl ?_
    refine s_getF C (fgX13_13_26 (Nat.le_trans (by decide) V)) g0 dX13_readAccess_18 ?_
    refine s_iload_n C dX13_readAccess_21 rfl 1 rfl ?_
    refine s_iconst (v := (2 : Int32)) C dX13_readAccess_22 (by decide) ?_
    refine s_iadd C dX13_readAccess_23 ?_
    refine s_bipush (v := (16 : Int32)) C dX13_readAccess_24 (by decide) ?_
    refine s_iast C (ag27 (Nat.le_trans (by decide) V)) (by decide) dX13_readAccess_26 ?_
    refine g_nmM (fun μ11 => ?_)
    refine s_goto (tgt := 62) C dX13_readAccess_27 (by decide) ?_
    exact g_sub [] rfl (hj62 μ11)
/-! PinEnginesModel.readQueueing(ILjava/lang/String;)V -/
def fX13_readQueueing (fu : Nat) (n0 : Nat) (p1 : Int32) (n2 : Nat) (μ : Mem) : Option (Unit × Mem) :=
  jn (fun (μ1 : Mem) (a2 : Nat) (x4 : Int32) (x5 : Int32) =>
    jn (fun (μ6 : Mem) (a7 : Nat) (x9 : Int32) (x10 : Int32) =>
      ckI x9 (if a7 = 4 then 7000 else 700) <|
      nm (wI μ6 27 a7 x9.toNatClampNeg x10) fun μ11 =>
      some ((), μ11)
    ) fun j42 =>
    ckI x4 (if a2 = 4 then 7000 else 700) <|
    nm (wI μ1 27 a2 x4.toNatClampNeg x5) fun μ12 =>
    bnd (fX13_accept fu n0 50 μ12) fun x14 μ13 =>
    if x14 = 0 then (
      j42 μ13 1 (p1 + (2 : Int32)) (0 : Int32)
    ) else (
      j42 μ13 1 (p1 + (2 : Int32)) (1 : Int32)
    )
  ) fun j20 =>
  bnd (fX13_accept fu n0 n2 μ) fun x17 μ16 =>
  if x17 = 0 then (
    j20 μ16 1 (p1 + (1 : Int32)) (0 : Int32)
  ) else (
    j20 μ16 1 (p1 + (1 : Int32)) (1 : Int32)
  )
set_option maxHeartbeats 4000000 in
set_option maxRecDepth 100000 in
theorem kX13_readQueueing (l : Launch) (fu : Nat) (n0 : Nat) (g0 : n0 < 1) (p1 : Int32) (n2 : Nat) (g2 : n2 < 70) : Kon 1 l yX13_readQueueing cX13_readQueueing 3 (none) 6 130 0 0 (fun ad => [.ref (ad 26 n0), .int p1, .ref (ad 51 n2)]) rvV (fun μ => fX13_readQueueing fu n0 p1 n2 μ) := by
  refine kon_of (by decide) (fun _ => Nat.le_of_ble_eq_true rfl) (fun X r0 μ hXl hXn V C E => ?_)
  have hN : ∀ i : Nat, i < 3 → i < xn X := fun i h => hXn.symm ▸ h
  have R0 := fen_rm E
  show G X r0 0 0 μ 0 [(0, .ref (xa X 26 n0)), (1, .int p1), (2, .ref (xa X 51 n2))] [] (fX13_readQueueing fu n0 p1 n2 μ)
  unfold fX13_readQueueing
  refine g_jn (P := fun j20 => ∀ (μ1 : Mem) (a2 : Nat) (x4 : Int32) (x5 : Int32), a2 < 5 → G X r0 0 0 μ1 20 [(0, .ref (xa X 26 n0)), (1, .int p1)] [.int x5, .int x4, .ref (xa X 27 a2)] (j20 μ1 a2 x4 x5)) ?_ (fun j20 hj20 => ?_)
  · intro μ1 a2 x4 x5 b3
    refine g_jn (P := fun j42 => ∀ (μ6 : Mem) (a7 : Nat) (x9 : Int32) (x10 : Int32), a7 < 5 → G X r0 0 0 μ6 42 [] [.int x10, .int x9, .ref (xa X 27 a7)] (j42 μ6 a7 x9 x10)) ?_ (fun j42 hj42 => ?_)
    · intro μ6 a7 x9 x10 b8
      refine s_iast C (ag27 (Nat.le_trans (by decide) V)) b8 dX13_readQueueing_42 ?_
      refine g_nmM (fun μ11 => ?_)
      exact s_vret C E dX13_readQueueing_43
    refine s_iast C (ag27 (Nat.le_trans (by decide) V)) b3 dX13_readQueueing_20 ?_
    refine g_nmM (fun μ12 => ?_)
    refine s_aload_n C dX13_readQueueing_21 rfl 0 rfl ?_
    refine s_getF C (fgX13_13_26 (Nat.le_trans (by decide) V)) g0 dX13_readQueueing_22 ?_
    refine s_iload_n C dX13_readQueueing_25 rfl 1 rfl ?_
    refine s_iconst (v := (2 : Int32)) C dX13_readQueueing_26 (by decide) ?_
    refine s_iadd C dX13_readQueueing_27 ?_
    refine s_aload_n C dX13_readQueueing_28 rfl 0 rfl ?_
    refine s_ldcs (i := 50) C (List.mem_of_getElem? (i := 50) rfl) dX13_readQueueing_29 ?_
    refine s_callV C R0 (kX13_accept (xl X) fu n0 g0 50 (by decide)) (Nat.le_trans (by decide) V) mmX13_accept miX13_accept q2666 (rc26 (Nat.le_trans (by decide) V)) g0 rfl rfl rfl (Nat.le_of_ble_eq_true rfl) ⟨Nat.le_of_ble_eq_true rfl, Nat.le_of_ble_eq_true rfl, Nat.le_of_ble_eq_true rfl, Nat.le_of_ble_eq_true rfl⟩ dX13_readQueueing_31 (fun x14 μ13 => ?_)
    refine g_st (st' := [.int x14, .int (p1 + (2 : Int32)), .ref (xa X 27 1)]) rfl ?_
    refine s_if_eq (tgt := 41) C dX13_readQueueing_34 (by decide) (fun c15 => ?_) (fun c15 => ?_)
    ·
      refine s_iconst (v := (0 : Int32)) C dX13_readQueueing_41 (by decide) ?_
      exact g_sub [] rfl (hj42 μ13 1 (p1 + (2 : Int32)) (0 : Int32) (by decide))
    ·
      refine s_iconst (v := (1 : Int32)) C dX13_readQueueing_37 (by decide) ?_
      refine s_goto (tgt := 42) C dX13_readQueueing_38 (by decide) ?_
      exact g_sub [] rfl (hj42 μ13 1 (p1 + (2 : Int32)) (1 : Int32) (by decide))
  refine s_aload_n C dX13_readQueueing_0 rfl 0 rfl ?_
  refine s_getF C (fgX13_13_26 (Nat.le_trans (by decide) V)) g0 dX13_readQueueing_1 ?_
  refine s_iload_n C dX13_readQueueing_4 rfl 1 rfl ?_
  refine s_iconst (v := (1 : Int32)) C dX13_readQueueing_5 (by decide) ?_
  refine s_iadd C dX13_readQueueing_6 ?_
  refine s_aload_n C dX13_readQueueing_7 rfl 0 rfl ?_
  refine s_aload_n C dX13_readQueueing_8 rfl 2 rfl ?_
  refine s_callV C R0 (kX13_accept (xl X) fu n0 g0 n2 g2) (Nat.le_trans (by decide) V) mmX13_accept miX13_accept q2666 (rc26 (Nat.le_trans (by decide) V)) g0 rfl rfl rfl (Nat.le_of_ble_eq_true rfl) ⟨Nat.le_of_ble_eq_true rfl, Nat.le_of_ble_eq_true rfl, Nat.le_of_ble_eq_true rfl, Nat.le_of_ble_eq_true rfl⟩ dX13_readQueueing_9 (fun x17 μ16 => ?_)
  refine g_st (st' := [.int x17, .int (p1 + (1 : Int32)), .ref (xa X 27 1)]) rfl ?_
  refine s_if_eq (tgt := 19) C dX13_readQueueing_12 (by decide) (fun c18 => ?_) (fun c18 => ?_)
  ·
    refine s_iconst (v := (0 : Int32)) C dX13_readQueueing_19 (by decide) ?_
    exact g_sub [0, 1] rfl (hj20 μ16 1 (p1 + (1 : Int32)) (0 : Int32) (by decide))
  ·
    refine s_iconst (v := (1 : Int32)) C dX13_readQueueing_15 (by decide) ?_
    refine s_goto (tgt := 20) C dX13_readQueueing_16 (by decide) ?_
    exact g_sub [0, 1] rfl (hj20 μ16 1 (p1 + (1 : Int32)) (1 : Int32) (by decide))
/-! PinEnginesModel.readOperands(II)V -/
def fX13_readOperands (fu : Nat) (n0 : Nat) (p1 : Int32) (p2 : Int32) (μ : Mem) : Option (Unit × Mem) :=
  jn (fun (μ1 : Mem) =>
    some ((), μ1)
  ) fun j198 =>
  jn (fun (μ2 : Mem) =>
    jn (fun (μ3 : Mem) (a4 : Nat) (x6 : Int32) (x7 : Int32) =>
      bnd (fX13_readPlace fu a4 x6 x7 μ3) fun _ μ8 =>
      bnd (fX13_putNumber fu n0 (p1 + (2 : Int32)) (1 : Int32) (32 : Int32) μ8) fun _ μ9 =>
      j198 μ9
    ) fun j101 =>
    if ¬ p2 = (2 : Int32) then (
      j101 μ2 n0 (p1 + (1 : Int32)) (415 : Int32)
    ) else (
      j101 μ2 n0 (p1 + (1 : Int32)) (63 : Int32)
    )
  ) fun j84 =>
  jn (fun (μ11 : Mem) =>
    bnd (fX13_putNumber fu n0 (p1 + (1 : Int32)) (0 : Int32) (7 : Int32) μ11) fun _ μ12 =>
    j198 μ12
  ) fun j188 =>
  if p2 = (0 : Int32) then (
    bnd (fX13_readJump fu n0 p1 μ) fun _ μ14 =>
    j198 μ14
  ) else (
  if p2 = (1 : Int32) then (
    bnd (fX13_readWait fu n0 p1 μ) fun _ μ16 =>
    j198 μ16
  ) else (
  if p2 = (2 : Int32) then (
    j84 μ
  ) else (
  if p2 = (3 : Int32) then (
    j84 μ
  ) else (
  if p2 = (4 : Int32) then (
    bnd (fX13_readQueueing fu n0 p1 49 μ) fun _ μ20 =>
    j198 μ20
  ) else (
  if p2 = (5 : Int32) then (
    bnd (fX13_readQueueing fu n0 p1 51 μ) fun _ μ22 =>
    j198 μ22
  ) else (
  if p2 = (6 : Int32) then (
    bnd (fX13_readMove fu n0 p1 μ) fun _ μ24 =>
    j198 μ24
  ) else (
  if p2 = (7 : Int32) then (
    j188 μ
  ) else (
  if p2 = (8 : Int32) then (
    j188 μ
  ) else (
  if p2 = (9 : Int32) then (
    j188 μ
  ) else (
  if p2 = (10 : Int32) then (
    bnd (fX13_readPlace fu n0 (p1 + (1 : Int32)) (135 : Int32) μ) fun _ μ29 =>
    bnd (fX13_putNumber fu n0 (p1 + (2 : Int32)) (0 : Int32) (31 : Int32) μ29) fun _ μ30 =>
    j198 μ30
  ) else (
  if p2 = (11 : Int32) then (
    bnd (fX13_readAccess fu n0 p1 (38 : Int32) μ) fun _ μ32 =>
    j198 μ32
  ) else (
  if p2 = (12 : Int32) then (
    bnd (fX13_readAccess fu n0 p1 (22 : Int32) μ) fun _ μ34 =>
    j198 μ34
  ) else (
  j188 μ
  )))))))))))))
set_option maxHeartbeats 4000000 in
set_option maxRecDepth 100000 in
theorem kX13_readOperands (l : Launch) (fu : Nat) (n0 : Nat) (g0 : n0 < 1) (p1 : Int32) (p2 : Int32) : Kon 1 l yX13_readOperands cX13_readOperands 3 (none) 9 193 0 0 (fun ad => [.ref (ad 26 n0), .int p1, .int p2]) rvV (fun μ => fX13_readOperands fu n0 p1 p2 μ) := by
  refine kon_of (by decide) (fun _ => Nat.le_of_ble_eq_true rfl) (fun X r0 μ hXl hXn V C E => ?_)
  have hN : ∀ i : Nat, i < 3 → i < xn X := fun i h => hXn.symm ▸ h
  have R0 := fen_rm E
  show G X r0 0 0 μ 0 [(0, .ref (xa X 26 n0)), (1, .int p1), (2, .int p2)] [] (fX13_readOperands fu n0 p1 p2 μ)
  unfold fX13_readOperands
  refine g_jn (P := fun j198 => ∀ (μ1 : Mem), G X r0 0 0 μ1 198 [] [] (j198 μ1)) ?_ (fun j198 hj198 => ?_)
  · intro μ1
    exact s_vret C E dX13_readOperands_198
  refine g_jn (P := fun j84 => ∀ (μ2 : Mem), G X r0 0 0 μ2 84 [(0, .ref (xa X 26 n0)), (1, .int p1), (2, .int p2)] [] (j84 μ2)) ?_ (fun j84 hj84 => ?_)
  · intro μ2
    refine g_jn (P := fun j101 => ∀ (μ3 : Mem) (a4 : Nat) (x6 : Int32) (x7 : Int32), a4 < 1 → G X r0 0 0 μ3 101 [(0, .ref (xa X 26 n0)), (1, .int p1)] [.int x7, .int x6, .ref (xa X 26 a4)] (j101 μ3 a4 x6 x7)) ?_ (fun j101 hj101 => ?_)
    · intro μ3 a4 x6 x7 b5
      refine s_callV C R0 (kX13_readPlace (xl X) fu a4 b5 x6 x7) (Nat.le_trans (by decide) V) mmX13_readPlace miX13_readPlace q2784 (rc26 (Nat.le_trans (by decide) V)) b5 rfl rfl rfl (Nat.le_of_ble_eq_true rfl) ⟨Nat.le_of_ble_eq_true rfl, Nat.le_of_ble_eq_true rfl, Nat.le_of_ble_eq_true rfl, Nat.le_of_ble_eq_true rfl⟩ dX13_readOperands_101 (fun _ μ8 => ?_)
      refine g_st (st' := []) rfl ?_
      refine s_aload_n C dX13_readOperands_104 rfl 0 rfl ?_
      refine s_iload_n C dX13_readOperands_105 rfl 1 rfl ?_
      refine s_iconst (v := (2 : Int32)) C dX13_readOperands_106 (by decide) ?_
      refine s_iadd C dX13_readOperands_107 ?_
      refine s_iconst (v := (1 : Int32)) C dX13_readOperands_108 (by decide) ?_
      refine s_bipush (v := (32 : Int32)) C dX13_readOperands_109 (by decide) ?_
      refine s_callV C R0 (kX13_putNumber (xl X) fu n0 g0 (p1 + (2 : Int32)) (1 : Int32) (32 : Int32)) (Nat.le_trans (by decide) V) mmX13_putNumber miX13_putNumber q2728 (rc26 (Nat.le_trans (by decide) V)) g0 rfl rfl rfl (Nat.le_of_ble_eq_true rfl) ⟨Nat.le_of_ble_eq_true rfl, Nat.le_of_ble_eq_true rfl, Nat.le_of_ble_eq_true rfl, Nat.le_of_ble_eq_true rfl⟩ dX13_readOperands_111 (fun _ μ9 => ?_)
      refine g_st (st' := []) rfl ?_
      refine s_goto (tgt := 198) C dX13_readOperands_114 (by decide) ?_
      exact g_sub [] rfl (hj198 μ9)
    refine s_aload_n C dX13_readOperands_84 rfl 0 rfl ?_
    refine s_iload_n C dX13_readOperands_85 rfl 1 rfl ?_
    refine s_iconst (v := (1 : Int32)) C dX13_readOperands_86 (by decide) ?_
    refine s_iadd C dX13_readOperands_87 ?_
    refine s_iload_n C dX13_readOperands_88 rfl 2 rfl ?_
    refine s_iconst (v := (2 : Int32)) C dX13_readOperands_89 (by decide) ?_
    refine s_icmp_ne (tgt := 98) C dX13_readOperands_90 (by decide) (fun c10 => ?_) (fun c10 => ?_)
    ·
      refine s_sipush (v := (415 : Int32)) C dX13_readOperands_98 (by decide) ?_
      exact g_sub [0, 1] rfl (hj101 μ2 n0 (p1 + (1 : Int32)) (415 : Int32) g0)
    ·
      refine s_bipush (v := (63 : Int32)) C dX13_readOperands_93 (by decide) ?_
      refine s_goto (tgt := 101) C dX13_readOperands_95 (by decide) ?_
      exact g_sub [0, 1] rfl (hj101 μ2 n0 (p1 + (1 : Int32)) (63 : Int32) g0)
  refine g_jn (P := fun j188 => ∀ (μ11 : Mem), G X r0 0 0 μ11 188 [(0, .ref (xa X 26 n0)), (1, .int p1)] [] (j188 μ11)) ?_ (fun j188 hj188 => ?_)
  · intro μ11
    refine s_aload_n C dX13_readOperands_188 rfl 0 rfl ?_
    refine s_iload_n C dX13_readOperands_189 rfl 1 rfl ?_
    refine s_iconst (v := (1 : Int32)) C dX13_readOperands_190 (by decide) ?_
    refine s_iadd C dX13_readOperands_191 ?_
    refine s_iconst (v := (0 : Int32)) C dX13_readOperands_192 (by decide) ?_
    refine s_bipush (v := (7 : Int32)) C dX13_readOperands_193 (by decide) ?_
    refine s_callV C R0 (kX13_putNumber (xl X) fu n0 g0 (p1 + (1 : Int32)) (0 : Int32) (7 : Int32)) (Nat.le_trans (by decide) V) mmX13_putNumber miX13_putNumber q2728 (rc26 (Nat.le_trans (by decide) V)) g0 rfl rfl rfl (Nat.le_of_ble_eq_true rfl) ⟨Nat.le_of_ble_eq_true rfl, Nat.le_of_ble_eq_true rfl, Nat.le_of_ble_eq_true rfl, Nat.le_of_ble_eq_true rfl⟩ dX13_readOperands_195 (fun _ μ12 => ?_)
    refine g_st (st' := []) rfl ?_
    exact g_sub [] rfl (hj198 μ12)
  refine s_iload_n C dX13_readOperands_0 rfl 2 rfl ?_
  refine g_cases (v := (0 : Int32)) (fun c13 => ?_) (fun c13 => ?_)
  ·
    refine s_tin (tgt := 68) C dX13_readOperands_1 c13 (by decide) (by decide) rfl (by decide) ?_
    refine s_aload_n C dX13_readOperands_68 rfl 0 rfl ?_
    refine s_iload_n C dX13_readOperands_69 rfl 1 rfl ?_
    refine s_callV C R0 (kX13_readJump (xl X) fu n0 g0 p1) (Nat.le_trans (by decide) V) mmX13_readJump miX13_readJump q2776 (rc26 (Nat.le_trans (by decide) V)) g0 rfl rfl rfl (Nat.le_of_ble_eq_true rfl) ⟨Nat.le_of_ble_eq_true rfl, Nat.le_of_ble_eq_true rfl, Nat.le_of_ble_eq_true rfl, Nat.le_of_ble_eq_true rfl⟩ dX13_readOperands_70 (fun _ μ14 => ?_)
    refine g_st (st' := []) rfl ?_
    refine s_goto (tgt := 198) C dX13_readOperands_73 (by decide) ?_
    exact g_sub [] rfl (hj198 μ14)
  ·
    refine g_cases (v := (1 : Int32)) (fun c15 => ?_) (fun c15 => ?_)
    ·
      refine s_tin (tgt := 76) C dX13_readOperands_1 c15 (by decide) (by decide) rfl (by decide) ?_
      refine s_aload_n C dX13_readOperands_76 rfl 0 rfl ?_
      refine s_iload_n C dX13_readOperands_77 rfl 1 rfl ?_
      refine s_callV C R0 (kX13_readWait (xl X) fu n0 g0 p1) (Nat.le_trans (by decide) V) mmX13_readWait miX13_readWait q2780 (rc26 (Nat.le_trans (by decide) V)) g0 rfl rfl rfl (Nat.le_of_ble_eq_true rfl) ⟨Nat.le_of_ble_eq_true rfl, Nat.le_of_ble_eq_true rfl, Nat.le_of_ble_eq_true rfl, Nat.le_of_ble_eq_true rfl⟩ dX13_readOperands_78 (fun _ μ16 => ?_)
      refine g_st (st' := []) rfl ?_
      refine s_goto (tgt := 198) C dX13_readOperands_81 (by decide) ?_
      exact g_sub [] rfl (hj198 μ16)
    ·
      refine g_cases (v := (2 : Int32)) (fun c17 => ?_) (fun c17 => ?_)
      ·
        refine s_tin (tgt := 84) C dX13_readOperands_1 c17 (by decide) (by decide) rfl (by decide) ?_
        exact g_sub [0, 1, 2] rfl (hj84 μ)
      ·
        refine g_cases (v := (3 : Int32)) (fun c18 => ?_) (fun c18 => ?_)
        ·
          refine s_tin (tgt := 84) C dX13_readOperands_1 c18 (by decide) (by decide) rfl (by decide) ?_
          exact g_sub [0, 1, 2] rfl (hj84 μ)
        ·
          refine g_cases (v := (4 : Int32)) (fun c19 => ?_) (fun c19 => ?_)
          ·
            refine s_tin (tgt := 117) C dX13_readOperands_1 c19 (by decide) (by decide) rfl (by decide) ?_
            refine s_aload_n C dX13_readOperands_117 rfl 0 rfl ?_
            refine s_iload_n C dX13_readOperands_118 rfl 1 rfl ?_
            refine s_ldcs (i := 49) C (List.mem_of_getElem? (i := 49) rfl) dX13_readOperands_119 ?_
            refine s_callV C R0 (kX13_readQueueing (xl X) fu n0 g0 p1 49 (by decide)) (Nat.le_trans (by decide) V) mmX13_readQueueing miX13_readQueueing q2788 (rc26 (Nat.le_trans (by decide) V)) g0 rfl rfl rfl (Nat.le_of_ble_eq_true rfl) ⟨Nat.le_of_ble_eq_true rfl, Nat.le_of_ble_eq_true rfl, Nat.le_of_ble_eq_true rfl, Nat.le_of_ble_eq_true rfl⟩ dX13_readOperands_121 (fun _ μ20 => ?_)
            refine g_st (st' := []) rfl ?_
            refine s_goto (tgt := 198) C dX13_readOperands_124 (by decide) ?_
            exact g_sub [] rfl (hj198 μ20)
          ·
            refine g_cases (v := (5 : Int32)) (fun c21 => ?_) (fun c21 => ?_)
            ·
              refine s_tin (tgt := 127) C dX13_readOperands_1 c21 (by decide) (by decide) rfl (by decide) ?_
              refine s_aload_n C dX13_readOperands_127 rfl 0 rfl ?_
              refine s_iload_n C dX13_readOperands_128 rfl 1 rfl ?_
              refine s_ldcs (i := 51) C (List.mem_of_getElem? (i := 51) rfl) dX13_readOperands_129 ?_
              refine s_callV C R0 (kX13_readQueueing (xl X) fu n0 g0 p1 51 (by decide)) (Nat.le_trans (by decide) V) mmX13_readQueueing miX13_readQueueing q2788 (rc26 (Nat.le_trans (by decide) V)) g0 rfl rfl rfl (Nat.le_of_ble_eq_true rfl) ⟨Nat.le_of_ble_eq_true rfl, Nat.le_of_ble_eq_true rfl, Nat.le_of_ble_eq_true rfl, Nat.le_of_ble_eq_true rfl⟩ dX13_readOperands_131 (fun _ μ22 => ?_)
              refine g_st (st' := []) rfl ?_
              refine s_goto (tgt := 198) C dX13_readOperands_134 (by decide) ?_
              exact g_sub [] rfl (hj198 μ22)
            ·
              refine g_cases (v := (6 : Int32)) (fun c23 => ?_) (fun c23 => ?_)
              ·
                refine s_tin (tgt := 137) C dX13_readOperands_1 c23 (by decide) (by decide) rfl (by decide) ?_
                refine s_aload_n C dX13_readOperands_137 rfl 0 rfl ?_
                refine s_iload_n C dX13_readOperands_138 rfl 1 rfl ?_
                refine s_callV C R0 (kX13_readMove (xl X) fu n0 g0 p1) (Nat.le_trans (by decide) V) mmX13_readMove miX13_readMove q2792 (rc26 (Nat.le_trans (by decide) V)) g0 rfl rfl rfl (Nat.le_of_ble_eq_true rfl) ⟨Nat.le_of_ble_eq_true rfl, Nat.le_of_ble_eq_true rfl, Nat.le_of_ble_eq_true rfl, Nat.le_of_ble_eq_true rfl⟩ dX13_readOperands_139 (fun _ μ24 => ?_)
                refine g_st (st' := []) rfl ?_
                refine s_goto (tgt := 198) C dX13_readOperands_142 (by decide) ?_
                exact g_sub [] rfl (hj198 μ24)
              ·
                refine g_cases (v := (7 : Int32)) (fun c25 => ?_) (fun c25 => ?_)
                ·
                  refine s_tin (tgt := 188) C dX13_readOperands_1 c25 (by decide) (by decide) rfl (by decide) ?_
                  exact g_sub [0, 1] rfl (hj188 μ)
                ·
                  refine g_cases (v := (8 : Int32)) (fun c26 => ?_) (fun c26 => ?_)
                  ·
                    refine s_tin (tgt := 188) C dX13_readOperands_1 c26 (by decide) (by decide) rfl (by decide) ?_
                    exact g_sub [0, 1] rfl (hj188 μ)
                  ·
                    refine g_cases (v := (9 : Int32)) (fun c27 => ?_) (fun c27 => ?_)
                    ·
                      refine s_tin (tgt := 188) C dX13_readOperands_1 c27 (by decide) (by decide) rfl (by decide) ?_
                      exact g_sub [0, 1] rfl (hj188 μ)
                    ·
                      refine g_cases (v := (10 : Int32)) (fun c28 => ?_) (fun c28 => ?_)
                      ·
                        refine s_tin (tgt := 145) C dX13_readOperands_1 c28 (by decide) (by decide) rfl (by decide) ?_
                        refine s_aload_n C dX13_readOperands_145 rfl 0 rfl ?_
                        refine s_iload_n C dX13_readOperands_146 rfl 1 rfl ?_
                        refine s_iconst (v := (1 : Int32)) C dX13_readOperands_147 (by decide) ?_
                        refine s_iadd C dX13_readOperands_148 ?_
                        refine s_sipush (v := (135 : Int32)) C dX13_readOperands_149 (by decide) ?_
                        refine s_callV C R0 (kX13_readPlace (xl X) fu n0 g0 (p1 + (1 : Int32)) (135 : Int32)) (Nat.le_trans (by decide) V) mmX13_readPlace miX13_readPlace q2784 (rc26 (Nat.le_trans (by decide) V)) g0 rfl rfl rfl (Nat.le_of_ble_eq_true rfl) ⟨Nat.le_of_ble_eq_true rfl, Nat.le_of_ble_eq_true rfl, Nat.le_of_ble_eq_true rfl, Nat.le_of_ble_eq_true rfl⟩ dX13_readOperands_152 (fun _ μ29 => ?_)
                        refine g_st (st' := []) rfl ?_
                        refine s_aload_n C dX13_readOperands_155 rfl 0 rfl ?_
                        refine s_iload_n C dX13_readOperands_156 rfl 1 rfl ?_
                        refine s_iconst (v := (2 : Int32)) C dX13_readOperands_157 (by decide) ?_
                        refine s_iadd C dX13_readOperands_158 ?_
                        refine s_iconst (v := (0 : Int32)) C dX13_readOperands_159 (by decide) ?_
                        refine s_bipush (v := (31 : Int32)) C dX13_readOperands_160 (by decide) ?_
                        refine s_callV C R0 (kX13_putNumber (xl X) fu n0 g0 (p1 + (2 : Int32)) (0 : Int32) (31 : Int32)) (Nat.le_trans (by decide) V) mmX13_putNumber miX13_putNumber q2728 (rc26 (Nat.le_trans (by decide) V)) g0 rfl rfl rfl (Nat.le_of_ble_eq_true rfl) ⟨Nat.le_of_ble_eq_true rfl, Nat.le_of_ble_eq_true rfl, Nat.le_of_ble_eq_true rfl, Nat.le_of_ble_eq_true rfl⟩ dX13_readOperands_162 (fun _ μ30 => ?_)
                        refine g_st (st' := []) rfl ?_
                        refine s_goto (tgt := 198) C dX13_readOperands_165 (by decide) ?_
                        exact g_sub [] rfl (hj198 μ30)
                      ·
                        refine g_cases (v := (11 : Int32)) (fun c31 => ?_) (fun c31 => ?_)
                        ·
                          refine s_tin (tgt := 168) C dX13_readOperands_1 c31 (by decide) (by decide) rfl (by decide) ?_
                          refine s_aload_n C dX13_readOperands_168 rfl 0 rfl ?_
                          refine s_iload_n C dX13_readOperands_169 rfl 1 rfl ?_
                          refine s_bipush (v := (38 : Int32)) C dX13_readOperands_170 (by decide) ?_
                          refine s_callV C R0 (kX13_readAccess (xl X) fu n0 g0 p1 (38 : Int32)) (Nat.le_trans (by decide) V) mmX13_readAccess miX13_readAccess q2796 (rc26 (Nat.le_trans (by decide) V)) g0 rfl rfl rfl (Nat.le_of_ble_eq_true rfl) ⟨Nat.le_of_ble_eq_true rfl, Nat.le_of_ble_eq_true rfl, Nat.le_of_ble_eq_true rfl, Nat.le_of_ble_eq_true rfl⟩ dX13_readOperands_172 (fun _ μ32 => ?_)
                          refine g_st (st' := []) rfl ?_
                          refine s_goto (tgt := 198) C dX13_readOperands_175 (by decide) ?_
                          exact g_sub [] rfl (hj198 μ32)
                        ·
                          refine g_cases (v := (12 : Int32)) (fun c33 => ?_) (fun c33 => ?_)
                          ·
                            refine s_tin (tgt := 178) C dX13_readOperands_1 c33 (by decide) (by decide) rfl (by decide) ?_
                            refine s_aload_n C dX13_readOperands_178 rfl 0 rfl ?_
                            refine s_iload_n C dX13_readOperands_179 rfl 1 rfl ?_
                            refine s_bipush (v := (22 : Int32)) C dX13_readOperands_180 (by decide) ?_
                            refine s_callV C R0 (kX13_readAccess (xl X) fu n0 g0 p1 (22 : Int32)) (Nat.le_trans (by decide) V) mmX13_readAccess miX13_readAccess q2796 (rc26 (Nat.le_trans (by decide) V)) g0 rfl rfl rfl (Nat.le_of_ble_eq_true rfl) ⟨Nat.le_of_ble_eq_true rfl, Nat.le_of_ble_eq_true rfl, Nat.le_of_ble_eq_true rfl, Nat.le_of_ble_eq_true rfl⟩ dX13_readOperands_182 (fun _ μ34 => ?_)
                            refine g_st (st' := []) rfl ?_
                            refine s_goto (tgt := 198) C dX13_readOperands_185 (by decide) ?_
                            exact g_sub [] rfl (hj198 μ34)
                          ·
                            refine s_tout (tgt := 188) C dX13_readOperands_1 (by have := ine (i := 0) (by decide) c13; have := ine (i := 1) (by decide) c15; have := ine (i := 2) (by decide) c17; have := ine (i := 3) (by decide) c18; have := ine (i := 4) (by decide) c19; have := ine (i := 5) (by decide) c21; have := ine (i := 6) (by decide) c23; have := ine (i := 7) (by decide) c25; have := ine (i := 8) (by decide) c26; have := ine (i := 9) (by decide) c27; have := ine (i := 10) (by decide) c28; have := ine (i := 11) (by decide) c31; have := ine (i := 12) (by decide) c33; omega) (by decide) ?_
                            exact g_sub [0, 1] rfl (hj188 μ)
/-! PinEnginesModel.readLabel()V -/
def fX13_readLabel (fu : Nat) (n0 : Nat) (μ : Mem) : Option (Unit × Mem) :=
  jn (fun (μ1 : Mem) (x2 : Int32) (x3 : Int32) (x4 : Int32) =>
    jn (fun (μ5 : Mem) (x6 : Int32) =>
      jn (fun (μ7 : Mem) =>
        some ((), μ7)
      ) fun j88 =>
      if (32 : Int32) ≤ x2 then (
        j88 μ5
      ) else (
        ckI x2 (mil.getD 8 0) <|
        nm (wI μ5 28 8 x2.toNatClampNeg x3) fun μ9 =>
        ckI x2 (mil.getD 9 0) <|
        nm (wI μ9 28 9 x2.toNatClampNeg x6) fun μ10 =>
        j88 μ10
      )
    ) fun j68 =>
    if x4 ≤ 0 then (
      j68 μ1 x4
    ) else (
      jn (fun (μ12 : Mem) (a13 : Nat) (x15 : Int32) =>
        bnd (fX13_check a13 x15 (4 : Int32) μ12) fun _ μ16 =>
        bnd (fX13_advance fu n0 μ16) fun _ μ17 =>
        bnd (fX13_expect fu n0 (58 : Int32) μ17) fun _ μ18 =>
        j68 μ18 x4
      ) fun j54 =>
      bnd (fX13_labelled fu n0 x3 x4 x2 μ1) fun x20 μ19 =>
      if ¬ x20 = (-1 : Int32) then (
        j54 μ19 n0 (0 : Int32)
      ) else (
        j54 μ19 n0 (1 : Int32)
      )
    )
  ) fun j32 =>
  ckI (0 : Int32) (if 1 = 4 then 7000 else 700) <|
  nm ((μ.1 27 1 (0 : Int32).toNatClampNeg)) fun x22 =>
  nm ((μ.1 26 n0 24)) fun x23 =>
  bnd (fX13_isName fu n0 μ) fun x25 μ24 =>
  if x25 = 0 then (
    j32 μ24 x22 x23 (0 : Int32)
  ) else (
    j32 μ24 x22 x23 ((μ24.1 26 n0 23) - (μ24.1 26 n0 24))
  )
set_option maxHeartbeats 4000000 in
set_option maxRecDepth 100000 in
theorem kX13_readLabel (l : Launch) (fu : Nat) (n0 : Nat) (g0 : n0 < 1) : Kon 1 l yX13_readLabel cX13_readLabel 4 (none) 7 150 0 0 (fun ad => [.ref (ad 26 n0)]) rvV (fun μ => fX13_readLabel fu n0 μ) := by
  refine kon_of (by decide) (fun _ => Nat.le_of_ble_eq_true rfl) (fun X r0 μ hXl hXn V C E => ?_)
  have hN : ∀ i : Nat, i < 4 → i < xn X := fun i h => hXn.symm ▸ h
  have R0 := fen_rm E
  show G X r0 0 0 μ 0 [(0, .ref (xa X 26 n0))] [] (fX13_readLabel fu n0 μ)
  unfold fX13_readLabel
  refine g_jn (P := fun j32 => ∀ (μ1 : Mem) (x2 : Int32) (x3 : Int32) (x4 : Int32), G X r0 0 0 μ1 32 [(0, .ref (xa X 26 n0)), (1, .int x2), (2, .int x3)] [.int x4] (j32 μ1 x2 x3 x4)) ?_ (fun j32 hj32 => ?_)
  · intro μ1 x2 x3 x4
    refine g_jn (P := fun j68 => ∀ (μ5 : Mem) (x6 : Int32), G X r0 0 0 μ5 68 [(0, .ref (xa X 26 n0)), (1, .int x2), (2, .int x3), (3, .int x6)] [] (j68 μ5 x6)) ?_ (fun j68 hj68 => ?_)
    · intro μ5 x6
      refine g_jn (P := fun j88 => ∀ (μ7 : Mem), G X r0 0 0 μ7 88 [] [] (j88 μ7)) ?_ (fun j88 hj88 => ?_)
      · intro μ7
        exact s_vret C E dX13_readLabel_88
      refine s_iload_n C dX13_readLabel_68 rfl 1 rfl ?_
      refine s_bipush (v := (32 : Int32)) C dX13_readLabel_69 (by decide) ?_
      refine s_icmp_ge (tgt := 88) C dX13_readLabel_71 (by decide) (fun c8 => ?_) (fun c8 => ?_)
      ·
        exact g_sub [] rfl (hj88 μ5)
      ·
        refine s_aload_n C dX13_readLabel_74 rfl 0 rfl ?_
        refine s_getF C (fgX13_198_26 (Nat.le_trans (by decide) V)) g0 dX13_readLabel_75 ?_
        refine s_iload_n C dX13_readLabel_78 rfl 1 rfl ?_
        refine s_iload_n C dX13_readLabel_79 rfl 2 rfl ?_
        refine s_iast C (ag28 (Nat.le_trans (by decide) V)) (by decide) dX13_readLabel_80 ?_
        refine g_nmM (fun μ9 => ?_)
        refine s_aload_n C dX13_readLabel_81 rfl 0 rfl ?_
        refine s_getF C (fgX13_201_26 (Nat.le_trans (by decide) V)) g0 dX13_readLabel_82 ?_
        refine s_iload_n C dX13_readLabel_85 rfl 1 rfl ?_
        refine s_iload_n C dX13_readLabel_86 rfl 3 rfl ?_
        refine s_iast C (ag28 (Nat.le_trans (by decide) V)) (by decide) dX13_readLabel_87 ?_
        refine g_nmM (fun μ10 => ?_)
        exact g_sub [] rfl (hj88 μ10)
    refine s_istore_n (L' := [(3, .int x4), (0, .ref (xa X 26 n0)), (1, .int x2), (2, .int x3)]) C dX13_readLabel_32 rfl (hN 3 (by decide)) rfl ?_
    refine s_iload_n C dX13_readLabel_33 rfl 0 rfl ?_
    refine s_if_le (tgt := 68) C dX13_readLabel_34 (by decide) (fun c11 => ?_) (fun c11 => ?_)
    ·
      exact g_sub [1, 2, 3, 0] rfl (hj68 μ1 x4)
    ·
      refine g_jn (P := fun j54 => ∀ (μ12 : Mem) (a13 : Nat) (x15 : Int32), a13 < 1 → G X r0 0 0 μ12 54 [(0, .ref (xa X 26 n0)), (1, .int x2), (2, .int x3), (3, .int x4)] [.int x15, .ref (xa X 26 a13)] (j54 μ12 a13 x15)) ?_ (fun j54 hj54 => ?_)
      · intro μ12 a13 x15 b14
        refine s_iconst (v := (4 : Int32)) C dX13_readLabel_54 (by decide) ?_
        refine s_callV C R0 (kX13_check (xl X) a13 b14 x15 (4 : Int32)) (Nat.le_trans (by decide) V) mmX13_check miX13_check q2680 (rc26 (Nat.le_trans (by decide) V)) b14 rfl rfl rfl (Nat.le_of_ble_eq_true rfl) ⟨Nat.le_of_ble_eq_true rfl, Nat.le_of_ble_eq_true rfl, Nat.le_of_ble_eq_true rfl, Nat.le_of_ble_eq_true rfl⟩ dX13_readLabel_55 (fun _ μ16 => ?_)
        refine g_st (st' := []) rfl ?_
        refine s_aload_n C dX13_readLabel_58 rfl 0 rfl ?_
        refine s_callV C R0 (kX13_advance (xl X) fu n0 g0) (Nat.le_trans (by decide) V) mmX13_advance miX13_advance q2692 (rc26 (Nat.le_trans (by decide) V)) g0 rfl rfl rfl (Nat.le_of_ble_eq_true rfl) ⟨Nat.le_of_ble_eq_true rfl, Nat.le_of_ble_eq_true rfl, Nat.le_of_ble_eq_true rfl, Nat.le_of_ble_eq_true rfl⟩ dX13_readLabel_59 (fun _ μ17 => ?_)
        refine g_st (st' := []) rfl ?_
        refine s_aload_n C dX13_readLabel_62 rfl 0 rfl ?_
        refine s_bipush (v := (58 : Int32)) C dX13_readLabel_63 (by decide) ?_
        refine s_callV C R0 (kX13_expect (xl X) fu n0 g0 (58 : Int32)) (Nat.le_trans (by decide) V) mmX13_expect miX13_expect q2764 (rc26 (Nat.le_trans (by decide) V)) g0 rfl rfl rfl (Nat.le_of_ble_eq_true rfl) ⟨Nat.le_of_ble_eq_true rfl, Nat.le_of_ble_eq_true rfl, Nat.le_of_ble_eq_true rfl, Nat.le_of_ble_eq_true rfl⟩ dX13_readLabel_65 (fun _ μ18 => ?_)
        refine g_st (st' := []) rfl ?_
        exact g_sub [0, 1, 2, 3] rfl (hj68 μ18 x4)
      refine s_aload_n C dX13_readLabel_37 rfl 1 rfl ?_
      refine s_aload_n C dX13_readLabel_38 rfl 1 rfl ?_
      refine s_iload_n C dX13_readLabel_39 rfl 3 rfl ?_
      refine s_iload_n C dX13_readLabel_40 rfl 0 rfl ?_
      refine s_iload_n C dX13_readLabel_41 rfl 2 rfl ?_
      refine s_callV C R0 (kX13_labelled (xl X) fu n0 g0 x3 x4 x2) (Nat.le_trans (by decide) V) mmX13_labelled miX13_labelled q2756 (rc26 (Nat.le_trans (by decide) V)) g0 rfl rfl rfl (Nat.le_of_ble_eq_true rfl) ⟨Nat.le_of_ble_eq_true rfl, Nat.le_of_ble_eq_true rfl, Nat.le_of_ble_eq_true rfl, Nat.le_of_ble_eq_true rfl⟩ dX13_readLabel_42 (fun x20 μ19 => ?_)
      refine g_st (st' := [.int x20, .ref (xa X 26 n0)]) rfl ?_
      refine s_iconst (v := (-1 : Int32)) C dX13_readLabel_45 (by decide) ?_
      refine s_icmp_ne (tgt := 53) C dX13_readLabel_46 (by decide) (fun c21 => ?_) (fun c21 => ?_)
      ·
        refine s_iconst (v := (0 : Int32)) C dX13_readLabel_53 (by decide) ?_
        exact g_sub [1, 2, 3, 0] rfl (hj54 μ19 n0 (0 : Int32) g0)
      ·
        refine s_iconst (v := (1 : Int32)) C dX13_readLabel_49 (by decide) ?_
        refine s_goto (tgt := 54) C dX13_readLabel_50 (by decide) ?_
        exact g_sub [1, 2, 3, 0] rfl (hj54 μ19 n0 (1 : Int32) g0)
  refine s_aload_n C dX13_readLabel_0 rfl 0 rfl ?_
  refine s_getF C (fgX13_13_26 (Nat.le_trans (by decide) V)) g0 dX13_readLabel_1 ?_
  refine s_iconst (v := (0 : Int32)) C dX13_readLabel_4 (by decide) ?_
  refine s_iald C (ag27 (Nat.le_trans (by decide) V)) (by decide) dX13_readLabel_5 ?_
  refine g_nmI (fun x22 => ?_)
  refine s_istore_n (L' := [(1, .int x22), (0, .ref (xa X 26 n0))]) C dX13_readLabel_6 rfl (hN 1 (by decide)) rfl ?_
  refine s_aload_n C dX13_readLabel_7 rfl 1 rfl ?_
  refine s_getI C (fgX13_478_26 (Nat.le_trans (by decide) V)) g0 dX13_readLabel_8 ?_
  refine g_nmI (fun x23 => ?_)
  refine s_istore_n (L' := [(2, .int x23), (1, .int x22), (0, .ref (xa X 26 n0))]) C dX13_readLabel_11 rfl (hN 2 (by decide)) rfl ?_
  refine s_aload_n C dX13_readLabel_12 rfl 2 rfl ?_
  refine s_callV C R0 (kX13_isName (xl X) fu n0 g0) (Nat.le_trans (by decide) V) mmX13_isName miX13_isName q2704 (rc26 (Nat.le_trans (by decide) V)) g0 rfl rfl rfl (Nat.le_of_ble_eq_true rfl) ⟨Nat.le_of_ble_eq_true rfl, Nat.le_of_ble_eq_true rfl, Nat.le_of_ble_eq_true rfl, Nat.le_of_ble_eq_true rfl⟩ dX13_readLabel_13 (fun x25 μ24 => ?_)
  refine g_st (st' := [.int x25]) rfl ?_
  refine s_if_eq (tgt := 31) C dX13_readLabel_16 (by decide) (fun c26 => ?_) (fun c26 => ?_)
  ·
    refine s_iconst (v := (0 : Int32)) C dX13_readLabel_31 (by decide) ?_
    exact g_sub [2, 1, 0] rfl (hj32 μ24 x22 x23 (0 : Int32))
  ·
    refine s_aload_n C dX13_readLabel_19 rfl 2 rfl ?_
    refine s_getI C (fgX13_475_26 (Nat.le_trans (by decide) V)) g0 dX13_readLabel_20 ?_
    refine s_aload_n C dX13_readLabel_23 rfl 2 rfl ?_
    refine s_getI C (fgX13_478_26 (Nat.le_trans (by decide) V)) g0 dX13_readLabel_24 ?_
    refine s_isub C dX13_readLabel_27 ?_
    refine s_goto (tgt := 32) C dX13_readLabel_28 (by decide) ?_
    exact g_sub [2, 1, 0] rfl (hj32 μ24 x22 x23 ((μ24.1 26 n0 23) - (μ24.1 26 n0 24)))
/-! PinEnginesModel.readInstruction()V -/
def fX13_readInstruction (fu : Nat) (n0 : Nat) (μ : Mem) : Option (Unit × Mem) :=
  jn (fun (μ1 : Mem) (x2 : Int32) (a3 : Nat) (x5 : Int32) =>
    jn (fun (μ6 : Mem) (a7 : Nat) (x9 : Int32) =>
      bnd (fX13_check a7 x9 (3 : Int32) μ6) fun _ μ10 =>
      bnd (fX13_advance fu n0 μ10) fun _ μ11 =>
      if (μ11.1 26 n0 26) = 0 then (
        jn (fun (μ13 : Mem) (x14 : Int32) =>
          jn (fun (μ15 : Mem) =>
            ckI (0 : Int32) (if 1 = 4 then 7000 else 700) <|
            ckI (0 : Int32) (if 1 = 4 then 7000 else 700) <|
            nm (wI μ15 27 1 (0 : Int32).toNatClampNeg ((μ15.1 27 1 (0 : Int32).toNatClampNeg) + (1 : Int32))) fun μ16 =>
            some ((), μ16)
          ) fun j151 =>
          bnd (fX13_accept fu n0 34 μ13) fun x18 μ17 =>
          if x18 = 0 then (
            j151 μ17
          ) else (
            bnd (fX13_putNumber fu n0 (x14 + (5 : Int32)) (0 : Int32) (31 : Int32) μ17) fun _ μ20 =>
            j151 μ20
          )
        ) fun j132 =>
        ckI (0 : Int32) (if 1 = 4 then 7000 else 700) <|
        nm (((284 : Int32) + ((6 : Int32) * (μ11.1 27 1 (0 : Int32).toNatClampNeg)))) fun x21 =>
        ckI (x21 + (0 : Int32)) (if 1 = 4 then 7000 else 700) <|
        nm (wI μ11 27 1 (x21 + (0 : Int32)).toNatClampNeg x2) fun μ22 =>
        ckI (x21 + (4 : Int32)) (if 1 = 4 then 7000 else 700) <|
        nm (wI μ22 27 1 (x21 + (4 : Int32)).toNatClampNeg (-1 : Int32)) fun μ23 =>
        bnd (fX13_readOperands fu n0 x21 x2 μ23) fun _ μ24 =>
        bnd (fX13_accept fu n0 33 μ24) fun x26 μ25 =>
        if x26 = 0 then (
          j132 μ25 x21
        ) else (
          bnd (fX13_putNumber fu n0 (x21 + (4 : Int32)) (0 : Int32) (15 : Int32) μ25) fun _ μ28 =>
          j132 μ28 x21
        )
      ) else (
        some ((), μ11)
      )
    ) fun j59 =>
    jn (fun (μ29 : Mem) (a30 : Nat) =>
      j59 μ29 a30 (1 : Int32)
    ) fun j54 =>
    bnd (fX13_check a3 x5 (1 : Int32) μ1) fun _ μ32 =>
    if ¬ (μ32.1 26 n0 26) = 0 then (
      j54 μ32 n0
    ) else (
      ckI (0 : Int32) (if 1 = 4 then 7000 else 700) <|
      if (32 : Int32) ≤ (μ32.1 27 1 (0 : Int32).toNatClampNeg) then (
        j59 μ32 n0 (0 : Int32)
      ) else (
        j54 μ32 n0
      )
    )
  ) fun j31 =>
  jn (fun (μ35 : Mem) (x36 : Int32) (a37 : Nat) =>
    j31 μ35 x36 a37 (1 : Int32)
  ) fun j26 =>
  bnd (fX13_readLabel fu n0 μ) fun _ μ39 =>
  bnd (fX13_indexIn fu n0 0 μ39) fun x41 μ40 =>
  if ¬ (μ40.1 26 n0 26) = 0 then (
    j26 μ40 x41 n0
  ) else (
    if x41 = (-1 : Int32) then (
      j31 μ40 x41 n0 (0 : Int32)
    ) else (
      j26 μ40 x41 n0
    )
  )
set_option maxHeartbeats 4000000 in
set_option maxRecDepth 100000 in
theorem kX13_readInstruction (l : Launch) (fu : Nat) (n0 : Nat) (g0 : n0 < 1) : Kon 1 l yX13_readInstruction cX13_readInstruction 3 (none) 10 215 0 0 (fun ad => [.ref (ad 26 n0)]) rvV (fun μ => fX13_readInstruction fu n0 μ) := by
  refine kon_of (by decide) (fun _ => Nat.le_of_ble_eq_true rfl) (fun X r0 μ hXl hXn V C E => ?_)
  have hN : ∀ i : Nat, i < 3 → i < xn X := fun i h => hXn.symm ▸ h
  have R0 := fen_rm E
  show G X r0 0 0 μ 0 [(0, .ref (xa X 26 n0))] [] (fX13_readInstruction fu n0 μ)
  unfold fX13_readInstruction
  refine g_jn (P := fun j31 => ∀ (μ1 : Mem) (x2 : Int32) (a3 : Nat) (x5 : Int32), a3 < 1 → G X r0 0 0 μ1 31 [(0, .ref (xa X 26 n0)), (1, .int x2)] [.int x5, .ref (xa X 26 a3)] (j31 μ1 x2 a3 x5)) ?_ (fun j31 hj31 => ?_)
  · intro μ1 x2 a3 x5 b4
    refine g_jn (P := fun j59 => ∀ (μ6 : Mem) (a7 : Nat) (x9 : Int32), a7 < 1 → G X r0 0 0 μ6 59 [(0, .ref (xa X 26 n0)), (1, .int x2)] [.int x9, .ref (xa X 26 a7)] (j59 μ6 a7 x9)) ?_ (fun j59 hj59 => ?_)
    · intro μ6 a7 x9 b8
      refine s_iconst (v := (3 : Int32)) C dX13_readInstruction_59 (by decide) ?_
      refine s_callV C R0 (kX13_check (xl X) a7 b8 x9 (3 : Int32)) (Nat.le_trans (by decide) V) mmX13_check miX13_check q2680 (rc26 (Nat.le_trans (by decide) V)) b8 rfl rfl rfl (Nat.le_of_ble_eq_true rfl) ⟨Nat.le_of_ble_eq_true rfl, Nat.le_of_ble_eq_true rfl, Nat.le_of_ble_eq_true rfl, Nat.le_of_ble_eq_true rfl⟩ dX13_readInstruction_60 (fun _ μ10 => ?_)
      refine g_st (st' := []) rfl ?_
      refine s_aload_n C dX13_readInstruction_63 rfl 0 rfl ?_
      refine s_callV C R0 (kX13_advance (xl X) fu n0 g0) (Nat.le_trans (by decide) V) mmX13_advance miX13_advance q2692 (rc26 (Nat.le_trans (by decide) V)) g0 rfl rfl rfl (Nat.le_of_ble_eq_true rfl) ⟨Nat.le_of_ble_eq_true rfl, Nat.le_of_ble_eq_true rfl, Nat.le_of_ble_eq_true rfl, Nat.le_of_ble_eq_true rfl⟩ dX13_readInstruction_64 (fun _ μ11 => ?_)
      refine g_st (st' := []) rfl ?_
      refine s_aload_n C dX13_readInstruction_67 rfl 0 rfl ?_
      refine s_getI C (fgX13_490_26 (Nat.le_trans (by decide) V)) g0 dX13_readInstruction_68 ?_
      refine s_if_eq (tgt := 75) C dX13_readInstruction_71 (by decide) (fun c12 => ?_) (fun c12 => ?_)
      ·
        refine g_jn (P := fun j132 => ∀ (μ13 : Mem) (x14 : Int32), G X r0 0 0 μ13 132 [(0, .ref (xa X 26 n0)), (2, .int x14)] [] (j132 μ13 x14)) ?_ (fun j132 hj132 => ?_)
        · intro μ13 x14
          refine g_jn (P := fun j151 => ∀ (μ15 : Mem), G X r0 0 0 μ15 151 [(0, .ref (xa X 26 n0))] [] (j151 μ15)) ?_ (fun j151 hj151 => ?_)
          · intro μ15
            refine s_aload_n C dX13_readInstruction_151 rfl 0 rfl ?_
            refine s_getF C (fgX13_13_26 (Nat.le_trans (by decide) V)) g0 dX13_readInstruction_152 ?_
            refine s_iconst (v := (0 : Int32)) C dX13_readInstruction_155 (by decide) ?_
            refine s_dup2 C dX13_readInstruction_156 rfl rfl ?_
            refine s_iald C (ag27 (Nat.le_trans (by decide) V)) (by decide) dX13_readInstruction_157 ?_
            refine s_iconst (v := (1 : Int32)) C dX13_readInstruction_158 (by decide) ?_
            refine s_iadd C dX13_readInstruction_159 ?_
            refine s_iast C (ag27 (Nat.le_trans (by decide) V)) (by decide) dX13_readInstruction_160 ?_
            refine g_nmM (fun μ16 => ?_)
            exact s_vret C E dX13_readInstruction_161
          refine s_aload_n C dX13_readInstruction_132 rfl 0 rfl ?_
          refine s_ldcs (i := 34) C (List.mem_of_getElem? (i := 34) rfl) dX13_readInstruction_133 ?_
          refine s_callV C R0 (kX13_accept (xl X) fu n0 g0 34 (by decide)) (Nat.le_trans (by decide) V) mmX13_accept miX13_accept q2666 (rc26 (Nat.le_trans (by decide) V)) g0 rfl rfl rfl (Nat.le_of_ble_eq_true rfl) ⟨Nat.le_of_ble_eq_true rfl, Nat.le_of_ble_eq_true rfl, Nat.le_of_ble_eq_true rfl, Nat.le_of_ble_eq_true rfl⟩ dX13_readInstruction_135 (fun x18 μ17 => ?_)
          refine g_st (st' := [.int x18]) rfl ?_
          refine s_if_eq (tgt := 151) C dX13_readInstruction_138 (by decide) (fun c19 => ?_) (fun c19 => ?_)
          ·
            exact g_sub [0] rfl (hj151 μ17)
          ·
            refine s_aload_n C dX13_readInstruction_141 rfl 0 rfl ?_
            refine s_iload_n C dX13_readInstruction_142 rfl 1 rfl ?_
            refine s_iconst (v := (5 : Int32)) C dX13_readInstruction_143 (by decide) ?_
            refine s_iadd C dX13_readInstruction_144 ?_
            refine s_iconst (v := (0 : Int32)) C dX13_readInstruction_145 (by decide) ?_
            refine s_bipush (v := (31 : Int32)) C dX13_readInstruction_146 (by decide) ?_
            refine s_callV C R0 (kX13_putNumber (xl X) fu n0 g0 (x14 + (5 : Int32)) (0 : Int32) (31 : Int32)) (Nat.le_trans (by decide) V) mmX13_putNumber miX13_putNumber q2728 (rc26 (Nat.le_trans (by decide) V)) g0 rfl rfl rfl (Nat.le_of_ble_eq_true rfl) ⟨Nat.le_of_ble_eq_true rfl, Nat.le_of_ble_eq_true rfl, Nat.le_of_ble_eq_true rfl, Nat.le_of_ble_eq_true rfl⟩ dX13_readInstruction_148 (fun _ μ20 => ?_)
            refine g_st (st' := []) rfl ?_
            exact g_sub [0] rfl (hj151 μ20)
        refine s_sipush (v := (284 : Int32)) C dX13_readInstruction_75 (by decide) ?_
        refine s_bipush (v := (6 : Int32)) C dX13_readInstruction_78 (by decide) ?_
        refine s_aload_n C dX13_readInstruction_80 rfl 0 rfl ?_
        refine s_getF C (fgX13_13_26 (Nat.le_trans (by decide) V)) g0 dX13_readInstruction_81 ?_
        refine s_iconst (v := (0 : Int32)) C dX13_readInstruction_84 (by decide) ?_
        refine s_iald C (ag27 (Nat.le_trans (by decide) V)) (by decide) dX13_readInstruction_85 ?_
        refine s_imul C dX13_readInstruction_86 ?_
        refine s_iadd C dX13_readInstruction_87 ?_
        refine g_nmI (fun x21 => ?_)
        refine s_istore_n (L' := [(2, .int x21), (0, .ref (xa X 26 n0)), (1, .int x2)]) C dX13_readInstruction_88 rfl (hN 2 (by decide)) rfl ?_
        refine s_aload_n C dX13_readInstruction_89 rfl 1 rfl ?_
        refine s_getF C (fgX13_13_26 (Nat.le_trans (by decide) V)) g0 dX13_readInstruction_90 ?_
        refine s_iload_n C dX13_readInstruction_93 rfl 0 rfl ?_
        refine s_iconst (v := (0 : Int32)) C dX13_readInstruction_94 (by decide) ?_
        refine s_iadd C dX13_readInstruction_95 ?_
        refine s_iload_n C dX13_readInstruction_96 rfl 2 rfl ?_
        refine s_iast C (ag27 (Nat.le_trans (by decide) V)) (by decide) dX13_readInstruction_97 ?_
        refine g_nmM (fun μ22 => ?_)
        refine s_aload_n C dX13_readInstruction_98 rfl 1 rfl ?_
        refine s_getF C (fgX13_13_26 (Nat.le_trans (by decide) V)) g0 dX13_readInstruction_99 ?_
        refine s_iload_n C dX13_readInstruction_102 rfl 0 rfl ?_
        refine s_iconst (v := (4 : Int32)) C dX13_readInstruction_103 (by decide) ?_
        refine s_iadd C dX13_readInstruction_104 ?_
        refine s_iconst (v := (-1 : Int32)) C dX13_readInstruction_105 (by decide) ?_
        refine s_iast C (ag27 (Nat.le_trans (by decide) V)) (by decide) dX13_readInstruction_106 ?_
        refine g_nmM (fun μ23 => ?_)
        refine s_aload_n C dX13_readInstruction_107 rfl 1 rfl ?_
        refine s_iload_n C dX13_readInstruction_108 rfl 0 rfl ?_
        refine s_iload_n C dX13_readInstruction_109 rfl 2 rfl ?_
        refine s_callV C R0 (kX13_readOperands (xl X) fu n0 g0 x21 x2) (Nat.le_trans (by decide) V) mmX13_readOperands miX13_readOperands q2772 (rc26 (Nat.le_trans (by decide) V)) g0 rfl rfl rfl (Nat.le_of_ble_eq_true rfl) ⟨Nat.le_of_ble_eq_true rfl, Nat.le_of_ble_eq_true rfl, Nat.le_of_ble_eq_true rfl, Nat.le_of_ble_eq_true rfl⟩ dX13_readInstruction_110 (fun _ μ24 => ?_)
        refine g_st (st' := []) rfl ?_
        refine s_aload_n C dX13_readInstruction_113 rfl 1 rfl ?_
        refine s_ldcs (i := 33) C (List.mem_of_getElem? (i := 33) rfl) dX13_readInstruction_114 ?_
        refine s_callV C R0 (kX13_accept (xl X) fu n0 g0 33 (by decide)) (Nat.le_trans (by decide) V) mmX13_accept miX13_accept q2666 (rc26 (Nat.le_trans (by decide) V)) g0 rfl rfl rfl (Nat.le_of_ble_eq_true rfl) ⟨Nat.le_of_ble_eq_true rfl, Nat.le_of_ble_eq_true rfl, Nat.le_of_ble_eq_true rfl, Nat.le_of_ble_eq_true rfl⟩ dX13_readInstruction_116 (fun x26 μ25 => ?_)
        refine g_st (st' := [.int x26]) rfl ?_
        refine s_if_eq (tgt := 132) C dX13_readInstruction_119 (by decide) (fun c27 => ?_) (fun c27 => ?_)
        ·
          exact g_sub [1, 0] rfl (hj132 μ25 x21)
        ·
          refine s_aload_n C dX13_readInstruction_122 rfl 1 rfl ?_
          refine s_iload_n C dX13_readInstruction_123 rfl 0 rfl ?_
          refine s_iconst (v := (4 : Int32)) C dX13_readInstruction_124 (by decide) ?_
          refine s_iadd C dX13_readInstruction_125 ?_
          refine s_iconst (v := (0 : Int32)) C dX13_readInstruction_126 (by decide) ?_
          refine s_bipush (v := (15 : Int32)) C dX13_readInstruction_127 (by decide) ?_
          refine s_callV C R0 (kX13_putNumber (xl X) fu n0 g0 (x21 + (4 : Int32)) (0 : Int32) (15 : Int32)) (Nat.le_trans (by decide) V) mmX13_putNumber miX13_putNumber q2728 (rc26 (Nat.le_trans (by decide) V)) g0 rfl rfl rfl (Nat.le_of_ble_eq_true rfl) ⟨Nat.le_of_ble_eq_true rfl, Nat.le_of_ble_eq_true rfl, Nat.le_of_ble_eq_true rfl, Nat.le_of_ble_eq_true rfl⟩ dX13_readInstruction_129 (fun _ μ28 => ?_)
          refine g_st (st' := []) rfl ?_
          exact g_sub [1, 0] rfl (hj132 μ28 x21)
      ·
        exact s_vret C E dX13_readInstruction_74
    refine g_jn (P := fun j54 => ∀ (μ29 : Mem) (a30 : Nat), a30 < 1 → G X r0 0 0 μ29 54 [(0, .ref (xa X 26 n0)), (1, .int x2)] [.ref (xa X 26 a30)] (j54 μ29 a30)) ?_ (fun j54 hj54 => ?_)
    · intro μ29 a30 b31
      refine s_iconst (v := (1 : Int32)) C dX13_readInstruction_54 (by decide) ?_
      refine s_goto (tgt := 59) C dX13_readInstruction_55 (by decide) ?_
      exact g_sub [0, 1] rfl (hj59 μ29 a30 (1 : Int32) b31)
    refine s_iconst (v := (1 : Int32)) C dX13_readInstruction_31 (by decide) ?_
    refine s_callV C R0 (kX13_check (xl X) a3 b4 x5 (1 : Int32)) (Nat.le_trans (by decide) V) mmX13_check miX13_check q2680 (rc26 (Nat.le_trans (by decide) V)) b4 rfl rfl rfl (Nat.le_of_ble_eq_true rfl) ⟨Nat.le_of_ble_eq_true rfl, Nat.le_of_ble_eq_true rfl, Nat.le_of_ble_eq_true rfl, Nat.le_of_ble_eq_true rfl⟩ dX13_readInstruction_32 (fun _ μ32 => ?_)
    refine g_st (st' := []) rfl ?_
    refine s_aload_n C dX13_readInstruction_35 rfl 0 rfl ?_
    refine s_aload_n C dX13_readInstruction_36 rfl 0 rfl ?_
    refine s_getI C (fgX13_490_26 (Nat.le_trans (by decide) V)) g0 dX13_readInstruction_37 ?_
    refine s_if_ne (tgt := 54) C dX13_readInstruction_40 (by decide) (fun c33 => ?_) (fun c33 => ?_)
    ·
      exact g_sub [0, 1] rfl (hj54 μ32 n0 g0)
    ·
      refine s_aload_n C dX13_readInstruction_43 rfl 0 rfl ?_
      refine s_getF C (fgX13_13_26 (Nat.le_trans (by decide) V)) g0 dX13_readInstruction_44 ?_
      refine s_iconst (v := (0 : Int32)) C dX13_readInstruction_47 (by decide) ?_
      refine s_iald C (ag27 (Nat.le_trans (by decide) V)) (by decide) dX13_readInstruction_48 ?_
      refine s_bipush (v := (32 : Int32)) C dX13_readInstruction_49 (by decide) ?_
      refine s_icmp_ge (tgt := 58) C dX13_readInstruction_51 (by decide) (fun c34 => ?_) (fun c34 => ?_)
      ·
        refine s_iconst (v := (0 : Int32)) C dX13_readInstruction_58 (by decide) ?_
        exact g_sub [0, 1] rfl (hj59 μ32 n0 (0 : Int32) g0)
      ·
        exact g_sub [0, 1] rfl (hj54 μ32 n0 g0)
  refine g_jn (P := fun j26 => ∀ (μ35 : Mem) (x36 : Int32) (a37 : Nat), a37 < 1 → G X r0 0 0 μ35 26 [(0, .ref (xa X 26 n0)), (1, .int x36)] [.ref (xa X 26 a37)] (j26 μ35 x36 a37)) ?_ (fun j26 hj26 => ?_)
  · intro μ35 x36 a37 b38
    refine s_iconst (v := (1 : Int32)) C dX13_readInstruction_26 (by decide) ?_
    refine s_goto (tgt := 31) C dX13_readInstruction_27 (by decide) ?_
    exact g_sub [0, 1] rfl (hj31 μ35 x36 a37 (1 : Int32) b38)
  refine s_aload_n C dX13_readInstruction_0 rfl 0 rfl ?_
  refine s_callV C R0 (kX13_readLabel (xl X) fu n0 g0) (Nat.le_trans (by decide) V) mmX13_readLabel miX13_readLabel q2752 (rc26 (Nat.le_trans (by decide) V)) g0 rfl rfl rfl (Nat.le_of_ble_eq_true rfl) ⟨Nat.le_of_ble_eq_true rfl, Nat.le_of_ble_eq_true rfl, Nat.le_of_ble_eq_true rfl, Nat.le_of_ble_eq_true rfl⟩ dX13_readInstruction_1 (fun _ μ39 => ?_)
  refine g_st (st' := []) rfl ?_
  refine s_aload_n C dX13_readInstruction_4 rfl 0 rfl ?_
  refine s_aload_n C dX13_readInstruction_5 rfl 0 rfl ?_
  refine s_getF C (fgX13_85_26 (Nat.le_trans (by decide) V)) g0 dX13_readInstruction_6 ?_
  refine s_callV C R0 (kX13_indexIn (xl X) fu n0 g0 0 (by decide)) (Nat.le_trans (by decide) V) mmX13_indexIn miX13_indexIn q2708 (rc26 (Nat.le_trans (by decide) V)) g0 rfl rfl rfl (Nat.le_of_ble_eq_true rfl) ⟨Nat.le_of_ble_eq_true rfl, Nat.le_of_ble_eq_true rfl, Nat.le_of_ble_eq_true rfl, Nat.le_of_ble_eq_true rfl⟩ dX13_readInstruction_9 (fun x41 μ40 => ?_)
  refine g_st (st' := [.int x41]) rfl ?_
  refine s_istore_n (L' := [(1, .int x41), (0, .ref (xa X 26 n0))]) C dX13_readInstruction_12 rfl (hN 1 (by decide)) rfl ?_
  refine s_aload_n C dX13_readInstruction_13 rfl 1 rfl ?_
  refine s_aload_n C dX13_readInstruction_14 rfl 1 rfl ?_
  refine s_getI C (fgX13_490_26 (Nat.le_trans (by decide) V)) g0 dX13_readInstruction_15 ?_
  refine s_if_ne (tgt := 26) C dX13_readInstruction_18 (by decide) (fun c42 => ?_) (fun c42 => ?_)
  ·
    exact g_sub [1, 0] rfl (hj26 μ40 x41 n0 g0)
  ·
    refine s_iload_n C dX13_readInstruction_21 rfl 0 rfl ?_
    refine s_iconst (v := (-1 : Int32)) C dX13_readInstruction_22 (by decide) ?_
    refine s_icmp_eq (tgt := 30) C dX13_readInstruction_23 (by decide) (fun c43 => ?_) (fun c43 => ?_)
    ·
      refine s_iconst (v := (0 : Int32)) C dX13_readInstruction_30 (by decide) ?_
      exact g_sub [1, 0] rfl (hj31 μ40 x41 n0 (0 : Int32) g0)
    ·
      exact g_sub [1, 0] rfl (hj26 μ40 x41 n0 g0)
/-! PinEnginesModel.readClause()V -/
def fX13_readClause (fu : Nat) (n0 : Nat) (μ : Mem) : Option (Unit × Mem) :=
  jn (fun (μ1 : Mem) =>
    bnd (fX13_expect fu n0 (59 : Int32) μ1) fun _ μ2 =>
    some ((), μ2)
  ) fun j36 =>
  bnd (fX13_accept fu n0 30 μ) fun x4 μ3 =>
  if x4 = 0 then (
    bnd (fX13_accept fu n0 32 μ3) fun x7 μ6 =>
    if x7 = 0 then (
      bnd (fX13_readInstruction fu n0 μ6) fun _ μ9 =>
      j36 μ9
    ) else (
      bnd (fX13_readLevel fu n0 μ6) fun _ μ10 =>
      j36 μ10
    )
  ) else (
    bnd (fX13_readEngine fu n0 μ3) fun _ μ11 =>
    j36 μ11
  )
set_option maxHeartbeats 4000000 in
set_option maxRecDepth 100000 in
theorem kX13_readClause (l : Launch) (fu : Nat) (n0 : Nat) (g0 : n0 < 1) : Kon 1 l yX13_readClause cX13_readClause 1 (none) 11 237 0 0 (fun ad => [.ref (ad 26 n0)]) rvV (fun μ => fX13_readClause fu n0 μ) := by
  refine kon_of (by decide) (fun _ => Nat.le_of_ble_eq_true rfl) (fun X r0 μ hXl hXn V C E => ?_)
  have hN : ∀ i : Nat, i < 1 → i < xn X := fun i h => hXn.symm ▸ h
  have R0 := fen_rm E
  show G X r0 0 0 μ 0 [(0, .ref (xa X 26 n0))] [] (fX13_readClause fu n0 μ)
  unfold fX13_readClause
  refine g_jn (P := fun j36 => ∀ (μ1 : Mem), G X r0 0 0 μ1 36 [(0, .ref (xa X 26 n0))] [] (j36 μ1)) ?_ (fun j36 hj36 => ?_)
  · intro μ1
    refine s_aload_n C dX13_readClause_36 rfl 0 rfl ?_
    refine s_bipush (v := (59 : Int32)) C dX13_readClause_37 (by decide) ?_
    refine s_callV C R0 (kX13_expect (xl X) fu n0 g0 (59 : Int32)) (Nat.le_trans (by decide) V) mmX13_expect miX13_expect q2764 (rc26 (Nat.le_trans (by decide) V)) g0 rfl rfl rfl (Nat.le_of_ble_eq_true rfl) ⟨Nat.le_of_ble_eq_true rfl, Nat.le_of_ble_eq_true rfl, Nat.le_of_ble_eq_true rfl, Nat.le_of_ble_eq_true rfl⟩ dX13_readClause_39 (fun _ μ2 => ?_)
    refine g_st (st' := []) rfl ?_
    exact s_vret C E dX13_readClause_42
  refine s_aload_n C dX13_readClause_0 rfl 0 rfl ?_
  refine s_ldcs (i := 30) C (List.mem_of_getElem? (i := 30) rfl) dX13_readClause_1 ?_
  refine s_callV C R0 (kX13_accept (xl X) fu n0 g0 30 (by decide)) (Nat.le_trans (by decide) V) mmX13_accept miX13_accept q2666 (rc26 (Nat.le_trans (by decide) V)) g0 rfl rfl rfl (Nat.le_of_ble_eq_true rfl) ⟨Nat.le_of_ble_eq_true rfl, Nat.le_of_ble_eq_true rfl, Nat.le_of_ble_eq_true rfl, Nat.le_of_ble_eq_true rfl⟩ dX13_readClause_3 (fun x4 μ3 => ?_)
  refine g_st (st' := [.int x4]) rfl ?_
  refine s_if_eq (tgt := 16) C dX13_readClause_6 (by decide) (fun c5 => ?_) (fun c5 => ?_)
  ·
    refine s_aload_n C dX13_readClause_16 rfl 0 rfl ?_
    refine s_ldcs (i := 32) C (List.mem_of_getElem? (i := 32) rfl) dX13_readClause_17 ?_
    refine s_callV C R0 (kX13_accept (xl X) fu n0 g0 32 (by decide)) (Nat.le_trans (by decide) V) mmX13_accept miX13_accept q2666 (rc26 (Nat.le_trans (by decide) V)) g0 rfl rfl rfl (Nat.le_of_ble_eq_true rfl) ⟨Nat.le_of_ble_eq_true rfl, Nat.le_of_ble_eq_true rfl, Nat.le_of_ble_eq_true rfl, Nat.le_of_ble_eq_true rfl⟩ dX13_readClause_19 (fun x7 μ6 => ?_)
    refine g_st (st' := [.int x7]) rfl ?_
    refine s_if_eq (tgt := 32) C dX13_readClause_22 (by decide) (fun c8 => ?_) (fun c8 => ?_)
    ·
      refine s_aload_n C dX13_readClause_32 rfl 0 rfl ?_
      refine s_callV C R0 (kX13_readInstruction (xl X) fu n0 g0) (Nat.le_trans (by decide) V) mmX13_readInstruction miX13_readInstruction q2748 (rc26 (Nat.le_trans (by decide) V)) g0 rfl rfl rfl (Nat.le_of_ble_eq_true rfl) ⟨Nat.le_of_ble_eq_true rfl, Nat.le_of_ble_eq_true rfl, Nat.le_of_ble_eq_true rfl, Nat.le_of_ble_eq_true rfl⟩ dX13_readClause_33 (fun _ μ9 => ?_)
      refine g_st (st' := []) rfl ?_
      exact g_sub [0] rfl (hj36 μ9)
    ·
      refine s_aload_n C dX13_readClause_25 rfl 0 rfl ?_
      refine s_callV C R0 (kX13_readLevel (xl X) fu n0 g0) (Nat.le_trans (by decide) V) mmX13_readLevel miX13_readLevel q2744 (rc26 (Nat.le_trans (by decide) V)) g0 rfl rfl rfl (Nat.le_of_ble_eq_true rfl) ⟨Nat.le_of_ble_eq_true rfl, Nat.le_of_ble_eq_true rfl, Nat.le_of_ble_eq_true rfl, Nat.le_of_ble_eq_true rfl⟩ dX13_readClause_26 (fun _ μ10 => ?_)
      refine g_st (st' := []) rfl ?_
      refine s_goto (tgt := 36) C dX13_readClause_29 (by decide) ?_
      exact g_sub [0] rfl (hj36 μ10)
  ·
    refine s_aload_n C dX13_readClause_9 rfl 0 rfl ?_
    refine s_callV C R0 (kX13_readEngine (xl X) fu n0 g0) (Nat.le_trans (by decide) V) mmX13_readEngine miX13_readEngine q2676 (rc26 (Nat.le_trans (by decide) V)) g0 rfl rfl rfl (Nat.le_of_ble_eq_true rfl) ⟨Nat.le_of_ble_eq_true rfl, Nat.le_of_ble_eq_true rfl, Nat.le_of_ble_eq_true rfl, Nat.le_of_ble_eq_true rfl⟩ dX13_readClause_10 (fun _ μ11 => ?_)
    refine g_st (st' := []) rfl ?_
    refine s_goto (tgt := 36) C dX13_readClause_13 (by decide) ?_
    exact g_sub [0] rfl (hj36 μ11)
/-! PinEnginesModel.load(I)I -/
def fX13_load (fu : Nat) (n0 : Nat) (p1 : Int32) (μ : Mem) : Option (Int32 × Mem) :=
  nm (wI μ 26 n0 6 (0 : Int32)) fun μ1 =>
  bnd (fX13_inRange p1 (0 : Int32) (μ1.1 26 n0 21) μ1) fun x3 μ2 =>
  if ¬ x3 = 0 then (
    jn (lp (fun _ => none) fu (fun j40 (μ5 : Mem) =>
      jn (fun (μ6 : Mem) =>
        bnd (fX13_layNames fu n0 μ6) fun _ μ7 =>
        bnd (fX13_finish n0 μ7) fun x9 μ8 =>
        if x9 = 0 then (
          jn (lp (fun _ _ => none) fu (fun j95 (μ11 : Mem) (x12 : Int32) =>
            if (16 : Int32) ≤ x12 then (
              jn (lp (fun _ _ => none) fu (fun j120 (μ14 : Mem) (x15 : Int32) =>
                if (4 : Int32) ≤ x15 then (
                  nm (wI μ14 26 n0 5 (0 : Int32)) fun μ17 =>
                  ckZ (0 : Int32) <|
                  nm (wI μ17 26 n0 7 (0 : Int32)) fun μ18 =>
                  ckI (0 : Int32) (if 0 = 4 then 7000 else 700) <|
                  some ((μ18.1 27 0 (0 : Int32).toNatClampNeg), μ18)
                ) else (
                  jn (fun (μ19 : Mem) (x20 : Int32) =>
                    nm (x20 + (1 : Int32)) fun x21 =>
                    j120 μ19 x21
                  ) fun j147 =>
                  bnd (fX13_setting n0 x15 (0 : Int32) μ14) fun x23 μ22 =>
                  if ¬ x23 = (1 : Int32) then (
                    j147 μ22 x15
                  ) else (
                    bnd (fX13_begin fu n0 x15 μ22) fun _ μ25 =>
                    bnd (fX13_set n0 x15 (0 : Int32) (1 : Int32) μ25) fun _ μ26 =>
                    j147 μ26 x15
                  )
                )
              )) fun j120 =>
              j120 μ11 (0 : Int32)
            ) else (
              bnd (fX13_levelOf n0 x12 μ11) fun x28 μ27 =>
              bnd (fX13_putPin n0 x12 (3 : Int32) x28 μ27) fun _ μ29 =>
              nm (x12 + (1 : Int32)) fun x30 =>
              j95 μ29 x30
            )
          )) fun j95 =>
          bnd (fX13_copy fu 1 (0 : Int32) 0 (0 : Int32) μ8) fun _ μ31 =>
          j95 μ31 (0 : Int32)
        ) else (
          some (((-10 : Int32) - (μ8.1 26 n0 26)), μ8)
        )
      ) fun j61 =>
      if ¬ (μ5.1 26 n0 26) = 0 then (
        j61 μ5
      ) else (
        if (μ5.1 26 n0 25) = 0 then (
          j61 μ5
        ) else (
          bnd (fX13_readClause fu n0 μ5) fun _ μ34 =>
          j40 μ34
        )
      )
    )) fun j40 =>
    bnd (fX13_clear fu 1 μ2) fun _ μ35 =>
    nm (wI μ35 26 n0 39 (0 : Int32)) fun μ36 =>
    bnd (fX13_startText fu n0 p1 μ36) fun _ μ37 =>
    j40 μ37
  ) else (
    bnd (fX13_raise n0 (1 : Int32) μ2) fun x39 μ38 =>
    some (x39, μ38)
  )
set_option maxHeartbeats 4000000 in
set_option maxRecDepth 100000 in
theorem kX13_load (l : Launch) (fu : Nat) (n0 : Nat) (g0 : n0 < 1) (p1 : Int32) : Kon 1 l yX13_load cX13_load 3 (some .int) 12 257 0 0 (fun ad => [.ref (ad 26 n0), .int p1]) rvI (fun μ => fX13_load fu n0 p1 μ) := by
  refine kon_of (by decide) (fun _ => Nat.le_of_ble_eq_true rfl) (fun X r0 μ hXl hXn V C E => ?_)
  have hN : ∀ i : Nat, i < 3 → i < xn X := fun i h => hXn.symm ▸ h
  have R0 := fen_rm E
  show G X r0 0 0 μ 0 [(0, .ref (xa X 26 n0)), (1, .int p1)] [] (fX13_load fu n0 p1 μ)
  unfold fX13_load
  refine s_aload_n C dX13_load_0 rfl 0 rfl ?_
  refine s_iconst (v := (0 : Int32)) C dX13_load_1 (by decide) ?_
  refine s_putI C (fpX13_231_26 (Nat.le_trans (by decide) V)) g0 dX13_load_2 ?_
  refine g_nmM (fun μ1 => ?_)
  refine s_iload_n C dX13_load_5 rfl 1 rfl ?_
  refine s_iconst (v := (0 : Int32)) C dX13_load_6 (by decide) ?_
  refine s_aload_n C dX13_load_7 rfl 0 rfl ?_
  refine s_getI C (fgX13_466_26 (Nat.le_trans (by decide) V)) g0 dX13_load_8 ?_
  refine s_callS C R0 (kX13_inRange (xl X) p1 (0 : Int32) (μ1.1 26 n0 21)) (Nat.le_trans (by decide) V) mmX13_inRange q2257 q2256 rfl rfl rfl rfl (Nat.le_of_ble_eq_true rfl) ⟨Nat.le_of_ble_eq_true rfl, Nat.le_of_ble_eq_true rfl, Nat.le_of_ble_eq_true rfl, Nat.le_of_ble_eq_true rfl⟩ dX13_load_11 (fun x3 μ2 => ?_)
  refine g_st (st' := [.int x3]) rfl ?_
  refine s_if_ne (tgt := 23) C dX13_load_14 (by decide) (fun c4 => ?_) (fun c4 => ?_)
  ·
    refine g_jl (P := fun j40 => ∀ (μ5 : Mem), G X r0 0 0 μ5 40 [(0, .ref (xa X 26 n0))] [] (j40 μ5)) (fun _ => g_none) (fun j40 hj40 => ?_) (fun j40 hj40 => ?_)
    · intro μ5
      refine g_jn (P := fun j61 => ∀ (μ6 : Mem), G X r0 0 0 μ6 61 [(0, .ref (xa X 26 n0))] [] (j61 μ6)) ?_ (fun j61 hj61 => ?_)
      · intro μ6
        refine s_aload_n C dX13_load_61 rfl 0 rfl ?_
        refine s_callV C R0 (kX13_layNames (xl X) fu n0 g0) (Nat.le_trans (by decide) V) mmX13_layNames miX13_layNames q2800 (rc26 (Nat.le_trans (by decide) V)) g0 rfl rfl rfl (Nat.le_of_ble_eq_true rfl) ⟨Nat.le_of_ble_eq_true rfl, Nat.le_of_ble_eq_true rfl, Nat.le_of_ble_eq_true rfl, Nat.le_of_ble_eq_true rfl⟩ dX13_load_62 (fun _ μ7 => ?_)
        refine g_st (st' := []) rfl ?_
        refine s_aload_n C dX13_load_65 rfl 0 rfl ?_
        refine s_callV C R0 (kX13_finish (xl X) n0 g0) (Nat.le_trans (by decide) V) mmX13_finish miX13_finish q2804 (rc26 (Nat.le_trans (by decide) V)) g0 rfl rfl rfl (Nat.le_of_ble_eq_true rfl) ⟨Nat.le_of_ble_eq_true rfl, Nat.le_of_ble_eq_true rfl, Nat.le_of_ble_eq_true rfl, Nat.le_of_ble_eq_true rfl⟩ dX13_load_66 (fun x9 μ8 => ?_)
        refine g_st (st' := [.int x9]) rfl ?_
        refine s_if_eq (tgt := 80) C dX13_load_69 (by decide) (fun c10 => ?_) (fun c10 => ?_)
        ·
          refine g_jl (P := fun j95 => ∀ (μ11 : Mem) (x12 : Int32), G X r0 0 0 μ11 95 [(0, .ref (xa X 26 n0)), (2, .int x12)] [] (j95 μ11 x12)) (fun _ _ => g_none) (fun j95 hj95 => ?_) (fun j95 hj95 => ?_)
          · intro μ11 x12
            refine s_iload_n C dX13_load_95 rfl 1 rfl ?_
            refine s_bipush (v := (16 : Int32)) C dX13_load_96 (by decide) ?_
            refine s_icmp_ge (tgt := 118) C dX13_load_98 (by decide) (fun c13 => ?_) (fun c13 => ?_)
            ·
              refine g_jl (P := fun j120 => ∀ (μ14 : Mem) (x15 : Int32), G X r0 0 0 μ14 120 [(0, .ref (xa X 26 n0)), (2, .int x15)] [] (j120 μ14 x15)) (fun _ _ => g_none) (fun j120 hj120 => ?_) (fun j120 hj120 => ?_)
              · intro μ14 x15
                refine s_iload_n C dX13_load_120 rfl 1 rfl ?_
                refine s_iconst (v := (4 : Int32)) C dX13_load_121 (by decide) ?_
                refine s_icmp_ge (tgt := 153) C dX13_load_122 (by decide) (fun c16 => ?_) (fun c16 => ?_)
                ·
                  refine s_aload_n C dX13_load_153 rfl 0 rfl ?_
                  refine s_iconst (v := (0 : Int32)) C dX13_load_154 (by decide) ?_
                  refine s_putI C (fpX13_459_26 (Nat.le_trans (by decide) V)) g0 dX13_load_155 ?_
                  refine g_nmM (fun μ17 => ?_)
                  refine s_aload_n C dX13_load_158 rfl 0 rfl ?_
                  refine s_iconst (v := (0 : Int32)) C dX13_load_159 (by decide) ?_
                  refine s_putZ C (fpX13_462_26 (Nat.le_trans (by decide) V)) g0 dX13_load_160 ?_
                  refine g_nmM (fun μ18 => ?_)
                  refine s_aload_n C dX13_load_163 rfl 0 rfl ?_
                  refine s_getF C (fgX13_9_26 (Nat.le_trans (by decide) V)) g0 dX13_load_164 ?_
                  refine s_iconst (v := (0 : Int32)) C dX13_load_167 (by decide) ?_
                  refine s_iald C (ag27 (Nat.le_trans (by decide) V)) (by decide) dX13_load_168 ?_
                  exact s_iret C E dX13_load_169
                ·
                  refine g_jn (P := fun j147 => ∀ (μ19 : Mem) (x20 : Int32), G X r0 0 0 μ19 147 [(0, .ref (xa X 26 n0)), (2, .int x20)] [] (j147 μ19 x20)) ?_ (fun j147 hj147 => ?_)
                  · intro μ19 x20
                    refine g_nmQ (fun x21 ex21 => ?_)
                    refine s_iinc (v := x21) (j := 1) (L' := [(2, .int x21), (0, .ref (xa X 26 n0))]) C dX13_load_147 rfl (by rw [ex21]; rfl) (hN 2 (by decide)) rfl ?_
                    refine s_goto (tgt := 120) C dX13_load_150 (by decide) ?_
                    exact g_sub [1, 0] rfl (hj120 μ19 x21)
                  refine s_aload_n C dX13_load_125 rfl 0 rfl ?_
                  refine s_iload_n C dX13_load_126 rfl 1 rfl ?_
                  refine s_iconst (v := (0 : Int32)) C dX13_load_127 (by decide) ?_
                  refine s_callV C R0 (kX13_setting (xl X) n0 g0 x15 (0 : Int32)) (Nat.le_trans (by decide) V) mmX13_setting miX13_setting q2241 (rc26 (Nat.le_trans (by decide) V)) g0 rfl rfl rfl (Nat.le_of_ble_eq_true rfl) ⟨Nat.le_of_ble_eq_true rfl, Nat.le_of_ble_eq_true rfl, Nat.le_of_ble_eq_true rfl, Nat.le_of_ble_eq_true rfl⟩ dX13_load_128 (fun x23 μ22 => ?_)
                  refine g_st (st' := [.int x23]) rfl ?_
                  refine s_iconst (v := (1 : Int32)) C dX13_load_131 (by decide) ?_
                  refine s_icmp_ne (tgt := 147) C dX13_load_132 (by decide) (fun c24 => ?_) (fun c24 => ?_)
                  ·
                    exact g_sub [0, 1] rfl (hj147 μ22 x15)
                  ·
                    refine s_aload_n C dX13_load_135 rfl 0 rfl ?_
                    refine s_iload_n C dX13_load_136 rfl 1 rfl ?_
                    refine s_callV C R0 (kX13_begin (xl X) fu n0 g0 x15) (Nat.le_trans (by decide) V) mmX13_begin miX13_begin q2408 (rc26 (Nat.le_trans (by decide) V)) g0 rfl rfl rfl (Nat.le_of_ble_eq_true rfl) ⟨Nat.le_of_ble_eq_true rfl, Nat.le_of_ble_eq_true rfl, Nat.le_of_ble_eq_true rfl, Nat.le_of_ble_eq_true rfl⟩ dX13_load_137 (fun _ μ25 => ?_)
                    refine g_st (st' := []) rfl ?_
                    refine s_aload_n C dX13_load_140 rfl 0 rfl ?_
                    refine s_iload_n C dX13_load_141 rfl 1 rfl ?_
                    refine s_iconst (v := (0 : Int32)) C dX13_load_142 (by decide) ?_
                    refine s_iconst (v := (1 : Int32)) C dX13_load_143 (by decide) ?_
                    refine s_callV C R0 (kX13_set (xl X) n0 g0 x15 (0 : Int32) (1 : Int32)) (Nat.le_trans (by decide) V) mmX13_set miX13_set q2383 (rc26 (Nat.le_trans (by decide) V)) g0 rfl rfl rfl (Nat.le_of_ble_eq_true rfl) ⟨Nat.le_of_ble_eq_true rfl, Nat.le_of_ble_eq_true rfl, Nat.le_of_ble_eq_true rfl, Nat.le_of_ble_eq_true rfl⟩ dX13_load_144 (fun _ μ26 => ?_)
                    refine g_st (st' := []) rfl ?_
                    exact g_sub [0, 1] rfl (hj147 μ26 x15)
              refine s_iconst (v := (0 : Int32)) C dX13_load_118 (by decide) ?_
              refine s_istore_n (L' := [(2, .int (0 : Int32)), (0, .ref (xa X 26 n0))]) C dX13_load_119 rfl (hN 2 (by decide)) rfl ?_
              exact g_sub [1, 0] rfl (hj120 μ11 (0 : Int32))
            ·
              refine s_aload_n C dX13_load_101 rfl 0 rfl ?_
              refine s_iload_n C dX13_load_102 rfl 1 rfl ?_
              refine s_iconst (v := (3 : Int32)) C dX13_load_103 (by decide) ?_
              refine s_aload_n C dX13_load_104 rfl 0 rfl ?_
              refine s_iload_n C dX13_load_105 rfl 1 rfl ?_
              refine s_callV C R0 (kX13_levelOf (xl X) n0 g0 x12) (Nat.le_trans (by decide) V) mmX13_levelOf miX13_levelOf q2263 (rc26 (Nat.le_trans (by decide) V)) g0 rfl rfl rfl (Nat.le_of_ble_eq_true rfl) ⟨Nat.le_of_ble_eq_true rfl, Nat.le_of_ble_eq_true rfl, Nat.le_of_ble_eq_true rfl, Nat.le_of_ble_eq_true rfl⟩ dX13_load_106 (fun x28 μ27 => ?_)
              refine g_st (st' := [.int x28, .int (3 : Int32), .int x12, .ref (xa X 26 n0)]) rfl ?_
              refine s_callV C R0 (kX13_putPin (xl X) n0 g0 x12 (3 : Int32) x28) (Nat.le_trans (by decide) V) mmX13_putPin miX13_putPin q2416 (rc26 (Nat.le_trans (by decide) V)) g0 rfl rfl rfl (Nat.le_of_ble_eq_true rfl) ⟨Nat.le_of_ble_eq_true rfl, Nat.le_of_ble_eq_true rfl, Nat.le_of_ble_eq_true rfl, Nat.le_of_ble_eq_true rfl⟩ dX13_load_109 (fun _ μ29 => ?_)
              refine g_st (st' := []) rfl ?_
              refine g_nmQ (fun x30 ex30 => ?_)
              refine s_iinc (v := x30) (j := 1) (L' := [(2, .int x30), (0, .ref (xa X 26 n0))]) C dX13_load_112 rfl (by rw [ex30]; rfl) (hN 2 (by decide)) rfl ?_
              refine s_goto (tgt := 95) C dX13_load_115 (by decide) ?_
              exact g_sub [1, 0] rfl (hj95 μ29 x30)
          refine s_aload_n C dX13_load_80 rfl 0 rfl ?_
          refine s_getF C (fgX13_13_26 (Nat.le_trans (by decide) V)) g0 dX13_load_81 ?_
          refine s_iconst (v := (0 : Int32)) C dX13_load_84 (by decide) ?_
          refine s_aload_n C dX13_load_85 rfl 0 rfl ?_
          refine s_getF C (fgX13_9_26 (Nat.le_trans (by decide) V)) g0 dX13_load_86 ?_
          refine s_iconst (v := (0 : Int32)) C dX13_load_89 (by decide) ?_
          refine s_callS C R0 (kX13_copy (xl X) fu 1 (by decide) (0 : Int32) 0 (by decide) (0 : Int32)) (Nat.le_trans (by decide) V) mmX13_copy q2377 q2376 rfl rfl rfl rfl (Nat.le_of_ble_eq_true rfl) ⟨Nat.le_of_ble_eq_true rfl, Nat.le_of_ble_eq_true rfl, Nat.le_of_ble_eq_true rfl, Nat.le_of_ble_eq_true rfl⟩ dX13_load_90 (fun _ μ31 => ?_)
          refine g_st (st' := []) rfl ?_
          refine s_iconst (v := (0 : Int32)) C dX13_load_93 (by decide) ?_
          refine s_istore_n (L' := [(2, .int (0 : Int32)), (0, .ref (xa X 26 n0))]) C dX13_load_94 rfl (hN 2 (by decide)) rfl ?_
          exact g_sub [1, 0] rfl (hj95 μ31 (0 : Int32))
        ·
          refine s_bipush (v := (-10 : Int32)) C dX13_load_72 (by decide) ?_
          refine s_aload_n C dX13_load_74 rfl 0 rfl ?_
          refine s_getI C (fgX13_490_26 (Nat.le_trans (by decide) V)) g0 dX13_load_75 ?_
          refine s_isub C dX13_load_78 ?_
          exact s_iret C E dX13_load_79
      refine s_aload_n C dX13_load_40 rfl 0 rfl ?_
      refine s_getI C (fgX13_490_26 (Nat.le_trans (by decide) V)) g0 dX13_load_41 ?_
      refine s_if_ne (tgt := 61) C dX13_load_44 (by decide) (fun c32 => ?_) (fun c32 => ?_)
      ·
        exact g_sub [0] rfl (hj61 μ5)
      ·
        refine s_aload_n C dX13_load_47 rfl 0 rfl ?_
        refine s_getI C (fgX13_481_26 (Nat.le_trans (by decide) V)) g0 dX13_load_48 ?_
        refine s_if_eq (tgt := 61) C dX13_load_51 (by decide) (fun c33 => ?_) (fun c33 => ?_)
        ·
          exact g_sub [0] rfl (hj61 μ5)
        ·
          refine s_aload_n C dX13_load_54 rfl 0 rfl ?_
          refine s_callV C R0 (kX13_readClause (xl X) fu n0 g0) (Nat.le_trans (by decide) V) mmX13_readClause miX13_readClause q2662 (rc26 (Nat.le_trans (by decide) V)) g0 rfl rfl rfl (Nat.le_of_ble_eq_true rfl) ⟨Nat.le_of_ble_eq_true rfl, Nat.le_of_ble_eq_true rfl, Nat.le_of_ble_eq_true rfl, Nat.le_of_ble_eq_true rfl⟩ dX13_load_55 (fun _ μ34 => ?_)
          refine g_st (st' := []) rfl ?_
          refine s_goto (tgt := 40) C dX13_load_58 (by decide) ?_
          exact g_sub [0] rfl (hj40 μ34)
    refine s_aload_n C dX13_load_23 rfl 0 rfl ?_
    refine s_getF C (fgX13_13_26 (Nat.le_trans (by decide) V)) g0 dX13_load_24 ?_
    refine s_callS C R0 (kX13_clear (xl X) fu 1 (by decide)) (Nat.le_trans (by decide) V) mmX13_clear q2084 q2083 rfl rfl rfl rfl (Nat.le_of_ble_eq_true rfl) ⟨Nat.le_of_ble_eq_true rfl, Nat.le_of_ble_eq_true rfl, Nat.le_of_ble_eq_true rfl, Nat.le_of_ble_eq_true rfl⟩ dX13_load_27 (fun _ μ35 => ?_)
    refine g_st (st' := []) rfl ?_
    refine s_aload_n C dX13_load_30 rfl 0 rfl ?_
    refine s_iconst (v := (0 : Int32)) C dX13_load_31 (by decide) ?_
    refine s_putI C (fpX13_540_26 (Nat.le_trans (by decide) V)) g0 dX13_load_32 ?_
    refine g_nmM (fun μ36 => ?_)
    refine s_aload_n C dX13_load_35 rfl 0 rfl ?_
    refine s_iload_n C dX13_load_36 rfl 1 rfl ?_
    refine s_callV C R0 (kX13_startText (xl X) fu n0 g0 p1) (Nat.le_trans (by decide) V) mmX13_startText miX13_startText q2642 (rc26 (Nat.le_trans (by decide) V)) g0 rfl rfl rfl (Nat.le_of_ble_eq_true rfl) ⟨Nat.le_of_ble_eq_true rfl, Nat.le_of_ble_eq_true rfl, Nat.le_of_ble_eq_true rfl, Nat.le_of_ble_eq_true rfl⟩ dX13_load_37 (fun _ μ37 => ?_)
    refine g_st (st' := []) rfl ?_
    exact g_sub [0] rfl (hj40 μ37)
  ·
    refine s_aload_n C dX13_load_17 rfl 0 rfl ?_
    refine s_iconst (v := (1 : Int32)) C dX13_load_18 (by decide) ?_
    refine s_callV C R0 (kX13_raise (xl X) n0 g0 (1 : Int32)) (Nat.le_trans (by decide) V) mmX13_raise miX13_raise q2259 (rc26 (Nat.le_trans (by decide) V)) g0 rfl rfl rfl (Nat.le_of_ble_eq_true rfl) ⟨Nat.le_of_ble_eq_true rfl, Nat.le_of_ble_eq_true rfl, Nat.le_of_ble_eq_true rfl, Nat.le_of_ble_eq_true rfl⟩ dX13_load_19 (fun x39 μ38 => ?_)
    refine g_st (st' := [.int x39]) rfl ?_
    exact s_iret C E dX13_load_22
/-! PinEnginesModel.write(Ljava/lang/String;)V -/
def fX13_write_ (fu : Nat) (n0 : Nat) (n1 : Nat) (μ : Mem) : Option (Unit × Mem) :=
  jn (fun (μ1 : Mem) =>
    jn (lp (fun _ _ => none) fu (fun j30 (μ2 : Mem) (x3 : Int32) =>
      bnd (fJ0_length_8abf5 n1 μ2) fun x5 μ4 =>
      if x5 ≤ x3 then (
        some ((), μ4)
      ) else (
        bnd (fJ0_charAt_5068e n1 x3 μ4) fun x8 μ7 =>
        ckI (μ4.1 26 n0 41) (mil.getD 13 0) <|
        nm (wI μ7 28 13 (μ4.1 26 n0 41).toNatClampNeg x8) fun μ9 =>
        nm (wI μ9 26 n0 41 ((μ9.1 26 n0 41) + (1 : Int32))) fun μ10 =>
        nm (x3 + (1 : Int32)) fun x11 =>
        j30 μ10 x11
      )
    )) fun j30 =>
    j30 μ1 (0 : Int32)
  ) fun j28 =>
  if (μ.1 26 n0 41) ≤ 0 then (
    j28 μ
  ) else (
    ckI (μ.1 26 n0 41) (mil.getD 13 0) <|
    nm (wI μ 28 13 (μ.1 26 n0 41).toNatClampNeg (32 : Int32)) fun μ13 =>
    nm (wI μ13 26 n0 41 ((μ13.1 26 n0 41) + (1 : Int32))) fun μ14 =>
    j28 μ14
  )
set_option maxHeartbeats 4000000 in
set_option maxRecDepth 100000 in
theorem kX13_write_ (l : Launch) (fu : Nat) (n0 : Nat) (g0 : n0 < 1) (n1 : Nat) (g1 : n1 < 70) : Kon 1 l yX13_write_ cX13_write_ 3 (none) 4 85 0 0 (fun ad => [.ref (ad 26 n0), .ref (ad 51 n1)]) rvV (fun μ => fX13_write_ fu n0 n1 μ) := by
  refine kon_of (by decide) (fun _ => Nat.le_of_ble_eq_true rfl) (fun X r0 μ hXl hXn V C E => ?_)
  have hN : ∀ i : Nat, i < 3 → i < xn X := fun i h => hXn.symm ▸ h
  have R0 := fen_rm E
  show G X r0 0 0 μ 0 [(0, .ref (xa X 26 n0)), (1, .ref (xa X 51 n1))] [] (fX13_write_ fu n0 n1 μ)
  unfold fX13_write_
  refine g_jn (P := fun j28 => ∀ (μ1 : Mem), G X r0 0 0 μ1 28 [(0, .ref (xa X 26 n0)), (1, .ref (xa X 51 n1))] [] (j28 μ1)) ?_ (fun j28 hj28 => ?_)
  · intro μ1
    refine g_jl (P := fun j30 => ∀ (μ2 : Mem) (x3 : Int32), G X r0 0 0 μ2 30 [(0, .ref (xa X 26 n0)), (1, .ref (xa X 51 n1)), (2, .int x3)] [] (j30 μ2 x3)) (fun _ _ => g_none) (fun j30 hj30 => ?_) (fun j30 hj30 => ?_)
    · intro μ2 x3
      refine s_iload_n C dX13_write__30 rfl 2 rfl ?_
      refine s_aload_n C dX13_write__31 rfl 1 rfl ?_
      refine s_callT C R0 (kJ0_length_8abf5 (xl X) n1 g1) (Nat.le_trans (by decide) V) mmJ0_length_8abf5 miJ0_length_8abf5 q2674 rfl g1 rfl rfl rfl (Nat.le_of_ble_eq_true rfl) ⟨Nat.le_of_ble_eq_true rfl, Nat.le_of_ble_eq_true rfl, Nat.le_of_ble_eq_true rfl, Nat.le_of_ble_eq_true rfl⟩ dX13_write__32 (fun x5 μ4 => ?_)
      refine g_st (st' := [.int x5, .int x3]) rfl ?_
      refine s_icmp_ge (tgt := 68) C dX13_write__35 (by decide) (fun c6 => ?_) (fun c6 => ?_)
      ·
        exact s_vret C E dX13_write__68
      ·
        refine s_aload_n C dX13_write__38 rfl 0 rfl ?_
        refine s_getF C (fgX13_213_26 (Nat.le_trans (by decide) V)) g0 dX13_write__39 ?_
        refine s_aload_n C dX13_write__42 rfl 0 rfl ?_
        refine s_getI C (fgX13_630_26 (Nat.le_trans (by decide) V)) g0 dX13_write__43 ?_
        refine s_aload_n C dX13_write__46 rfl 1 rfl ?_
        refine s_iload_n C dX13_write__47 rfl 2 rfl ?_
        refine s_callT C R0 (kJ0_charAt_5068e (xl X) n1 g1 x3) (Nat.le_trans (by decide) V) mmJ0_charAt_5068e miJ0_charAt_5068e q2675 rfl g1 rfl rfl rfl (Nat.le_of_ble_eq_true rfl) ⟨Nat.le_of_ble_eq_true rfl, Nat.le_of_ble_eq_true rfl, Nat.le_of_ble_eq_true rfl, Nat.le_of_ble_eq_true rfl⟩ dX13_write__48 (fun x8 μ7 => ?_)
        refine g_st (st' := [.int x8, .int (μ4.1 26 n0 41), .ref (xa X 28 13)]) rfl ?_
        refine s_iast C (ag28 (Nat.le_trans (by decide) V)) (by decide) dX13_write__51 ?_
        refine g_nmM (fun μ9 => ?_)
        refine s_aload_n C dX13_write__52 rfl 0 rfl ?_
        refine s_dup C dX13_write__53 rfl ?_
        refine s_getI C (fgX13_630_26 (Nat.le_trans (by decide) V)) g0 dX13_write__54 ?_
        refine s_iconst (v := (1 : Int32)) C dX13_write__57 (by decide) ?_
        refine s_iadd C dX13_write__58 ?_
        refine s_putI C (fpX13_630_26 (Nat.le_trans (by decide) V)) g0 dX13_write__59 ?_
        refine g_nmM (fun μ10 => ?_)
        refine g_nmQ (fun x11 ex11 => ?_)
        refine s_iinc (v := x11) (j := 2) (L' := [(2, .int x11), (0, .ref (xa X 26 n0)), (1, .ref (xa X 51 n1))]) C dX13_write__62 rfl (by rw [ex11]; rfl) (hN 2 (by decide)) rfl ?_
        refine s_goto (tgt := 30) C dX13_write__65 (by decide) ?_
        exact g_sub [1, 2, 0] rfl (hj30 μ10 x11)
    refine s_iconst (v := (0 : Int32)) C dX13_write__28 (by decide) ?_
    refine s_istore_n (L' := [(2, .int (0 : Int32)), (0, .ref (xa X 26 n0)), (1, .ref (xa X 51 n1))]) C dX13_write__29 rfl (hN 2 (by decide)) rfl ?_
    exact g_sub [1, 2, 0] rfl (hj30 μ1 (0 : Int32))
  refine s_aload_n C dX13_write__0 rfl 0 rfl ?_
  refine s_getI C (fgX13_630_26 (Nat.le_trans (by decide) V)) g0 dX13_write__1 ?_
  refine s_if_le (tgt := 28) C dX13_write__4 (by decide) (fun c12 => ?_) (fun c12 => ?_)
  ·
    exact g_sub [0, 1] rfl (hj28 μ)
  ·
    refine s_aload_n C dX13_write__7 rfl 0 rfl ?_
    refine s_getF C (fgX13_213_26 (Nat.le_trans (by decide) V)) g0 dX13_write__8 ?_
    refine s_aload_n C dX13_write__11 rfl 0 rfl ?_
    refine s_getI C (fgX13_630_26 (Nat.le_trans (by decide) V)) g0 dX13_write__12 ?_
    refine s_bipush (v := (32 : Int32)) C dX13_write__15 (by decide) ?_
    refine s_iast C (ag28 (Nat.le_trans (by decide) V)) (by decide) dX13_write__17 ?_
    refine g_nmM (fun μ13 => ?_)
    refine s_aload_n C dX13_write__18 rfl 0 rfl ?_
    refine s_dup C dX13_write__19 rfl ?_
    refine s_getI C (fgX13_630_26 (Nat.le_trans (by decide) V)) g0 dX13_write__20 ?_
    refine s_iconst (v := (1 : Int32)) C dX13_write__23 (by decide) ?_
    refine s_iadd C dX13_write__24 ?_
    refine s_putI C (fpX13_630_26 (Nat.le_trans (by decide) V)) g0 dX13_write__25 ?_
    refine g_nmM (fun μ14 => ?_)
    exact g_sub [0, 1] rfl (hj28 μ14)
/-! PinEnginesModel.writeIf(ZLjava/lang/String;)V -/
def fX13_writeIf (fu : Nat) (n0 : Nat) (p1 : Int32) (n2 : Nat) (μ : Mem) : Option (Unit × Mem) :=
  jn (fun (μ1 : Mem) =>
    some ((), μ1)
  ) fun j9 =>
  if p1 = 0 then (
    j9 μ
  ) else (
    bnd (fX13_write_ fu n0 n2 μ) fun _ μ3 =>
    j9 μ3
  )
set_option maxHeartbeats 4000000 in
set_option maxRecDepth 100000 in
theorem kX13_writeIf (l : Launch) (fu : Nat) (n0 : Nat) (g0 : n0 < 1) (p1 : Int32) (n2 : Nat) (g2 : n2 < 70) : Kon 1 l yX13_writeIf cX13_writeIf 3 (none) 5 107 0 0 (fun ad => [.ref (ad 26 n0), .int p1, .ref (ad 51 n2)]) rvV (fun μ => fX13_writeIf fu n0 p1 n2 μ) := by
  refine kon_of (by decide) (fun _ => Nat.le_of_ble_eq_true rfl) (fun X r0 μ hXl hXn V C E => ?_)
  have hN : ∀ i : Nat, i < 3 → i < xn X := fun i h => hXn.symm ▸ h
  have R0 := fen_rm E
  show G X r0 0 0 μ 0 [(0, .ref (xa X 26 n0)), (1, .int p1), (2, .ref (xa X 51 n2))] [] (fX13_writeIf fu n0 p1 n2 μ)
  unfold fX13_writeIf
  refine g_jn (P := fun j9 => ∀ (μ1 : Mem), G X r0 0 0 μ1 9 [] [] (j9 μ1)) ?_ (fun j9 hj9 => ?_)
  · intro μ1
    exact s_vret C E dX13_writeIf_9
  refine s_iload_n C dX13_writeIf_0 rfl 1 rfl ?_
  refine s_if_eq (tgt := 9) C dX13_writeIf_1 (by decide) (fun c2 => ?_) (fun c2 => ?_)
  ·
    exact g_sub [] rfl (hj9 μ)
  ·
    refine s_aload_n C dX13_writeIf_4 rfl 0 rfl ?_
    refine s_aload_n C dX13_writeIf_5 rfl 2 rfl ?_
    refine s_callV C R0 (kX13_write_ (xl X) fu n0 g0 n2 g2) (Nat.le_trans (by decide) V) mmX13_write_ miX13_write_ q2812 (rc26 (Nat.le_trans (by decide) V)) g0 rfl rfl rfl (Nat.le_of_ble_eq_true rfl) ⟨Nat.le_of_ble_eq_true rfl, Nat.le_of_ble_eq_true rfl, Nat.le_of_ble_eq_true rfl, Nat.le_of_ble_eq_true rfl⟩ dX13_writeIf_6 (fun _ μ3 => ?_)
    refine g_st (st' := []) rfl ?_
    exact g_sub [] rfl (hj9 μ3)
/-! PinEnginesModel.formattedByte(I)I -/
def fX13_formattedByte (n0 : Nat) (p1 : Int32) (μ : Mem) : Option (Int32 × Mem) :=
  jn (fun (μ1 : Mem) (x2 : Int32) =>
    some (x2, μ1)
  ) fun j29 =>
  nm (wI μ 26 n0 6 (0 : Int32)) fun μ3 =>
  bnd (fX13_inRange p1 (0 : Int32) ((μ3.1 26 n0 41) - (1 : Int32)) μ3) fun x5 μ4 =>
  if x5 = 0 then (
    j29 μ4 (-1 : Int32)
  ) else (
    ckI p1 (mil.getD 13 0) <|
    j29 μ4 (μ4.1 28 13 p1.toNatClampNeg)
  )
set_option maxHeartbeats 4000000 in
set_option maxRecDepth 100000 in
theorem kX13_formattedByte (l : Launch) (n0 : Nat) (g0 : n0 < 1) (p1 : Int32) : Kon 1 l yX13_formattedByte cX13_formattedByte 2 (some .int) 1 22 0 0 (fun ad => [.ref (ad 26 n0), .int p1]) rvI (fun μ => fX13_formattedByte n0 p1 μ) := by
  refine kon_of (by decide) (fun _ => Nat.le_of_ble_eq_true rfl) (fun X r0 μ hXl hXn V C E => ?_)
  have hN : ∀ i : Nat, i < 2 → i < xn X := fun i h => hXn.symm ▸ h
  have R0 := fen_rm E
  show G X r0 0 0 μ 0 [(0, .ref (xa X 26 n0)), (1, .int p1)] [] (fX13_formattedByte n0 p1 μ)
  unfold fX13_formattedByte
  refine g_jn (P := fun j29 => ∀ (μ1 : Mem) (x2 : Int32), G X r0 0 0 μ1 29 [] [.int x2] (j29 μ1 x2)) ?_ (fun j29 hj29 => ?_)
  · intro μ1 x2
    exact s_iret C E dX13_formattedByte_29
  refine s_aload_n C dX13_formattedByte_0 rfl 0 rfl ?_
  refine s_iconst (v := (0 : Int32)) C dX13_formattedByte_1 (by decide) ?_
  refine s_putI C (fpX13_231_26 (Nat.le_trans (by decide) V)) g0 dX13_formattedByte_2 ?_
  refine g_nmM (fun μ3 => ?_)
  refine s_iload_n C dX13_formattedByte_5 rfl 1 rfl ?_
  refine s_iconst (v := (0 : Int32)) C dX13_formattedByte_6 (by decide) ?_
  refine s_aload_n C dX13_formattedByte_7 rfl 0 rfl ?_
  refine s_getI C (fgX13_630_26 (Nat.le_trans (by decide) V)) g0 dX13_formattedByte_8 ?_
  refine s_iconst (v := (1 : Int32)) C dX13_formattedByte_11 (by decide) ?_
  refine s_isub C dX13_formattedByte_12 ?_
  refine s_callS C R0 (kX13_inRange (xl X) p1 (0 : Int32) ((μ3.1 26 n0 41) - (1 : Int32))) (Nat.le_trans (by decide) V) mmX13_inRange q2257 q2256 rfl rfl rfl rfl (Nat.le_of_ble_eq_true rfl) ⟨Nat.le_of_ble_eq_true rfl, Nat.le_of_ble_eq_true rfl, Nat.le_of_ble_eq_true rfl, Nat.le_of_ble_eq_true rfl⟩ dX13_formattedByte_13 (fun x5 μ4 => ?_)
  refine g_st (st' := [.int x5]) rfl ?_
  refine s_if_eq (tgt := 28) C dX13_formattedByte_16 (by decide) (fun c6 => ?_) (fun c6 => ?_)
  ·
    refine s_iconst (v := (-1 : Int32)) C dX13_formattedByte_28 (by decide) ?_
    exact g_sub [] rfl (hj29 μ4 (-1 : Int32))
  ·
    refine s_aload_n C dX13_formattedByte_19 rfl 0 rfl ?_
    refine s_getF C (fgX13_213_26 (Nat.le_trans (by decide) V)) g0 dX13_formattedByte_20 ?_
    refine s_iload_n C dX13_formattedByte_23 rfl 1 rfl ?_
    refine s_iald C (ag28 (Nat.le_trans (by decide) V)) (by decide) dX13_formattedByte_24 ?_
    refine s_goto (tgt := 29) C dX13_formattedByte_25 (by decide) ?_
    exact g_sub [] rfl (hj29 μ4 (μ4.1 28 13 p1.toNatClampNeg))
/-! PinEnginesModel.emit(I)V -/
def fX13_emit (n0 : Nat) (p1 : Int32) (μ : Mem) : Option (Unit × Mem) :=
  jn (fun (μ1 : Mem) =>
    some ((), μ1)
  ) fun j27 =>
  if ¬ (μ.1 26 n0 26) = 0 then (
    j27 μ
  ) else (
    ckI (μ.1 26 n0 46) (mil.getD 15 0) <|
    nm (wI μ 28 15 (μ.1 26 n0 46).toNatClampNeg p1) fun μ3 =>
    nm (wI μ3 26 n0 46 ((μ3.1 26 n0 46) + (1 : Int32))) fun μ4 =>
    j27 μ4
  )
set_option maxHeartbeats 4000000 in
set_option maxRecDepth 100000 in
theorem kX13_emit (l : Launch) (n0 : Nat) (g0 : n0 < 1) (p1 : Int32) : Kon 1 l yX13_emit cX13_emit 2 (none) 0 0 0 0 (fun ad => [.ref (ad 26 n0), .int p1]) rvV (fun μ => fX13_emit n0 p1 μ) := by
  refine kon_of (by decide) (fun _ => Nat.le_of_ble_eq_true rfl) (fun X r0 μ hXl hXn V C E => ?_)
  have hN : ∀ i : Nat, i < 2 → i < xn X := fun i h => hXn.symm ▸ h
  have R0 := fen_rm E
  show G X r0 0 0 μ 0 [(0, .ref (xa X 26 n0)), (1, .int p1)] [] (fX13_emit n0 p1 μ)
  unfold fX13_emit
  refine g_jn (P := fun j27 => ∀ (μ1 : Mem), G X r0 0 0 μ1 27 [] [] (j27 μ1)) ?_ (fun j27 hj27 => ?_)
  · intro μ1
    exact s_vret C E dX13_emit_27
  refine s_aload_n C dX13_emit_0 rfl 0 rfl ?_
  refine s_getI C (fgX13_490_26 (Nat.le_trans (by decide) V)) g0 dX13_emit_1 ?_
  refine s_if_ne (tgt := 27) C dX13_emit_4 (by decide) (fun c2 => ?_) (fun c2 => ?_)
  ·
    exact g_sub [] rfl (hj27 μ)
  ·
    refine s_aload_n C dX13_emit_7 rfl 0 rfl ?_
    refine s_getF C (fgX13_222_26 (Nat.le_trans (by decide) V)) g0 dX13_emit_8 ?_
    refine s_aload_n C dX13_emit_11 rfl 0 rfl ?_
    refine s_getI C (fgX13_651_26 (Nat.le_trans (by decide) V)) g0 dX13_emit_12 ?_
    refine s_iload_n C dX13_emit_15 rfl 1 rfl ?_
    refine s_iast C (ag28 (Nat.le_trans (by decide) V)) (by decide) dX13_emit_16 ?_
    refine g_nmM (fun μ3 => ?_)
    refine s_aload_n C dX13_emit_17 rfl 0 rfl ?_
    refine s_dup C dX13_emit_18 rfl ?_
    refine s_getI C (fgX13_651_26 (Nat.le_trans (by decide) V)) g0 dX13_emit_19 ?_
    refine s_iconst (v := (1 : Int32)) C dX13_emit_22 (by decide) ?_
    refine s_iadd C dX13_emit_23 ?_
    refine s_putI C (fpX13_651_26 (Nat.le_trans (by decide) V)) g0 dX13_emit_24 ?_
    refine g_nmM (fun μ4 => ?_)
    exact g_sub [] rfl (hj27 μ4)
