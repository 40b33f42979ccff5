/-! PinEngines.undo()I -/
def fX12_undo (fu : Nat) (n0 : Nat) (μ : Mem) : Option (Int32 × Mem) :=
  if ¬ (μ.1 0 n0 15) = 0 then (
    ckD (10 : Int32) <|
    nm (wI μ 0 n0 14 ((((μ.1 0 n0 14) + (10 : Int32)) - (1 : Int32)) - (((μ.1 0 n0 14) + (10 : Int32)) - (1 : Int32)) / (10 : Int32) * (10 : Int32))) fun μ2 =>
    nm (wI μ2 0 n0 15 ((μ2.1 0 n0 15) - (1 : Int32))) fun μ3 =>
    ckI (μ3.1 0 n0 14) (10) <|
    bnd (fX3_copyFrom fu 0 (3 + (μ3.1 0 n0 14).toNatClampNeg) μ3) fun _ μ6 =>
    some ((μ6.1 0 n0 15), μ6)
  ) else (
    some ((-1 : Int32), μ)
  )
set_option maxHeartbeats 4000000 in
set_option maxRecDepth 100000 in
theorem kX12_undo (l : Launch) (fu : Nat) (n0 : Nat) (g0 : n0 < 1) : Kon 0 l yX12_undo cX12_undo 1 (some .int) 4 104 0 0 (fun ad => [.ref (ad 0 n0)]) rvI (fun μ => fX12_undo fu n0 μ) := by
  refine kon_of (by decide) (fun _ => Nat.le_of_ble_eq_true rfl) (fun X r0 μ hXl hXn V C E => ?_)
  have hN : ∀ i : Nat, i < 1 → i < xn X := fun i h => hXn.symm ▸ h
  have R0 := fen_rm E
  show G X r0 0 0 μ 0 [(0, .ref (xa X 0 n0))] [] (fX12_undo fu n0 μ)
  unfold fX12_undo
  refine s_aload_n C dX12_undo_0 rfl 0 rfl ?_
  refine s_getI C (fgX12_90_0 _) g0 dX12_undo_1 ?_
  refine s_if_ne (tgt := 9) C dX12_undo_4 (by decide) (fun c1 => ?_) (fun c1 => ?_)
  ·
    refine s_aload_n C dX12_undo_9 rfl 0 rfl ?_
    refine s_aload_n C dX12_undo_10 rfl 0 rfl ?_
    refine s_getI C (fgX12_87_0 _) g0 dX12_undo_11 ?_
    refine s_bipush (v := (10 : Int32)) C dX12_undo_14 (by decide) ?_
    refine s_iadd C dX12_undo_16 ?_
    refine s_iconst (v := (1 : Int32)) C dX12_undo_17 (by decide) ?_
    refine s_isub C dX12_undo_18 ?_
    refine s_bipush (v := (10 : Int32)) C dX12_undo_19 (by decide) ?_
    refine s_irem C dX12_undo_21 ?_
    refine s_putI C (fpX12_87_0 _) g0 dX12_undo_22 ?_
    refine g_nmM (fun μ2 => ?_)
    refine s_aload_n C dX12_undo_25 rfl 0 rfl ?_
    refine s_dup C dX12_undo_26 rfl ?_
    refine s_getI C (fgX12_90_0 _) g0 dX12_undo_27 ?_
    refine s_iconst (v := (1 : Int32)) C dX12_undo_30 (by decide) ?_
    refine s_isub C dX12_undo_31 ?_
    refine s_putI C (fpX12_90_0 _) g0 dX12_undo_32 ?_
    refine g_nmM (fun μ3 => ?_)
    refine s_aload_n C dX12_undo_35 rfl 0 rfl ?_
    refine s_getF C (fgX12_51_0 _) g0 dX12_undo_36 ?_
    refine s_aload_n C dX12_undo_39 rfl 0 rfl ?_
    refine s_getF C (fgX12_83_0 _) g0 dX12_undo_40 ?_
    refine s_aload_n C dX12_undo_43 rfl 0 rfl ?_
    refine s_getI C (fgX12_87_0 _) g0 dX12_undo_44 ?_
    refine s_aaldF C (ag25 _) (fun _ => rfl) (by decide) dX12_undo_47 (fun c4 => ?_)
    have b5 : 3 + (μ3.1 0 n0 14).toNatClampNeg < 13 := by have := c4; omega
    refine s_callV C R0 (kX3_copyFrom (xl X) fu 0 (by decide) (3 + (μ3.1 0 n0 14).toNatClampNeg) b5) (Nat.le_trans (by decide) V) mmX3_copyFrom miX3_copyFrom q870 (rc12 _) (by decide) rfl rfl rfl (Nat.le_of_ble_eq_true rfl) ⟨Nat.le_of_ble_eq_true rfl, Nat.le_of_ble_eq_true rfl, Nat.le_of_ble_eq_true rfl, Nat.le_of_ble_eq_true rfl⟩ dX12_undo_48 (fun _ μ6 => ?_)
    refine g_st (st' := []) rfl ?_
    refine s_aload_n C dX12_undo_51 rfl 0 rfl ?_
    refine s_getI C (fgX12_90_0 _) g0 dX12_undo_52 ?_
    exact s_iret C E dX12_undo_55
  ·
    refine s_iconst (v := (-1 : Int32)) C dX12_undo_7 (by decide) ?_
    exact s_iret C E dX12_undo_8
/-! PinEngines.saveSnapshot()V -/
def fX12_saveSnapshot (fu : Nat) (n0 : Nat) (μ : Mem) : Option (Unit × Mem) :=
  bnd (fX3_copyFrom fu 2 0 μ) fun _ μ1 =>
  ckZ (1 : Int32) <|
  nm (wI μ1 0 n0 12 (1 : Int32)) fun μ2 =>
  some ((), μ2)
set_option maxHeartbeats 4000000 in
set_option maxRecDepth 100000 in
theorem kX12_saveSnapshot (l : Launch) (fu : Nat) (n0 : Nat) (g0 : n0 < 1) : Kon 0 l yX12_saveSnapshot cX12_saveSnapshot 1 (none) 4 104 0 0 (fun ad => [.ref (ad 0 n0)]) rvV (fun μ => fX12_saveSnapshot fu n0 μ) := by
  refine kon_of (by decide) (fun _ => Nat.le_of_ble_eq_true rfl) (fun X r0 μ hXl hXn V C E => ?_)
  have hN : ∀ i : Nat, i < 1 → i < xn X := fun i h => hXn.symm ▸ h
  have R0 := fen_rm E
  show G X r0 0 0 μ 0 [(0, .ref (xa X 0 n0))] [] (fX12_saveSnapshot fu n0 μ)
  unfold fX12_saveSnapshot
  refine s_aload_n C dX12_saveSnapshot_0 rfl 0 rfl ?_
  refine s_getF C (fgX12_76_0 _) g0 dX12_saveSnapshot_1 ?_
  refine s_aload_n C dX12_saveSnapshot_4 rfl 0 rfl ?_
  refine s_getF C (fgX12_51_0 _) g0 dX12_saveSnapshot_5 ?_
  refine s_callV C R0 (kX3_copyFrom (xl X) fu 2 (by decide) 0 (by decide)) (Nat.le_trans (by decide) V) mmX3_copyFrom miX3_copyFrom q870 (rc12 _) (by decide) rfl rfl rfl (Nat.le_of_ble_eq_true rfl) ⟨Nat.le_of_ble_eq_true rfl, Nat.le_of_ble_eq_true rfl, Nat.le_of_ble_eq_true rfl, Nat.le_of_ble_eq_true rfl⟩ dX12_saveSnapshot_8 (fun _ μ1 => ?_)
  refine g_st (st' := []) rfl ?_
  refine s_aload_n C dX12_saveSnapshot_11 rfl 0 rfl ?_
  refine s_iconst (v := (1 : Int32)) C dX12_saveSnapshot_12 (by decide) ?_
  refine s_putZ C (fpX12_79_0 _) g0 dX12_saveSnapshot_13 ?_
  refine g_nmM (fun μ2 => ?_)
  exact s_vret C E dX12_saveSnapshot_16
/-! PinEngines.restoreSnapshot()Z -/
def fX12_restoreSnapshot (fu : Nat) (n0 : Nat) (μ : Mem) : Option (Int32 × Mem) :=
  if ¬ (μ.1 0 n0 12) = 0 then (
    bnd (fX3_copyFrom fu 0 2 μ) fun _ μ2 =>
    nm (wI μ2 0 n0 15 (0 : Int32)) fun μ3 =>
    ckZ (1 : Int32) (some ((1 : Int32), μ3))
  ) else (
    ckZ (0 : Int32) (some ((0 : Int32), μ))
  )
set_option maxHeartbeats 4000000 in
set_option maxRecDepth 100000 in
theorem kX12_restoreSnapshot (l : Launch) (fu : Nat) (n0 : Nat) (g0 : n0 < 1) : Kon 0 l yX12_restoreSnapshot cX12_restoreSnapshot 1 (some .boolean) 4 104 0 0 (fun ad => [.ref (ad 0 n0)]) rvI (fun μ => fX12_restoreSnapshot fu n0 μ) := by
  refine kon_of (by decide) (fun _ => Nat.le_of_ble_eq_true rfl) (fun X r0 μ hXl hXn V C E => ?_)
  have hN : ∀ i : Nat, i < 1 → i < xn X := fun i h => hXn.symm ▸ h
  have R0 := fen_rm E
  show G X r0 0 0 μ 0 [(0, .ref (xa X 0 n0))] [] (fX12_restoreSnapshot fu n0 μ)
  unfold fX12_restoreSnapshot
  refine s_aload_n C dX12_restoreSnapshot_0 rfl 0 rfl ?_
  refine s_getI C (fgX12_79_0 _) g0 dX12_restoreSnapshot_1 ?_
  refine s_if_ne (tgt := 9) C dX12_restoreSnapshot_4 (by decide) (fun c1 => ?_) (fun c1 => ?_)
  ·
    refine s_aload_n C dX12_restoreSnapshot_9 rfl 0 rfl ?_
    refine s_getF C (fgX12_51_0 _) g0 dX12_restoreSnapshot_10 ?_
    refine s_aload_n C dX12_restoreSnapshot_13 rfl 0 rfl ?_
    refine s_getF C (fgX12_76_0 _) g0 dX12_restoreSnapshot_14 ?_
    refine s_callV C R0 (kX3_copyFrom (xl X) fu 0 (by decide) 2 (by decide)) (Nat.le_trans (by decide) V) mmX3_copyFrom miX3_copyFrom q870 (rc12 _) (by decide) rfl rfl rfl (Nat.le_of_ble_eq_true rfl) ⟨Nat.le_of_ble_eq_true rfl, Nat.le_of_ble_eq_true rfl, Nat.le_of_ble_eq_true rfl, Nat.le_of_ble_eq_true rfl⟩ dX12_restoreSnapshot_17 (fun _ μ2 => ?_)
    refine g_st (st' := []) rfl ?_
    refine s_aload_n C dX12_restoreSnapshot_20 rfl 0 rfl ?_
    refine s_iconst (v := (0 : Int32)) C dX12_restoreSnapshot_21 (by decide) ?_
    refine s_putI C (fpX12_90_0 _) g0 dX12_restoreSnapshot_22 ?_
    refine g_nmM (fun μ3 => ?_)
    refine s_iconst (v := (1 : Int32)) C dX12_restoreSnapshot_25 (by decide) ?_
    exact s_zret C E dX12_restoreSnapshot_26
  ·
    refine s_iconst (v := (0 : Int32)) C dX12_restoreSnapshot_7 (by decide) ?_
    exact s_zret C E dX12_restoreSnapshot_8
/-! PinEngines.remember()V -/
def fX12_remember (fu : Nat) (n0 : Nat) (μ : Mem) : Option (Unit × Mem) :=
  ckI (μ.1 0 n0 14) (10) <|
  bnd (fX3_copyFrom fu (3 + (μ.1 0 n0 14).toNatClampNeg) 0 μ) fun _ μ3 =>
  ckD (10 : Int32) <|
  nm (wI μ3 0 n0 14 (((μ3.1 0 n0 14) + (1 : Int32)) - ((μ3.1 0 n0 14) + (1 : Int32)) / (10 : Int32) * (10 : Int32))) fun μ4 =>
  nm (wI μ4 0 n0 15 (if (10 : Int32) < ((μ4.1 0 n0 15) + (1 : Int32)) then (10 : Int32) else ((μ4.1 0 n0 15) + (1 : Int32)))) fun μ5 =>
  some ((), μ5)
set_option maxHeartbeats 4000000 in
set_option maxRecDepth 100000 in
theorem kX12_remember (l : Launch) (fu : Nat) (n0 : Nat) (g0 : n0 < 1) : Kon 0 l yX12_remember cX12_remember 1 (none) 4 104 0 0 (fun ad => [.ref (ad 0 n0)]) rvV (fun μ => fX12_remember fu n0 μ) := by
  refine kon_of (by decide) (fun _ => Nat.le_of_ble_eq_true rfl) (fun X r0 μ hXl hXn V C E => ?_)
  have hN : ∀ i : Nat, i < 1 → i < xn X := fun i h => hXn.symm ▸ h
  have R0 := fen_rm E
  show G X r0 0 0 μ 0 [(0, .ref (xa X 0 n0))] [] (fX12_remember fu n0 μ)
  unfold fX12_remember
  refine s_aload_n C dX12_remember_0 rfl 0 rfl ?_
  refine s_getF C (fgX12_83_0 _) g0 dX12_remember_1 ?_
  refine s_aload_n C dX12_remember_4 rfl 0 rfl ?_
  refine s_getI C (fgX12_87_0 _) g0 dX12_remember_5 ?_
  refine s_aaldF C (ag25 _) (fun _ => rfl) (by decide) dX12_remember_8 (fun c1 => ?_)
  have b2 : 3 + (μ.1 0 n0 14).toNatClampNeg < 13 := by have := c1; omega
  refine s_aload_n C dX12_remember_9 rfl 0 rfl ?_
  refine s_getF C (fgX12_51_0 _) g0 dX12_remember_10 ?_
  refine s_callV C R0 (kX3_copyFrom (xl X) fu (3 + (μ.1 0 n0 14).toNatClampNeg) b2 0 (by decide)) (Nat.le_trans (by decide) V) mmX3_copyFrom miX3_copyFrom q870 (rc12 _) b2 rfl rfl rfl (Nat.le_of_ble_eq_true rfl) ⟨Nat.le_of_ble_eq_true rfl, Nat.le_of_ble_eq_true rfl, Nat.le_of_ble_eq_true rfl, Nat.le_of_ble_eq_true rfl⟩ dX12_remember_13 (fun _ μ3 => ?_)
  refine g_st (st' := []) rfl ?_
  refine s_aload_n C dX12_remember_16 rfl 0 rfl ?_
  refine s_aload_n C dX12_remember_17 rfl 0 rfl ?_
  refine s_getI C (fgX12_87_0 _) g0 dX12_remember_18 ?_
  refine s_iconst (v := (1 : Int32)) C dX12_remember_21 (by decide) ?_
  refine s_iadd C dX12_remember_22 ?_
  refine s_bipush (v := (10 : Int32)) C dX12_remember_23 (by decide) ?_
  refine s_irem C dX12_remember_25 ?_
  refine s_putI C (fpX12_87_0 _) g0 dX12_remember_26 ?_
  refine g_nmM (fun μ4 => ?_)
  refine s_aload_n C dX12_remember_29 rfl 0 rfl ?_
  refine s_aload_n C dX12_remember_30 rfl 0 rfl ?_
  refine s_getI C (fgX12_90_0 _) g0 dX12_remember_31 ?_
  refine s_iconst (v := (1 : Int32)) C dX12_remember_34 (by decide) ?_
  refine s_iadd C dX12_remember_35 ?_
  refine s_bipush (v := (10 : Int32)) C dX12_remember_36 (by decide) ?_
  refine s_mmin C R0 q1399 q726 q172 q727 ⟨Nat.le_of_ble_eq_true rfl, Nat.le_of_ble_eq_true rfl, Nat.le_of_ble_eq_true rfl, Nat.le_of_ble_eq_true rfl⟩ dX12_remember_38 ?_
  refine s_putI C (fpX12_90_0 _) g0 dX12_remember_41 ?_
  refine g_nmM (fun μ5 => ?_)
  exact s_vret C E dX12_remember_44
/-! PinEnginesModel.shiftIn(III)I -/
def fX13_shiftIn (n0 : Nat) (p1 : Int32) (p2 : Int32) (p3 : Int32) (μ : Mem) : Option (Int32 × Mem) :=
  jn (fun (μ1 : Mem) (x2 : Int32) (x3 : Int32) =>
    jn (fun (μ4 : Mem) (x5 : Int32) =>
      jn (fun (μ6 : Mem) (x7 : Int32) (x8 : Int32) (x9 : Int32) =>
        jn (fun (μ10 : Mem) (x11 : Int32) =>
          jn (fun (μ12 : Mem) =>
            some ((0 : Int32), μ12)
          ) fun j161 =>
          bnd (fX13_set n0 p1 (4 : Int32) x7 μ10) fun _ μ13 =>
          bnd (fX13_set n0 p1 (6 : Int32) x8 μ13) fun _ μ14 =>
          if x11 = 0 then (
            j161 μ14
          ) else (
            bnd (fX13_appendShifted n0 p1 μ14) fun _ μ16 =>
            j161 μ16
          )
        ) fun j134 =>
        if x9 = 0 then (
          j134 μ6 x9
        ) else (
          bnd (fX13_isFull n0 p1 (1 : Int32) μ6) fun x19 μ18 =>
          if x19 = 0 then (
            j134 μ18 x9
          ) else (
            some ((3 : Int32), μ18)
          )
        )
      ) fun j116 =>
      jn (fun (μ21 : Mem) (x22 : Int32) (x23 : Int32) =>
        j116 μ21 x22 x23 (0 : Int32)
      ) fun j115 =>
      bnd (fX13_of n0 p1 (6 : Int32) μ4) fun x25 μ24 =>
      nm ((if (x25 + p3) < (32 : Int32) then (x25 + p3) else (32 : Int32))) fun x26 =>
      bnd (fX13_setting n0 p1 (16 : Int32) μ24) fun x28 μ27 =>
      if ¬ x28 = (1 : Int32) then (
        j115 μ27 x5 x26
      ) else (
        bnd (fX13_setting n0 p1 (15 : Int32) μ27) fun x31 μ30 =>
        if x26 < x31 then (
          j115 μ30 x5 x26
        ) else (
          j116 μ30 x5 x26 (1 : Int32)
        )
      )
    ) fun j70 =>
    bnd (fX13_lowest p2 p3 μ1) fun x34 μ33 =>
    if ¬ p3 = (32 : Int32) then (
      if x3 = 0 then (
        j70 μ33 (((x2.toUInt32 >>> (p3.toUInt32 &&& Int32.toUInt32 31)).toInt32) ||| (x34 <<< (((32 : Int32) - p3) &&& 31)))
      ) else (
        j70 μ33 ((x2 <<< (p3 &&& 31)) ||| x34)
      )
    ) else (
      j70 μ33 p2
    )
  ) fun j24 =>
  bnd (fX13_of n0 p1 (4 : Int32) μ) fun x38 μ37 =>
  bnd (fX13_setting n0 p1 (13 : Int32) μ37) fun x40 μ39 =>
  if ¬ x40 = (1 : Int32) then (
    j24 μ39 x38 (0 : Int32)
  ) else (
    j24 μ39 x38 (1 : Int32)
  )
set_option maxHeartbeats 4000000 in
set_option maxRecDepth 100000 in
theorem kX13_shiftIn (l : Launch) (n0 : Nat) (g0 : n0 < 1) (p1 : Int32) (p2 : Int32) (p3 : Int32) : Kon 1 l yX13_shiftIn cX13_shiftIn 10 (some .int) 3 68 0 0 (fun ad => [.ref (ad 26 n0), .int p1, .int p2, .int p3]) rvI (fun μ => fX13_shiftIn n0 p1 p2 p3 μ) := by
  refine kon_of (by decide) (fun _ => Nat.le_of_ble_eq_true rfl) (fun X r0 μ hXl hXn V C E => ?_)
  have hN : ∀ i : Nat, i < 10 → i < xn X := fun i h => hXn.symm ▸ h
  have R0 := fen_rm E
  show G X r0 0 0 μ 0 [(0, .ref (xa X 26 n0)), (1, .int p1), (2, .int p2), (3, .int p3)] [] (fX13_shiftIn n0 p1 p2 p3 μ)
  unfold fX13_shiftIn
  refine g_jn (P := fun j24 => ∀ (μ1 : Mem) (x2 : Int32) (x3 : Int32), G X r0 0 0 μ1 24 [(0, .ref (xa X 26 n0)), (1, .int p1), (2, .int p2), (3, .int p3), (4, .int x2)] [.int x3] (j24 μ1 x2 x3)) ?_ (fun j24 hj24 => ?_)
  · intro μ1 x2 x3
    refine g_jn (P := fun j70 => ∀ (μ4 : Mem) (x5 : Int32), G X r0 0 0 μ4 70 [(0, .ref (xa X 26 n0)), (1, .int p1), (3, .int p3)] [.int x5] (j70 μ4 x5)) ?_ (fun j70 hj70 => ?_)
    · intro μ4 x5
      refine g_jn (P := fun j116 => ∀ (μ6 : Mem) (x7 : Int32) (x8 : Int32) (x9 : Int32), G X r0 0 0 μ6 116 [(0, .ref (xa X 26 n0)), (1, .int p1), (7, .int x7), (8, .int x8)] [.int x9] (j116 μ6 x7 x8 x9)) ?_ (fun j116 hj116 => ?_)
      · intro μ6 x7 x8 x9
        refine g_jn (P := fun j134 => ∀ (μ10 : Mem) (x11 : Int32), G X r0 0 0 μ10 134 [(0, .ref (xa X 26 n0)), (1, .int p1), (7, .int x7), (8, .int x8), (9, .int x11)] [] (j134 μ10 x11)) ?_ (fun j134 hj134 => ?_)
        · intro μ10 x11
          refine g_jn (P := fun j161 => ∀ (μ12 : Mem), G X r0 0 0 μ12 161 [] [] (j161 μ12)) ?_ (fun j161 hj161 => ?_)
          · intro μ12
            refine s_iconst (v := (0 : Int32)) C dX13_shiftIn_161 (by decide) ?_
            exact s_iret C E dX13_shiftIn_162
          refine s_aload_n C dX13_shiftIn_134 rfl 0 rfl ?_
          refine s_iload_n C dX13_shiftIn_135 rfl 1 rfl ?_
          refine s_iconst (v := (4 : Int32)) C dX13_shiftIn_136 (by decide) ?_
          refine s_iload C dX13_shiftIn_137 2 rfl ?_
          refine s_callV C R0 (kX13_set (xl X) n0 g0 p1 (4 : Int32) x7) (Nat.le_trans (by decide) V) mmX13_set miX13_set q2383 (rc26 (Nat.le_trans (by decide) V)) g0 rfl rfl rfl (Nat.le_of_ble_eq_true rfl) ⟨Nat.le_of_ble_eq_true rfl, Nat.le_of_ble_eq_true rfl, Nat.le_of_ble_eq_true rfl, Nat.le_of_ble_eq_true rfl⟩ dX13_shiftIn_139 (fun _ μ13 => ?_)
          refine g_st (st' := []) rfl ?_
          refine s_aload_n C dX13_shiftIn_142 rfl 0 rfl ?_
          refine s_iload_n C dX13_shiftIn_143 rfl 1 rfl ?_
          refine s_bipush (v := (6 : Int32)) C dX13_shiftIn_144 (by decide) ?_
          refine s_iload C dX13_shiftIn_146 3 rfl ?_
          refine s_callV C R0 (kX13_set (xl X) n0 g0 p1 (6 : Int32) x8) (Nat.le_trans (by decide) V) mmX13_set miX13_set q2383 (rc26 (Nat.le_trans (by decide) V)) g0 rfl rfl rfl (Nat.le_of_ble_eq_true rfl) ⟨Nat.le_of_ble_eq_true rfl, Nat.le_of_ble_eq_true rfl, Nat.le_of_ble_eq_true rfl, Nat.le_of_ble_eq_true rfl⟩ dX13_shiftIn_148 (fun _ μ14 => ?_)
          refine g_st (st' := []) rfl ?_
          refine s_iload C dX13_shiftIn_151 4 rfl ?_
          refine s_if_eq (tgt := 161) C dX13_shiftIn_153 (by decide) (fun c15 => ?_) (fun c15 => ?_)
          ·
            exact g_sub [] rfl (hj161 μ14)
          ·
            refine s_aload_n C dX13_shiftIn_156 rfl 0 rfl ?_
            refine s_iload_n C dX13_shiftIn_157 rfl 1 rfl ?_
            refine s_callV C R0 (kX13_appendShifted (xl X) n0 g0 p1) (Nat.le_trans (by decide) V) mmX13_appendShifted miX13_appendShifted q2513 (rc26 (Nat.le_trans (by decide) V)) g0 rfl rfl rfl (Nat.le_of_ble_eq_true rfl) ⟨Nat.le_of_ble_eq_true rfl, Nat.le_of_ble_eq_true rfl, Nat.le_of_ble_eq_true rfl, Nat.le_of_ble_eq_true rfl⟩ dX13_shiftIn_158 (fun _ μ16 => ?_)
            refine g_st (st' := []) rfl ?_
            exact g_sub [] rfl (hj161 μ16)
        refine s_istore (L' := [(9, .int x9), (0, .ref (xa X 26 n0)), (1, .int p1), (7, .int x7), (8, .int x8)]) C dX13_shiftIn_116 (hN 9 (by decide)) rfl ?_
        refine s_iload C dX13_shiftIn_118 0 rfl ?_
        refine s_if_eq (tgt := 134) C dX13_shiftIn_120 (by decide) (fun c17 => ?_) (fun c17 => ?_)
        ·
          exact g_sub [1, 2, 3, 4, 0] rfl (hj134 μ6 x9)
        ·
          refine s_aload_n C dX13_shiftIn_123 rfl 1 rfl ?_
          refine s_iload_n C dX13_shiftIn_124 rfl 2 rfl ?_
          refine s_iconst (v := (1 : Int32)) C dX13_shiftIn_125 (by decide) ?_
          refine s_callV C R0 (kX13_isFull (xl X) n0 g0 p1 (1 : Int32)) (Nat.le_trans (by decide) V) mmX13_isFull miX13_isFull q2368 (rc26 (Nat.le_trans (by decide) V)) g0 rfl rfl rfl (Nat.le_of_ble_eq_true rfl) ⟨Nat.le_of_ble_eq_true rfl, Nat.le_of_ble_eq_true rfl, Nat.le_of_ble_eq_true rfl, Nat.le_of_ble_eq_true rfl⟩ dX13_shiftIn_126 (fun x19 μ18 => ?_)
          refine g_st (st' := [.int x19]) rfl ?_
          refine s_if_eq (tgt := 134) C dX13_shiftIn_129 (by decide) (fun c20 => ?_) (fun c20 => ?_)
          ·
            exact g_sub [1, 2, 3, 4, 0] rfl (hj134 μ18 x9)
          ·
            refine s_iconst (v := (3 : Int32)) C dX13_shiftIn_132 (by decide) ?_
            exact s_iret C E dX13_shiftIn_133
      refine g_jn (P := fun j115 => ∀ (μ21 : Mem) (x22 : Int32) (x23 : Int32), G X r0 0 0 μ21 115 [(0, .ref (xa X 26 n0)), (1, .int p1), (7, .int x22), (8, .int x23)] [] (j115 μ21 x22 x23)) ?_ (fun j115 hj115 => ?_)
      · intro μ21 x22 x23
        refine s_iconst (v := (0 : Int32)) C dX13_shiftIn_115 (by decide) ?_
        exact g_sub [0, 1, 2, 3] rfl (hj116 μ21 x22 x23 (0 : Int32))
      refine s_istore (L' := [(7, .int x5), (0, .ref (xa X 26 n0)), (1, .int p1), (3, .int p3)]) C dX13_shiftIn_70 (hN 7 (by decide)) rfl ?_
      refine s_bipush (v := (32 : Int32)) C dX13_shiftIn_72 (by decide) ?_
      refine s_aload_n C dX13_shiftIn_74 rfl 1 rfl ?_
      refine s_iload_n C dX13_shiftIn_75 rfl 2 rfl ?_
      refine s_bipush (v := (6 : Int32)) C dX13_shiftIn_76 (by decide) ?_
      refine s_callV C R0 (kX13_of (xl X) n0 g0 p1 (6 : Int32)) (Nat.le_trans (by decide) V) mmX13_of miX13_of q2307 (rc26 (Nat.le_trans (by decide) V)) g0 rfl rfl rfl (Nat.le_of_ble_eq_true rfl) ⟨Nat.le_of_ble_eq_true rfl, Nat.le_of_ble_eq_true rfl, Nat.le_of_ble_eq_true rfl, Nat.le_of_ble_eq_true rfl⟩ dX13_shiftIn_78 (fun x25 μ24 => ?_)
      refine g_st (st' := [.int x25, .int (32 : Int32)]) rfl ?_
      refine s_iload_n C dX13_shiftIn_81 rfl 3 rfl ?_
      refine s_iadd C dX13_shiftIn_82 ?_
      refine s_mmin C R0 q2512 q726 q172 q727 ⟨Nat.le_of_ble_eq_true rfl, Nat.le_of_ble_eq_true rfl, Nat.le_of_ble_eq_true rfl, Nat.le_of_ble_eq_true rfl⟩ dX13_shiftIn_83 ?_
      refine g_nmI (fun x26 => ?_)
      refine s_istore (L' := [(8, .int x26), (7, .int x5), (0, .ref (xa X 26 n0)), (1, .int p1), (3, .int p3)]) C dX13_shiftIn_86 (hN 8 (by decide)) rfl ?_
      refine s_aload_n C dX13_shiftIn_88 rfl 2 rfl ?_
      refine s_iload_n C dX13_shiftIn_89 rfl 3 rfl ?_
      refine s_bipush (v := (16 : Int32)) C dX13_shiftIn_90 (by decide) ?_
      refine s_callV C R0 (kX13_setting (xl X) n0 g0 p1 (16 : Int32)) (Nat.le_trans (by decide) V) mmX13_setting miX13_setting q2241 (rc26 (Nat.le_trans (by decide) V)) g0 rfl rfl rfl (Nat.le_of_ble_eq_true rfl) ⟨Nat.le_of_ble_eq_true rfl, Nat.le_of_ble_eq_true rfl, Nat.le_of_ble_eq_true rfl, Nat.le_of_ble_eq_true rfl⟩ dX13_shiftIn_92 (fun x28 μ27 => ?_)
      refine g_st (st' := [.int x28]) rfl ?_
      refine s_iconst (v := (1 : Int32)) C dX13_shiftIn_95 (by decide) ?_
      refine s_icmp_ne (tgt := 115) C dX13_shiftIn_96 (by decide) (fun c29 => ?_) (fun c29 => ?_)
      ·
        exact g_sub [2, 3, 1, 0] rfl (hj115 μ27 x5 x26)
      ·
        refine s_iload C dX13_shiftIn_99 0 rfl ?_
        refine s_aload_n C dX13_shiftIn_101 rfl 2 rfl ?_
        refine s_iload_n C dX13_shiftIn_102 rfl 3 rfl ?_
        refine s_bipush (v := (15 : Int32)) C dX13_shiftIn_103 (by decide) ?_
        refine s_callV C R0 (kX13_setting (xl X) n0 g0 p1 (15 : Int32)) (Nat.le_trans (by decide) V) mmX13_setting miX13_setting q2241 (rc26 (Nat.le_trans (by decide) V)) g0 rfl rfl rfl (Nat.le_of_ble_eq_true rfl) ⟨Nat.le_of_ble_eq_true rfl, Nat.le_of_ble_eq_true rfl, Nat.le_of_ble_eq_true rfl, Nat.le_of_ble_eq_true rfl⟩ dX13_shiftIn_105 (fun x31 μ30 => ?_)
        refine g_st (st' := [.int x31, .int x26]) rfl ?_
        refine s_icmp_lt (tgt := 115) C dX13_shiftIn_108 (by decide) (fun c32 => ?_) (fun c32 => ?_)
        ·
          exact g_sub [2, 3, 1, 0] rfl (hj115 μ30 x5 x26)
        ·
          refine s_iconst (v := (1 : Int32)) C dX13_shiftIn_111 (by decide) ?_
          refine s_goto (tgt := 116) C dX13_shiftIn_112 (by decide) ?_
          exact g_sub [2, 3, 1, 0] rfl (hj116 μ30 x5 x26 (1 : Int32))
    refine s_istore (L' := [(5, .int x3), (0, .ref (xa X 26 n0)), (1, .int p1), (2, .int p2), (3, .int p3), (4, .int x2)]) C dX13_shiftIn_24 (hN 5 (by decide)) rfl ?_
    refine s_iload_n C dX13_shiftIn_26 rfl 3 rfl ?_
    refine s_iload_n C dX13_shiftIn_27 rfl 4 rfl ?_
    refine s_callS C R0 (kX13_lowest (xl X) p2 p3) (Nat.le_trans (by decide) V) mmX13_lowest q2510 q2509 rfl rfl rfl rfl (Nat.le_of_ble_eq_true rfl) ⟨Nat.le_of_ble_eq_true rfl, Nat.le_of_ble_eq_true rfl, Nat.le_of_ble_eq_true rfl, Nat.le_of_ble_eq_true rfl⟩ dX13_shiftIn_28 (fun x34 μ33 => ?_)
    refine g_st (st' := [.int x34]) rfl ?_
    refine s_istore (L' := [(6, .int x34), (5, .int x3), (0, .ref (xa X 26 n0)), (1, .int p1), (2, .int p2), (3, .int p3), (4, .int x2)]) C dX13_shiftIn_31 (hN 6 (by decide)) rfl ?_
    refine s_iload_n C dX13_shiftIn_33 rfl 5 rfl ?_
    refine s_bipush (v := (32 : Int32)) C dX13_shiftIn_34 (by decide) ?_
    refine s_icmp_ne (tgt := 43) C dX13_shiftIn_36 (by decide) (fun c35 => ?_) (fun c35 => ?_)
    ·
      refine s_iload C dX13_shiftIn_43 1 rfl ?_
      refine s_if_eq (tgt := 58) C dX13_shiftIn_45 (by decide) (fun c36 => ?_) (fun c36 => ?_)
      ·
        refine s_iload C dX13_shiftIn_58 6 rfl ?_
        refine s_iload_n C dX13_shiftIn_60 rfl 5 rfl ?_
        refine s_iushr C dX13_shiftIn_61 ?_
        refine s_iload C dX13_shiftIn_62 0 rfl ?_
        refine s_bipush (v := (32 : Int32)) C dX13_shiftIn_64 (by decide) ?_
        refine s_iload_n C dX13_shiftIn_66 rfl 5 rfl ?_
        refine s_isub C dX13_shiftIn_67 ?_
        refine s_ishl C dX13_shiftIn_68 ?_
        refine s_ior C dX13_shiftIn_69 ?_
        exact g_sub [2, 3, 5] rfl (hj70 μ33 (((x2.toUInt32 >>> (p3.toUInt32 &&& Int32.toUInt32 31)).toInt32) ||| (x34 <<< (((32 : Int32) - p3) &&& 31))))
      ·
        refine s_iload C dX13_shiftIn_48 6 rfl ?_
        refine s_iload_n C dX13_shiftIn_50 rfl 5 rfl ?_
        refine s_ishl C dX13_shiftIn_51 ?_
        refine s_iload C dX13_shiftIn_52 0 rfl ?_
        refine s_ior C dX13_shiftIn_54 ?_
        refine s_goto (tgt := 70) C dX13_shiftIn_55 (by decide) ?_
        exact g_sub [2, 3, 5] rfl (hj70 μ33 ((x2 <<< (p3 &&& 31)) ||| x34))
    ·
      refine s_iload_n C dX13_shiftIn_39 rfl 4 rfl ?_
      refine s_goto (tgt := 70) C dX13_shiftIn_40 (by decide) ?_
      exact g_sub [2, 3, 5] rfl (hj70 μ33 p2)
  refine s_aload_n C dX13_shiftIn_0 rfl 0 rfl ?_
  refine s_iload_n C dX13_shiftIn_1 rfl 1 rfl ?_
  refine s_iconst (v := (4 : Int32)) C dX13_shiftIn_2 (by decide) ?_
  refine s_callV C R0 (kX13_of (xl X) n0 g0 p1 (4 : Int32)) (Nat.le_trans (by decide) V) mmX13_of miX13_of q2307 (rc26 (Nat.le_trans (by decide) V)) g0 rfl rfl rfl (Nat.le_of_ble_eq_true rfl) ⟨Nat.le_of_ble_eq_true rfl, Nat.le_of_ble_eq_true rfl, Nat.le_of_ble_eq_true rfl, Nat.le_of_ble_eq_true rfl⟩ dX13_shiftIn_3 (fun x38 μ37 => ?_)
  refine g_st (st' := [.int x38]) rfl ?_
  refine s_istore (L' := [(4, .int x38), (0, .ref (xa X 26 n0)), (1, .int p1), (2, .int p2), (3, .int p3)]) C dX13_shiftIn_6 (hN 4 (by decide)) rfl ?_
  refine s_aload_n C dX13_shiftIn_8 rfl 1 rfl ?_
  refine s_iload_n C dX13_shiftIn_9 rfl 2 rfl ?_
  refine s_bipush (v := (13 : Int32)) C dX13_shiftIn_10 (by decide) ?_
  refine s_callV C R0 (kX13_setting (xl X) n0 g0 p1 (13 : Int32)) (Nat.le_trans (by decide) V) mmX13_setting miX13_setting q2241 (rc26 (Nat.le_trans (by decide) V)) g0 rfl rfl rfl (Nat.le_of_ble_eq_true rfl) ⟨Nat.le_of_ble_eq_true rfl, Nat.le_of_ble_eq_true rfl, Nat.le_of_ble_eq_true rfl, Nat.le_of_ble_eq_true rfl⟩ dX13_shiftIn_12 (fun x40 μ39 => ?_)
  refine g_st (st' := [.int x40]) rfl ?_
  refine s_iconst (v := (1 : Int32)) C dX13_shiftIn_15 (by decide) ?_
  refine s_icmp_ne (tgt := 23) C dX13_shiftIn_16 (by decide) (fun c41 => ?_) (fun c41 => ?_)
  ·
    refine s_iconst (v := (0 : Int32)) C dX13_shiftIn_23 (by decide) ?_
    exact g_sub [1, 2, 3, 4, 0] rfl (hj24 μ39 x38 (0 : Int32))
  ·
    refine s_iconst (v := (1 : Int32)) C dX13_shiftIn_19 (by decide) ?_
    refine s_goto (tgt := 24) C dX13_shiftIn_20 (by decide) ?_
    exact g_sub [1, 2, 3, 4, 0] rfl (hj24 μ39 x38 (1 : Int32))
/-! PinEngines$Engine.begin(LPinEngines$Setup;)V -/
def fX1_begin (fu : Nat) (n0 : Nat) (n1 : Nat) (μ : Mem) : Option (Unit × Mem) :=
  jn (lp (fun _ _ => none) fu (fun j12 (μ1 : Mem) (x2 : Int32) =>
    if (6 : Int32) ≤ x2 then (
      some ((), μ1)
    ) else (
      ckI x2 (6) <|
      nm (wI μ1 21 n0 x2.toNatClampNeg (0 : Int32)) fun μ4 =>
      nm (x2 + (1 : Int32)) fun x5 =>
      j12 μ4 x5
    )
  )) fun j12 =>
  bnd (fX1_reset n0 n1 μ) fun _ μ6 =>
  ckZ (1 : Int32) <|
  nm (wI μ6 18 n0 10 (1 : Int32)) fun μ7 =>
  j12 μ7 (0 : Int32)
set_option maxHeartbeats 4000000 in
set_option maxRecDepth 100000 in
theorem kX1_begin (l : Launch) (fu : Nat) (n0 : Nat) (g0 : n0 < 52) (n1 : Nat) (g1 : n1 < 8) : Kon 0 l yX1_begin cX1_begin 3 (none) 3 66 0 0 (fun ad => [.ref (ad 18 n0), .ref (ad 8 n1)]) rvV (fun μ => fX1_begin fu n0 n1 μ) := by
  refine kon_of (by decide) (fun _ => Nat.le_of_ble_eq_true rfl) (fun X r0 μ hXl hXn V C E => ?_)
  have hN : ∀ i : Nat, i < 3 → i < xn X := fun i h => hXn.symm ▸ h
  have R0 := fen_rm E
  show G X r0 0 0 μ 0 [(0, .ref (xa X 18 n0)), (1, .ref (xa X 8 n1))] [] (fX1_begin fu n0 n1 μ)
  unfold fX1_begin
  refine g_jl (P := fun j12 => ∀ (μ1 : Mem) (x2 : Int32), G X r0 0 0 μ1 12 [(0, .ref (xa X 18 n0)), (2, .int x2)] [] (j12 μ1 x2)) (fun _ _ => g_none) (fun j12 hj12 => ?_) (fun j12 hj12 => ?_)
  · intro μ1 x2
    refine s_iload_n C dX1_begin_12 rfl 1 rfl ?_
    refine s_bipush (v := (6 : Int32)) C dX1_begin_13 (by decide) ?_
    refine s_icmp_ge (tgt := 31) C dX1_begin_15 (by decide) (fun c3 => ?_) (fun c3 => ?_)
    ·
      exact s_vret C E dX1_begin_31
    ·
      refine s_aload_n C dX1_begin_18 rfl 0 rfl ?_
      refine s_getF C (fgX1_21_18 _) g0 dX1_begin_19 ?_
      refine s_iload_n C dX1_begin_22 rfl 1 rfl ?_
      refine s_iconst (v := (0 : Int32)) C dX1_begin_23 (by decide) ?_
      refine s_iast C (ag21 _) g0 dX1_begin_24 ?_
      refine g_nmM (fun μ4 => ?_)
      refine g_nmQ (fun x5 ex5 => ?_)
      refine s_iinc (v := x5) (j := 1) (L' := [(2, .int x5), (0, .ref (xa X 18 n0))]) C dX1_begin_25 rfl (by rw [ex5]; rfl) (hN 2 (by decide)) rfl ?_
      refine s_goto (tgt := 12) C dX1_begin_28 (by decide) ?_
      exact g_sub [1, 0] rfl (hj12 μ4 x5)
  refine s_aload_n C dX1_begin_0 rfl 0 rfl ?_
  refine s_aload_n C dX1_begin_1 rfl 1 rfl ?_
  refine s_callV C R0 (kX1_reset (xl X) n0 g0 n1 g1) (Nat.le_trans (by decide) V) mmX1_reset miX1_reset q717 (rc18 _) g0 rfl rfl rfl (Nat.le_of_ble_eq_true rfl) ⟨Nat.le_of_ble_eq_true rfl, Nat.le_of_ble_eq_true rfl, Nat.le_of_ble_eq_true rfl, Nat.le_of_ble_eq_true rfl⟩ dX1_begin_2 (fun _ μ6 => ?_)
  refine g_st (st' := []) rfl ?_
  refine s_aload_n C dX1_begin_5 rfl 0 rfl ?_
  refine s_iconst (v := (1 : Int32)) C dX1_begin_6 (by decide) ?_
  refine s_putZ C (fpX1_29_18 _) g0 dX1_begin_7 ?_
  refine g_nmM (fun μ7 => ?_)
  refine s_iconst (v := (0 : Int32)) C dX1_begin_10 (by decide) ?_
  refine s_istore_n (L' := [(2, .int (0 : Int32)), (0, .ref (xa X 18 n0)), (1, .ref (xa X 8 n1))]) C dX1_begin_11 rfl (hN 2 (by decide)) rfl ?_
  exact g_sub [1, 0] rfl (hj12 μ7 (0 : Int32))
/-! PinEngines$Machine.begin(LPinEngines$Program;)V -/
def fX3_begin (fu : Nat) (n0 : Nat) (n1 : Nat) (μ : Mem) : Option (Unit × Mem) :=
  jn (lp (fun _ _ => none) fu (fun j35 (μ1 : Mem) (x2 : Int32) =>
    if (16 : Int32) ≤ x2 then (
      jn (lp (fun _ _ => none) fu (fun j56 (μ4 : Mem) (x5 : Int32) =>
        if (4 : Int32) ≤ x5 then (
          jn (lp (fun _ _ => none) fu (fun j97 (μ7 : Mem) (x8 : Int32) =>
            if (16 : Int32) ≤ x8 then (
              some ((), μ7)
            ) else (
              ckI x8 (16) <|
              nm (wI μ7 17 (2 * n0) x8.toNatClampNeg (0 : Int32)) fun μ11 =>
              ckI x8 (16) <|
              nm (wI μ11 17 (2 * n0 + 1) x8.toNatClampNeg (0 : Int32)) fun μ13 =>
              nm (x8 + (1 : Int32)) fun x14 =>
              j97 μ13 x14
            )
          )) fun j97 =>
          nm (wI μ4 12 n0 8 (0 : Int32)) fun μ15 =>
          bnd (fX3_levels n0 μ15) fun x17 μ16 =>
          nm (wI μ16 12 n0 10 x17) fun μ18 =>
          j97 μ18 (0 : Int32)
        ) else (
          ckI x5 (4) <|
          ckI x5 (4) <|
          bnd (fX1_begin fu (4 * n0 + x5.toNatClampNeg) (4 * n1 + x5.toNatClampNeg) μ4) fun _ μ23 =>
          nm (x5 + (1 : Int32)) fun x24 =>
          j56 μ23 x24
        )
      )) fun j56 =>
      j56 μ1 (0 : Int32)
    ) else (
      ckI x2 (16) <|
      nm (wI μ1 13 n0 x2.toNatClampNeg (0 : Int32)) fun μ25 =>
      nm (x2 + (1 : Int32)) fun x26 =>
      j35 μ25 x26
    )
  )) fun j35 =>
  nm (wI μ 12 n0 0 (0 : Int32)) fun μ27 =>
  nm (wI μ27 12 n0 1 (0 : Int32)) fun μ28 =>
  nm (wI μ28 12 n0 2 (0 : Int32)) fun μ29 =>
  nm (wI μ29 12 n0 3 (μ29.1 5 n1 1)) fun μ30 =>
  nm (wI μ30 12 n0 4 (0 : Int32)) fun μ31 =>
  nm (wI μ31 12 n0 5 (-1 : Int32)) fun μ32 =>
  j35 μ32 (0 : Int32)
set_option maxHeartbeats 4000000 in
set_option maxRecDepth 100000 in
theorem kX3_begin (l : Launch) (fu : Nat) (n0 : Nat) (g0 : n0 < 13) (n1 : Nat) (g1 : n1 < 2) : Kon 0 l yX3_begin cX3_begin 3 (none) 4 88 0 0 (fun ad => [.ref (ad 12 n0), .ref (ad 5 n1)]) rvV (fun μ => fX3_begin fu n0 n1 μ) := by
  refine kon_of (by decide) (fun _ => Nat.le_of_ble_eq_true rfl) (fun X r0 μ hXl hXn V C E => ?_)
  have hN : ∀ i : Nat, i < 3 → i < xn X := fun i h => hXn.symm ▸ h
  have R0 := fen_rm E
  show G X r0 0 0 μ 0 [(0, .ref (xa X 12 n0)), (1, .ref (xa X 5 n1))] [] (fX3_begin fu n0 n1 μ)
  unfold fX3_begin
  refine g_jl (P := fun j35 => ∀ (μ1 : Mem) (x2 : Int32), G X r0 0 0 μ1 35 [(0, .ref (xa X 12 n0)), (1, .ref (xa X 5 n1)), (2, .int x2)] [] (j35 μ1 x2)) (fun _ _ => g_none) (fun j35 hj35 => ?_) (fun j35 hj35 => ?_)
  · intro μ1 x2
    refine s_iload_n C dX3_begin_35 rfl 2 rfl ?_
    refine s_bipush (v := (16 : Int32)) C dX3_begin_36 (by decide) ?_
    refine s_icmp_ge (tgt := 54) C dX3_begin_38 (by decide) (fun c3 => ?_) (fun c3 => ?_)
    ·
      refine g_jl (P := fun j56 => ∀ (μ4 : Mem) (x5 : Int32), G X r0 0 0 μ4 56 [(0, .ref (xa X 12 n0)), (1, .ref (xa X 5 n1)), (2, .int x5)] [] (j56 μ4 x5)) (fun _ _ => g_none) (fun j56 hj56 => ?_) (fun j56 hj56 => ?_)
      · intro μ4 x5
        refine s_iload_n C dX3_begin_56 rfl 2 rfl ?_
        refine s_iconst (v := (4 : Int32)) C dX3_begin_57 (by decide) ?_
        refine s_icmp_ge (tgt := 82) C dX3_begin_58 (by decide) (fun c6 => ?_) (fun c6 => ?_)
        ·
          refine g_jl (P := fun j97 => ∀ (μ7 : Mem) (x8 : Int32), G X r0 0 0 μ7 97 [(0, .ref (xa X 12 n0)), (2, .int x8)] [] (j97 μ7 x8)) (fun _ _ => g_none) (fun j97 hj97 => ?_) (fun j97 hj97 => ?_)
          · intro μ7 x8
            refine s_iload_n C dX3_begin_97 rfl 1 rfl ?_
            refine s_bipush (v := (16 : Int32)) C dX3_begin_98 (by decide) ?_
            refine s_icmp_ge (tgt := 123) C dX3_begin_100 (by decide) (fun c9 => ?_) (fun c9 => ?_)
            ·
              exact s_vret C E dX3_begin_123
            ·
              refine s_aload_n C dX3_begin_103 rfl 0 rfl ?_
              refine s_getF C (fgX3_27_12 _) g0 dX3_begin_104 ?_
              have b10 : 2 * n0 < 26 := by omega
              refine s_iload_n C dX3_begin_107 rfl 1 rfl ?_
              refine s_iconst (v := (0 : Int32)) C dX3_begin_108 (by decide) ?_
              refine s_iast C (ag17 _) b10 dX3_begin_109 ?_
              refine g_nmM (fun μ11 => ?_)
              refine s_aload_n C dX3_begin_110 rfl 0 rfl ?_
              refine s_getF C (fgX3_30_12 _) g0 dX3_begin_111 ?_
              have b12 : 2 * n0 + 1 < 26 := by omega
              refine s_iload_n C dX3_begin_114 rfl 1 rfl ?_
              refine s_iconst (v := (0 : Int32)) C dX3_begin_115 (by decide) ?_
              refine s_iast C (ag17 _) b12 dX3_begin_116 ?_
              refine g_nmM (fun μ13 => ?_)
              refine g_nmQ (fun x14 ex14 => ?_)
              refine s_iinc (v := x14) (j := 1) (L' := [(2, .int x14), (0, .ref (xa X 12 n0))]) C dX3_begin_117 rfl (by rw [ex14]; rfl) (hN 2 (by decide)) rfl ?_
              refine s_goto (tgt := 97) C dX3_begin_120 (by decide) ?_
              exact g_sub [1, 0] rfl (hj97 μ13 x14)
          refine s_aload_n C dX3_begin_82 rfl 0 rfl ?_
          refine s_iconst (v := (0 : Int32)) C dX3_begin_83 (by decide) ?_
          refine s_putI C (fpX3_64_12 _) g0 dX3_begin_84 ?_
          refine g_nmM (fun μ15 => ?_)
          refine s_aload_n C dX3_begin_87 rfl 0 rfl ?_
          refine s_aload_n C dX3_begin_88 rfl 0 rfl ?_
          refine s_callV C R0 (kX3_levels (xl X) n0 g0) (Nat.le_trans (by decide) V) mmX3_levels miX3_levels q735 (rc12 _) g0 rfl rfl rfl (Nat.le_of_ble_eq_true rfl) ⟨Nat.le_of_ble_eq_true rfl, Nat.le_of_ble_eq_true rfl, Nat.le_of_ble_eq_true rfl, Nat.le_of_ble_eq_true rfl⟩ dX3_begin_89 (fun x17 μ16 => ?_)
          refine g_st (st' := [.int x17, .ref (xa X 12 n0)]) rfl ?_
          refine s_putI C (fpX3_71_12 _) g0 dX3_begin_92 ?_
          refine g_nmM (fun μ18 => ?_)
          refine s_iconst (v := (0 : Int32)) C dX3_begin_95 (by decide) ?_
          refine s_istore_n (L' := [(2, .int (0 : Int32)), (0, .ref (xa X 12 n0)), (1, .ref (xa X 5 n1))]) C dX3_begin_96 rfl (hN 2 (by decide)) rfl ?_
          exact g_sub [1, 0] rfl (hj97 μ18 (0 : Int32))
        ·
          refine s_aload_n C dX3_begin_61 rfl 0 rfl ?_
          refine s_getF C (fgX3_17_12 _) g0 dX3_begin_62 ?_
          refine s_iload_n C dX3_begin_65 rfl 2 rfl ?_
          refine s_aaldF C (ag14 _) (fun _ => rfl) g0 dX3_begin_66 (fun c19 => ?_)
          have b20 : 4 * n0 + x5.toNatClampNeg < 52 := by have := c19; omega
          refine s_aload_n C dX3_begin_67 rfl 1 rfl ?_
          refine s_getF C (fgX3_56_5 _) g1 dX3_begin_68 ?_
          refine s_iload_n C dX3_begin_71 rfl 2 rfl ?_
          refine s_aaldF C (ag6 _) (fun _ => rfl) g1 dX3_begin_72 (fun c21 => ?_)
          have b22 : 4 * n1 + x5.toNatClampNeg < 8 := by have := c21; omega
          refine s_callV C R0 (kX1_begin (xl X) fu (4 * n0 + x5.toNatClampNeg) b20 (4 * n1 + x5.toNatClampNeg) b22) (Nat.le_trans (by decide) V) mmX1_begin miX1_begin q713 (rc18 _) b20 rfl rfl rfl (Nat.le_of_ble_eq_true rfl) ⟨Nat.le_of_ble_eq_true rfl, Nat.le_of_ble_eq_true rfl, Nat.le_of_ble_eq_true rfl, Nat.le_of_ble_eq_true rfl⟩ dX3_begin_73 (fun _ μ23 => ?_)
          refine g_st (st' := []) rfl ?_
          refine g_nmQ (fun x24 ex24 => ?_)
          refine s_iinc (v := x24) (j := 2) (L' := [(2, .int x24), (0, .ref (xa X 12 n0)), (1, .ref (xa X 5 n1))]) C dX3_begin_76 rfl (by rw [ex24]; rfl) (hN 2 (by decide)) rfl ?_
          refine s_goto (tgt := 56) C dX3_begin_79 (by decide) ?_
          exact g_sub [1, 2, 0] rfl (hj56 μ23 x24)
      refine s_iconst (v := (0 : Int32)) C dX3_begin_54 (by decide) ?_
      refine s_istore_n (L' := [(2, .int (0 : Int32)), (0, .ref (xa X 12 n0)), (1, .ref (xa X 5 n1))]) C dX3_begin_55 rfl (hN 2 (by decide)) rfl ?_
      exact g_sub [1, 2, 0] rfl (hj56 μ1 (0 : Int32))
    ·
      refine s_aload_n C dX3_begin_41 rfl 0 rfl ?_
      refine s_getF C (fgX3_9_12 _) g0 dX3_begin_42 ?_
      refine s_iload_n C dX3_begin_45 rfl 2 rfl ?_
      refine s_iconst (v := (0 : Int32)) C dX3_begin_46 (by decide) ?_
      refine s_iast C (ag13 _) g0 dX3_begin_47 ?_
      refine g_nmM (fun μ25 => ?_)
      refine g_nmQ (fun x26 ex26 => ?_)
      refine s_iinc (v := x26) (j := 2) (L' := [(2, .int x26), (0, .ref (xa X 12 n0)), (1, .ref (xa X 5 n1))]) C dX3_begin_48 rfl (by rw [ex26]; rfl) (hN 2 (by decide)) rfl ?_
      refine s_goto (tgt := 35) C dX3_begin_51 (by decide) ?_
      exact g_sub [1, 2, 0] rfl (hj35 μ25 x26)
  refine s_aload_n C dX3_begin_0 rfl 0 rfl ?_
  refine s_iconst (v := (0 : Int32)) C dX3_begin_1 (by decide) ?_
  refine s_putI C (fpX3_34_12 _) g0 dX3_begin_2 ?_
  refine g_nmM (fun μ27 => ?_)
  refine s_aload_n C dX3_begin_5 rfl 0 rfl ?_
  refine s_iconst (v := (0 : Int32)) C dX3_begin_6 (by decide) ?_
  refine s_putI C (fpX3_38_12 _) g0 dX3_begin_7 ?_
  refine g_nmM (fun μ28 => ?_)
  refine s_aload_n C dX3_begin_10 rfl 0 rfl ?_
  refine s_iconst (v := (0 : Int32)) C dX3_begin_11 (by decide) ?_
  refine s_putI C (fpX3_41_12 _) g0 dX3_begin_12 ?_
  refine g_nmM (fun μ29 => ?_)
  refine s_aload_n C dX3_begin_15 rfl 0 rfl ?_
  refine s_aload_n C dX3_begin_16 rfl 1 rfl ?_
  refine s_getI C (fgX3_44_5 _) g1 dX3_begin_17 ?_
  refine s_putI C (fpX3_49_12 _) g0 dX3_begin_20 ?_
  refine g_nmM (fun μ30 => ?_)
  refine s_aload_n C dX3_begin_23 rfl 0 rfl ?_
  refine s_iconst (v := (0 : Int32)) C dX3_begin_24 (by decide) ?_
  refine s_putI C (fpX3_50_12 _) g0 dX3_begin_25 ?_
  refine g_nmM (fun μ31 => ?_)
  refine s_aload_n C dX3_begin_28 rfl 0 rfl ?_
  refine s_iconst (v := (-1 : Int32)) C dX3_begin_29 (by decide) ?_
  refine s_putI C (fpX3_53_12 _) g0 dX3_begin_30 ?_
  refine g_nmM (fun μ32 => ?_)
  refine s_iconst (v := (0 : Int32)) C dX3_begin_33 (by decide) ?_
  refine s_istore_n (L' := [(2, .int (0 : Int32)), (0, .ref (xa X 12 n0)), (1, .ref (xa X 5 n1))]) C dX3_begin_34 rfl (hN 2 (by decide)) rfl ?_
  exact g_sub [1, 2, 0] rfl (hj35 μ32 (0 : Int32))
/-! PinEngines$ProgramReader.readSetting(LPinEngines$Setup;LPinEngines$Symbol;)V -/
def fX5_readSetting (fu : Nat) (n0 : Nat) (n1 : Nat) (n2 : Nat) (μ : Mem) : Option (Unit × Mem) :=
  jn (fun (μ1 : Mem) =>
    some ((), μ1)
  ) fun j214 =>
  ckI (syO.getD n2 0) 74 <|
  nm ((smL.getD (syO.getD n2 0).toNatClampNeg 0)) fun x2 =>
  if x2 = (27 : Int32) then (
    bnd (fX11_takeNumber 0 (1 : Int32) (255 : Int32) μ) fun x5 μ4 =>
    nm (wI μ4 8 n1 4 ((256 : Int32) * x5)) fun μ6 =>
    bnd (fX11_takeNumber 0 (0 : Int32) (255 : Int32) μ6) fun x8 μ7 =>
    nm (wI μ7 8 n1 4 ((μ6.1 8 n1 4) + x8)) fun μ9 =>
    j214 μ9
  ) else (
  if x2 = (28 : Int32) then (
    bnd (fX5_takeName fu n0 μ) fun x12 μ11 =>
    nm (wI μ11 8 n1 2 x12) fun μ13 =>
    bnd (fX5_takeName fu n0 μ13) fun x15 μ14 =>
    nm (wI μ14 8 n1 3 x15) fun μ16 =>
    j214 μ16
  ) else (
  if x2 = (29 : Int32) then (
    bnd (fX5_takePin n0 μ) fun x19 μ18 =>
    nm (wI μ18 8 n1 5 x19) fun μ20 =>
    bnd (fX5_takeGroup n0 (μ20.1 8 n1 5) (16 : Int32) μ20) fun x22 μ21 =>
    nm (wI μ21 8 n1 6 x22) fun μ23 =>
    j214 μ23
  ) else (
  if x2 = (30 : Int32) then (
    bnd (fX5_takePin n0 μ) fun x26 μ25 =>
    nm (wI μ25 8 n1 7 x26) fun μ27 =>
    bnd (fX5_takeGroup n0 (μ27.1 8 n1 7) (5 : Int32) μ27) fun x29 μ28 =>
    nm (wI μ28 8 n1 8 x29) fun μ30 =>
    j214 μ30
  ) else (
  if x2 = (31 : Int32) then (
    bnd (fX5_takePin n0 μ) fun x33 μ32 =>
    nm (wI μ32 8 n1 9 x33) fun μ34 =>
    bnd (fX5_takeGroup n0 (μ34.1 8 n1 9) (4 : Int32) μ34) fun x36 μ35 =>
    nm (wI μ35 8 n1 10 x36) fun μ37 =>
    j214 μ37
  ) else (
  if x2 = (32 : Int32) then (
    bnd (fX5_takePin n0 μ) fun x40 μ39 =>
    nm (wI μ39 8 n1 11 x40) fun μ41 =>
    j214 μ41
  ) else (
  if x2 = (33 : Int32) then (
    bnd (fX5_takePin n0 μ) fun x44 μ43 =>
    nm (wI μ43 8 n1 12 x44) fun μ45 =>
    j214 μ45
  ) else (
  bnd (fX5_readShifting n0 n1 n2 μ) fun _ μ46 =>
  j214 μ46
  )))))))
set_option maxHeartbeats 4000000 in
set_option maxRecDepth 100000 in
theorem kX5_readSetting (l : Launch) (fu : Nat) (n0 : Nat) (g0 : n0 < 1) (n1 : Nat) (g1 : n1 < 8) (n2 : Nat) (g2 : n2 < 74) : Kon 0 l yX5_readSetting cX5_readSetting 3 (none) 3 70 0 0 (fun ad => [.ref (ad 10 n0), .ref (ad 8 n1), .ref (ad 50 n2)]) rvV (fun μ => fX5_readSetting fu n0 n1 n2 μ) := by
  refine kon_of (by decide) (fun _ => Nat.le_of_ble_eq_true rfl) (fun X r0 μ hXl hXn V C E => ?_)
  have hN : ∀ i : Nat, i < 3 → i < xn X := fun i h => hXn.symm ▸ h
  have R0 := fen_rm E
  show G X r0 0 0 μ 0 [(0, .ref (xa X 10 n0)), (1, .ref (xa X 8 n1)), (2, .ref (xa X 50 n2))] [] (fX5_readSetting fu n0 n1 n2 μ)
  unfold fX5_readSetting
  refine g_jn (P := fun j214 => ∀ (μ1 : Mem), G X r0 0 0 μ1 214 [] [] (j214 μ1)) ?_ (fun j214 hj214 => ?_)
  · intro μ1
    exact s_vret C E dX5_readSetting_214
  refine s_gmap C q1120 dX5_readSetting_0 ?_
  refine s_aload_n C dX5_readSetting_3 rfl 2 rfl ?_
  refine s_ordn C R0 g2 q1122 ⟨Nat.le_of_ble_eq_true rfl, Nat.le_of_ble_eq_true rfl, Nat.le_of_ble_eq_true rfl, Nat.le_of_ble_eq_true rfl⟩ (Nat.le_of_ble_eq_true rfl) dX5_readSetting_4 ?_
  refine s_mapld C dX5_readSetting_7 ?_
  refine g_nmI (fun x2 => ?_)
  refine g_cases (v := (27 : Int32)) (fun c3 => ?_) (fun c3 => ?_)
  ·
    refine s_tin (tgt := 52) C dX5_readSetting_8 c3 (by decide) (by decide) rfl (by decide) ?_
    refine s_aload_n C dX5_readSetting_52 rfl 1 rfl ?_
    refine s_sipush (v := (256 : Int32)) C dX5_readSetting_53 (by decide) ?_
    refine s_aload_n C dX5_readSetting_56 rfl 0 rfl ?_
    refine s_getF C (fgX5_26_10 _) g0 dX5_readSetting_57 ?_
    refine s_iconst (v := (1 : Int32)) C dX5_readSetting_60 (by decide) ?_
    refine s_sipush (v := (255 : Int32)) C dX5_readSetting_61 (by decide) ?_
    refine s_callV C R0 (kX11_takeNumber (xl X) 0 (by decide) (1 : Int32) (255 : Int32)) (Nat.le_trans (by decide) V) mmX11_takeNumber miX11_takeNumber q1077 (rc2 _) (by decide) rfl rfl rfl (Nat.le_of_ble_eq_true rfl) ⟨Nat.le_of_ble_eq_true rfl, Nat.le_of_ble_eq_true rfl, Nat.le_of_ble_eq_true rfl, Nat.le_of_ble_eq_true rfl⟩ dX5_readSetting_64 (fun x5 μ4 => ?_)
    refine g_st (st' := [.int x5, .int (256 : Int32), .ref (xa X 8 n1)]) rfl ?_
    refine s_imul C dX5_readSetting_67 ?_
    refine s_putI C (fpX5_144_8 _) g1 dX5_readSetting_68 ?_
    refine g_nmM (fun μ6 => ?_)
    refine s_aload_n C dX5_readSetting_71 rfl 1 rfl ?_
    refine s_dup C dX5_readSetting_72 rfl ?_
    refine s_getI C (fgX5_144_8 _) g1 dX5_readSetting_73 ?_
    refine s_aload_n C dX5_readSetting_76 rfl 0 rfl ?_
    refine s_getF C (fgX5_26_10 _) g0 dX5_readSetting_77 ?_
    refine s_iconst (v := (0 : Int32)) C dX5_readSetting_80 (by decide) ?_
    refine s_sipush (v := (255 : Int32)) C dX5_readSetting_81 (by decide) ?_
    refine s_callV C R0 (kX11_takeNumber (xl X) 0 (by decide) (0 : Int32) (255 : Int32)) (Nat.le_trans (by decide) V) mmX11_takeNumber miX11_takeNumber q1077 (rc2 _) (by decide) rfl rfl rfl (Nat.le_of_ble_eq_true rfl) ⟨Nat.le_of_ble_eq_true rfl, Nat.le_of_ble_eq_true rfl, Nat.le_of_ble_eq_true rfl, Nat.le_of_ble_eq_true rfl⟩ dX5_readSetting_84 (fun x8 μ7 => ?_)
    refine g_st (st' := [.int x8, .int (μ6.1 8 n1 4), .ref (xa X 8 n1)]) rfl ?_
    refine s_iadd C dX5_readSetting_87 ?_
    refine s_putI C (fpX5_144_8 _) g1 dX5_readSetting_88 ?_
    refine g_nmM (fun μ9 => ?_)
    refine s_goto (tgt := 214) C dX5_readSetting_91 (by decide) ?_
    exact g_sub [] rfl (hj214 μ9)
  ·
    refine g_cases (v := (28 : Int32)) (fun c10 => ?_) (fun c10 => ?_)
    ·
      refine s_tin (tgt := 94) C dX5_readSetting_8 c10 (by decide) (by decide) rfl (by decide) ?_
      refine s_aload_n C dX5_readSetting_94 rfl 1 rfl ?_
      refine s_aload_n C dX5_readSetting_95 rfl 0 rfl ?_
      refine s_callV C R0 (kX5_takeName (xl X) fu n0 g0) (Nat.le_trans (by decide) V) mmX5_takeName miX5_takeName q1089 (rc10 _) g0 rfl rfl rfl (Nat.le_of_ble_eq_true rfl) ⟨Nat.le_of_ble_eq_true rfl, Nat.le_of_ble_eq_true rfl, Nat.le_of_ble_eq_true rfl, Nat.le_of_ble_eq_true rfl⟩ dX5_readSetting_96 (fun x12 μ11 => ?_)
      refine g_st (st' := [.int x12, .ref (xa X 8 n1)]) rfl ?_
      refine s_putI C (fpX5_147_8 _) g1 dX5_readSetting_99 ?_
      refine g_nmM (fun μ13 => ?_)
      refine s_aload_n C dX5_readSetting_102 rfl 1 rfl ?_
      refine s_aload_n C dX5_readSetting_103 rfl 0 rfl ?_
      refine s_callV C R0 (kX5_takeName (xl X) fu n0 g0) (Nat.le_trans (by decide) V) mmX5_takeName miX5_takeName q1089 (rc10 _) g0 rfl rfl rfl (Nat.le_of_ble_eq_true rfl) ⟨Nat.le_of_ble_eq_true rfl, Nat.le_of_ble_eq_true rfl, Nat.le_of_ble_eq_true rfl, Nat.le_of_ble_eq_true rfl⟩ dX5_readSetting_104 (fun x15 μ14 => ?_)
      refine g_st (st' := [.int x15, .ref (xa X 8 n1)]) rfl ?_
      refine s_putI C (fpX5_150_8 _) g1 dX5_readSetting_107 ?_
      refine g_nmM (fun μ16 => ?_)
      refine s_goto (tgt := 214) C dX5_readSetting_110 (by decide) ?_
      exact g_sub [] rfl (hj214 μ16)
    ·
      refine g_cases (v := (29 : Int32)) (fun c17 => ?_) (fun c17 => ?_)
      ·
        refine s_tin (tgt := 113) C dX5_readSetting_8 c17 (by decide) (by decide) rfl (by decide) ?_
        refine s_aload_n C dX5_readSetting_113 rfl 1 rfl ?_
        refine s_aload_n C dX5_readSetting_114 rfl 0 rfl ?_
        refine s_callV C R0 (kX5_takePin (xl X) n0 g0) (Nat.le_trans (by decide) V) mmX5_takePin miX5_takePin q1128 (rc10 _) g0 rfl rfl rfl (Nat.le_of_ble_eq_true rfl) ⟨Nat.le_of_ble_eq_true rfl, Nat.le_of_ble_eq_true rfl, Nat.le_of_ble_eq_true rfl, Nat.le_of_ble_eq_true rfl⟩ dX5_readSetting_115 (fun x19 μ18 => ?_)
        refine g_st (st' := [.int x19, .ref (xa X 8 n1)]) rfl ?_
        refine s_putI C (fpX5_156_8 _) g1 dX5_readSetting_118 ?_
        refine g_nmM (fun μ20 => ?_)
        refine s_aload_n C dX5_readSetting_121 rfl 1 rfl ?_
        refine s_aload_n C dX5_readSetting_122 rfl 0 rfl ?_
        refine s_aload_n C dX5_readSetting_123 rfl 1 rfl ?_
        refine s_getI C (fgX5_156_8 _) g1 dX5_readSetting_124 ?_
        refine s_bipush (v := (16 : Int32)) C dX5_readSetting_127 (by decide) ?_
        refine s_callV C R0 (kX5_takeGroup (xl X) n0 g0 (μ20.1 8 n1 5) (16 : Int32)) (Nat.le_trans (by decide) V) mmX5_takeGroup miX5_takeGroup q1132 (rc10 _) g0 rfl rfl rfl (Nat.le_of_ble_eq_true rfl) ⟨Nat.le_of_ble_eq_true rfl, Nat.le_of_ble_eq_true rfl, Nat.le_of_ble_eq_true rfl, Nat.le_of_ble_eq_true rfl⟩ dX5_readSetting_129 (fun x22 μ21 => ?_)
        refine g_st (st' := [.int x22, .ref (xa X 8 n1)]) rfl ?_
        refine s_putI C (fpX5_162_8 _) g1 dX5_readSetting_132 ?_
        refine g_nmM (fun μ23 => ?_)
        refine s_goto (tgt := 214) C dX5_readSetting_135 (by decide) ?_
        exact g_sub [] rfl (hj214 μ23)
      ·
        refine g_cases (v := (30 : Int32)) (fun c24 => ?_) (fun c24 => ?_)
        ·
          refine s_tin (tgt := 138) C dX5_readSetting_8 c24 (by decide) (by decide) rfl (by decide) ?_
          refine s_aload_n C dX5_readSetting_138 rfl 1 rfl ?_
          refine s_aload_n C dX5_readSetting_139 rfl 0 rfl ?_
          refine s_callV C R0 (kX5_takePin (xl X) n0 g0) (Nat.le_trans (by decide) V) mmX5_takePin miX5_takePin q1128 (rc10 _) g0 rfl rfl rfl (Nat.le_of_ble_eq_true rfl) ⟨Nat.le_of_ble_eq_true rfl, Nat.le_of_ble_eq_true rfl, Nat.le_of_ble_eq_true rfl, Nat.le_of_ble_eq_true rfl⟩ dX5_readSetting_140 (fun x26 μ25 => ?_)
          refine g_st (st' := [.int x26, .ref (xa X 8 n1)]) rfl ?_
          refine s_putI C (fpX5_165_8 _) g1 dX5_readSetting_143 ?_
          refine g_nmM (fun μ27 => ?_)
          refine s_aload_n C dX5_readSetting_146 rfl 1 rfl ?_
          refine s_aload_n C dX5_readSetting_147 rfl 0 rfl ?_
          refine s_aload_n C dX5_readSetting_148 rfl 1 rfl ?_
          refine s_getI C (fgX5_165_8 _) g1 dX5_readSetting_149 ?_
          refine s_iconst (v := (5 : Int32)) C dX5_readSetting_152 (by decide) ?_
          refine s_callV C R0 (kX5_takeGroup (xl X) n0 g0 (μ27.1 8 n1 7) (5 : Int32)) (Nat.le_trans (by decide) V) mmX5_takeGroup miX5_takeGroup q1132 (rc10 _) g0 rfl rfl rfl (Nat.le_of_ble_eq_true rfl) ⟨Nat.le_of_ble_eq_true rfl, Nat.le_of_ble_eq_true rfl, Nat.le_of_ble_eq_true rfl, Nat.le_of_ble_eq_true rfl⟩ dX5_readSetting_153 (fun x29 μ28 => ?_)
          refine g_st (st' := [.int x29, .ref (xa X 8 n1)]) rfl ?_
          refine s_putI C (fpX5_168_8 _) g1 dX5_readSetting_156 ?_
          refine g_nmM (fun μ30 => ?_)
          refine s_goto (tgt := 214) C dX5_readSetting_159 (by decide) ?_
          exact g_sub [] rfl (hj214 μ30)
        ·
          refine g_cases (v := (31 : Int32)) (fun c31 => ?_) (fun c31 => ?_)
          ·
            refine s_tin (tgt := 162) C dX5_readSetting_8 c31 (by decide) (by decide) rfl (by decide) ?_
            refine s_aload_n C dX5_readSetting_162 rfl 1 rfl ?_
            refine s_aload_n C dX5_readSetting_163 rfl 0 rfl ?_
            refine s_callV C R0 (kX5_takePin (xl X) n0 g0) (Nat.le_trans (by decide) V) mmX5_takePin miX5_takePin q1128 (rc10 _) g0 rfl rfl rfl (Nat.le_of_ble_eq_true rfl) ⟨Nat.le_of_ble_eq_true rfl, Nat.le_of_ble_eq_true rfl, Nat.le_of_ble_eq_true rfl, Nat.le_of_ble_eq_true rfl⟩ dX5_readSetting_164 (fun x33 μ32 => ?_)
            refine g_st (st' := [.int x33, .ref (xa X 8 n1)]) rfl ?_
            refine s_putI C (fpX5_171_8 _) g1 dX5_readSetting_167 ?_
            refine g_nmM (fun μ34 => ?_)
            refine s_aload_n C dX5_readSetting_170 rfl 1 rfl ?_
            refine s_aload_n C dX5_readSetting_171 rfl 0 rfl ?_
            refine s_aload_n C dX5_readSetting_172 rfl 1 rfl ?_
            refine s_getI C (fgX5_171_8 _) g1 dX5_readSetting_173 ?_
            refine s_iconst (v := (4 : Int32)) C dX5_readSetting_176 (by decide) ?_
            refine s_callV C R0 (kX5_takeGroup (xl X) n0 g0 (μ34.1 8 n1 9) (4 : Int32)) (Nat.le_trans (by decide) V) mmX5_takeGroup miX5_takeGroup q1132 (rc10 _) g0 rfl rfl rfl (Nat.le_of_ble_eq_true rfl) ⟨Nat.le_of_ble_eq_true rfl, Nat.le_of_ble_eq_true rfl, Nat.le_of_ble_eq_true rfl, Nat.le_of_ble_eq_true rfl⟩ dX5_readSetting_177 (fun x36 μ35 => ?_)
            refine g_st (st' := [.int x36, .ref (xa X 8 n1)]) rfl ?_
            refine s_putI C (fpX5_174_8 _) g1 dX5_readSetting_180 ?_
            refine g_nmM (fun μ37 => ?_)
            refine s_goto (tgt := 214) C dX5_readSetting_183 (by decide) ?_
            exact g_sub [] rfl (hj214 μ37)
          ·
            refine g_cases (v := (32 : Int32)) (fun c38 => ?_) (fun c38 => ?_)
            ·
              refine s_tin (tgt := 186) C dX5_readSetting_8 c38 (by decide) (by decide) rfl (by decide) ?_
              refine s_aload_n C dX5_readSetting_186 rfl 1 rfl ?_
              refine s_aload_n C dX5_readSetting_187 rfl 0 rfl ?_
              refine s_callV C R0 (kX5_takePin (xl X) n0 g0) (Nat.le_trans (by decide) V) mmX5_takePin miX5_takePin q1128 (rc10 _) g0 rfl rfl rfl (Nat.le_of_ble_eq_true rfl) ⟨Nat.le_of_ble_eq_true rfl, Nat.le_of_ble_eq_true rfl, Nat.le_of_ble_eq_true rfl, Nat.le_of_ble_eq_true rfl⟩ dX5_readSetting_188 (fun x40 μ39 => ?_)
              refine g_st (st' := [.int x40, .ref (xa X 8 n1)]) rfl ?_
              refine s_putI C (fpX5_177_8 _) g1 dX5_readSetting_191 ?_
              refine g_nmM (fun μ41 => ?_)
              refine s_goto (tgt := 214) C dX5_readSetting_194 (by decide) ?_
              exact g_sub [] rfl (hj214 μ41)
            ·
              refine g_cases (v := (33 : Int32)) (fun c42 => ?_) (fun c42 => ?_)
              ·
                refine s_tin (tgt := 197) C dX5_readSetting_8 c42 (by decide) (by decide) rfl (by decide) ?_
                refine s_aload_n C dX5_readSetting_197 rfl 1 rfl ?_
                refine s_aload_n C dX5_readSetting_198 rfl 0 rfl ?_
                refine s_callV C R0 (kX5_takePin (xl X) n0 g0) (Nat.le_trans (by decide) V) mmX5_takePin miX5_takePin q1128 (rc10 _) g0 rfl rfl rfl (Nat.le_of_ble_eq_true rfl) ⟨Nat.le_of_ble_eq_true rfl, Nat.le_of_ble_eq_true rfl, Nat.le_of_ble_eq_true rfl, Nat.le_of_ble_eq_true rfl⟩ dX5_readSetting_199 (fun x44 μ43 => ?_)
                refine g_st (st' := [.int x44, .ref (xa X 8 n1)]) rfl ?_
                refine s_putI C (fpX5_180_8 _) g1 dX5_readSetting_202 ?_
                refine g_nmM (fun μ45 => ?_)
                refine s_goto (tgt := 214) C dX5_readSetting_205 (by decide) ?_
                exact g_sub [] rfl (hj214 μ45)
              ·
                refine s_tout (tgt := 208) C dX5_readSetting_8 (by have := ine (i := 27) (by decide) c3; have := ine (i := 28) (by decide) c10; have := ine (i := 29) (by decide) c17; have := ine (i := 30) (by decide) c24; have := ine (i := 31) (by decide) c31; have := ine (i := 32) (by decide) c38; have := ine (i := 33) (by decide) c42; omega) (by decide) ?_
                refine s_aload_n C dX5_readSetting_208 rfl 0 rfl ?_
                refine s_aload_n C dX5_readSetting_209 rfl 1 rfl ?_
                refine s_aload_n C dX5_readSetting_210 rfl 2 rfl ?_
                refine s_callV C R0 (kX5_readShifting (xl X) n0 g0 n1 g1 n2 g2) (Nat.le_trans (by decide) V) mmX5_readShifting miX5_readShifting q1140 (rc10 _) g0 rfl rfl rfl (Nat.le_of_ble_eq_true rfl) ⟨Nat.le_of_ble_eq_true rfl, Nat.le_of_ble_eq_true rfl, Nat.le_of_ble_eq_true rfl, Nat.le_of_ble_eq_true rfl⟩ dX5_readSetting_211 (fun _ μ46 => ?_)
                refine g_st (st' := []) rfl ?_
                exact g_sub [] rfl (hj214 μ46)
/-! PinEngines$ProgramReader.readLevel()V -/
def fX5_readLevel (n0 : Nat) (μ : Mem) : Option (Unit × Mem) :=
  bnd (fX5_takePin n0 μ) fun x2 μ1 =>
  bnd (fX11_takeNumber 0 (0 : Int32) (1 : Int32) μ1) fun x4 μ3 =>
  nm (μ3.2.1 10 n0 1) fun a5 =>
  ckB a5 2 <|
  nm (μ3.2.1 10 n0 1) fun a7 =>
  ckB a7 2 <|
  nm (wI μ3 5 a5 1 (((μ3.1 5 a7 1) &&& (((1 : Int32) <<< (x2 &&& 31)) ^^^ (-1 : Int32))) ||| (x4 <<< (x2 &&& 31)))) fun μ9 =>
  some ((), μ9)
set_option maxHeartbeats 4000000 in
set_option maxRecDepth 100000 in
theorem kX5_readLevel (l : Launch) (n0 : Nat) (g0 : n0 < 1) : Kon 0 l yX5_readLevel cX5_readLevel 3 (none) 3 67 0 0 (fun ad => [.ref (ad 10 n0)]) rvV (fun μ => fX5_readLevel n0 μ) := by
  refine kon_of (by decide) (fun _ => Nat.le_of_ble_eq_true rfl) (fun X r0 μ hXl hXn V C E => ?_)
  have hN : ∀ i : Nat, i < 3 → i < xn X := fun i h => hXn.symm ▸ h
  have R0 := fen_rm E
  show G X r0 0 0 μ 0 [(0, .ref (xa X 10 n0))] [] (fX5_readLevel n0 μ)
  unfold fX5_readLevel
  refine s_aload_n C dX5_readLevel_0 rfl 0 rfl ?_
  refine s_callV C R0 (kX5_takePin (xl X) n0 g0) (Nat.le_trans (by decide) V) mmX5_takePin miX5_takePin q1128 (rc10 _) g0 rfl rfl rfl (Nat.le_of_ble_eq_true rfl) ⟨Nat.le_of_ble_eq_true rfl, Nat.le_of_ble_eq_true rfl, Nat.le_of_ble_eq_true rfl, Nat.le_of_ble_eq_true rfl⟩ dX5_readLevel_1 (fun x2 μ1 => ?_)
  refine g_st (st' := [.int x2]) rfl ?_
  refine s_istore_n (L' := [(1, .int x2), (0, .ref (xa X 10 n0))]) C dX5_readLevel_4 rfl (hN 1 (by decide)) rfl ?_
  refine s_aload_n C dX5_readLevel_5 rfl 1 rfl ?_
  refine s_getF C (fgX5_26_10 _) g0 dX5_readLevel_6 ?_
  refine s_iconst (v := (0 : Int32)) C dX5_readLevel_9 (by decide) ?_
  refine s_iconst (v := (1 : Int32)) C dX5_readLevel_10 (by decide) ?_
  refine s_callV C R0 (kX11_takeNumber (xl X) 0 (by decide) (0 : Int32) (1 : Int32)) (Nat.le_trans (by decide) V) mmX11_takeNumber miX11_takeNumber q1077 (rc2 _) (by decide) rfl rfl rfl (Nat.le_of_ble_eq_true rfl) ⟨Nat.le_of_ble_eq_true rfl, Nat.le_of_ble_eq_true rfl, Nat.le_of_ble_eq_true rfl, Nat.le_of_ble_eq_true rfl⟩ dX5_readLevel_11 (fun x4 μ3 => ?_)
  refine g_st (st' := [.int x4]) rfl ?_
  refine s_istore_n (L' := [(2, .int x4), (1, .int x2), (0, .ref (xa X 10 n0))]) C dX5_readLevel_14 rfl (hN 2 (by decide)) rfl ?_
  refine s_aload_n C dX5_readLevel_15 rfl 2 rfl ?_
  refine s_getM C (fgX5_30_10 _) g0 dX5_readLevel_16 ?_
  refine g_nmA (fun a5 => ?_)
  refine g_ckB (fun b6 => ?_)
  refine s_aload_n C dX5_readLevel_19 rfl 2 rfl ?_
  refine s_getM C (fgX5_30_10 _) g0 dX5_readLevel_20 ?_
  refine g_nmA (fun a7 => ?_)
  refine g_ckB (fun b8 => ?_)
  refine s_getI C (fgX5_207_5 _) b8 dX5_readLevel_23 ?_
  refine s_iconst (v := (1 : Int32)) C dX5_readLevel_26 (by decide) ?_
  refine s_iload_n C dX5_readLevel_27 rfl 1 rfl ?_
  refine s_ishl C dX5_readLevel_28 ?_
  refine s_iconst (v := (-1 : Int32)) C dX5_readLevel_29 (by decide) ?_
  refine s_ixor C dX5_readLevel_30 ?_
  refine s_iand C dX5_readLevel_31 ?_
  refine s_iload_n C dX5_readLevel_32 rfl 0 rfl ?_
  refine s_iload_n C dX5_readLevel_33 rfl 1 rfl ?_
  refine s_ishl C dX5_readLevel_34 ?_
  refine s_ior C dX5_readLevel_35 ?_
  refine s_putI C (fpX5_207_5 _) b6 dX5_readLevel_36 ?_
  refine g_nmM (fun μ9 => ?_)
  exact s_vret C E dX5_readLevel_39
/-! PinEngines$ProgramReader.defineLabel()V -/
def fX5_defineLabel (fu : Nat) (n0 : Nat) (μ : Mem) : Option (Unit × Mem) :=
  jn (fun (μ1 : Mem) =>
    some ((), μ1)
  ) fun j70 =>
  bnd (fX5_labelAddress fu n0 μ) fun x3 μ2 =>
  if x3 = (-1 : Int32) then (
    if (32 : Int32) ≤ (μ2.1 10 n0 3) then (
      j70 μ2
    ) else (
      ckI (μ2.1 10 n0 3) (32) <|
      nm (wI μ2 11 0 (μ2.1 10 n0 3).toNatClampNeg (μ2.1 2 0 6)) fun μ6 =>
      nm (μ6.2.1 10 n0 1) fun a7 =>
      ckB a7 2 <|
      ckI (μ6.1 10 n0 3) (32) <|
      nm (wI μ6 11 1 (μ6.1 10 n0 3).toNatClampNeg (μ6.1 5 a7 0)) fun μ9 =>
      nm (wI μ9 10 n0 3 ((μ9.1 10 n0 3) + (1 : Int32))) fun μ10 =>
      j70 μ10
    )
  ) else (
    bnd (fX11_fail 0 (4 : Int32) μ2) fun _ μ11 =>
    j70 μ11
  )
set_option maxHeartbeats 4000000 in
set_option maxRecDepth 100000 in
theorem kX5_defineLabel (l : Launch) (fu : Nat) (n0 : Nat) (g0 : n0 < 1) : Kon 0 l yX5_defineLabel cX5_defineLabel 1 (none) 2 44 0 0 (fun ad => [.ref (ad 10 n0)]) rvV (fun μ => fX5_defineLabel fu n0 μ) := by
  refine kon_of (by decide) (fun _ => Nat.le_of_ble_eq_true rfl) (fun X r0 μ hXl hXn V C E => ?_)
  have hN : ∀ i : Nat, i < 1 → i < xn X := fun i h => hXn.symm ▸ h
  have R0 := fen_rm E
  show G X r0 0 0 μ 0 [(0, .ref (xa X 10 n0))] [] (fX5_defineLabel fu n0 μ)
  unfold fX5_defineLabel
  refine g_jn (P := fun j70 => ∀ (μ1 : Mem), G X r0 0 0 μ1 70 [] [] (j70 μ1)) ?_ (fun j70 hj70 => ?_)
  · intro μ1
    exact s_vret C E dX5_defineLabel_70
  refine s_aload_n C dX5_defineLabel_0 rfl 0 rfl ?_
  refine s_callV C R0 (kX5_labelAddress (xl X) fu n0 g0) (Nat.le_trans (by decide) V) mmX5_labelAddress miX5_labelAddress q1094 (rc10 _) g0 rfl rfl rfl (Nat.le_of_ble_eq_true rfl) ⟨Nat.le_of_ble_eq_true rfl, Nat.le_of_ble_eq_true rfl, Nat.le_of_ble_eq_true rfl, Nat.le_of_ble_eq_true rfl⟩ dX5_defineLabel_1 (fun x3 μ2 => ?_)
  refine g_st (st' := [.int x3]) rfl ?_
  refine s_iconst (v := (-1 : Int32)) C dX5_defineLabel_4 (by decide) ?_
  refine s_icmp_eq (tgt := 19) C dX5_defineLabel_5 (by decide) (fun c4 => ?_) (fun c4 => ?_)
  ·
    refine s_aload_n C dX5_defineLabel_19 rfl 0 rfl ?_
    refine s_getI C (fgX5_15_10 _) g0 dX5_defineLabel_20 ?_
    refine s_bipush (v := (32 : Int32)) C dX5_defineLabel_23 (by decide) ?_
    refine s_icmp_ge (tgt := 70) C dX5_defineLabel_25 (by decide) (fun c5 => ?_) (fun c5 => ?_)
    ·
      exact g_sub [] rfl (hj70 μ2)
    ·
      refine s_aload_n C dX5_defineLabel_28 rfl 0 rfl ?_
      refine s_getF C (fgX5_19_10 _) g0 dX5_defineLabel_29 ?_
      refine s_aload_n C dX5_defineLabel_32 rfl 0 rfl ?_
      refine s_getI C (fgX5_15_10 _) g0 dX5_defineLabel_33 ?_
      refine s_aload_n C dX5_defineLabel_36 rfl 0 rfl ?_
      refine s_getF C (fgX5_26_10 _) g0 dX5_defineLabel_37 ?_
      refine s_getI C (fgX5_222_2 _) (by decide) dX5_defineLabel_40 ?_
      refine s_iast C (ag11 _) (by decide) dX5_defineLabel_43 ?_
      refine g_nmM (fun μ6 => ?_)
      refine s_aload_n C dX5_defineLabel_44 rfl 0 rfl ?_
      refine s_getF C (fgX5_23_10 _) g0 dX5_defineLabel_45 ?_
      refine s_aload_n C dX5_defineLabel_48 rfl 0 rfl ?_
      refine s_getI C (fgX5_15_10 _) g0 dX5_defineLabel_49 ?_
      refine s_aload_n C dX5_defineLabel_52 rfl 0 rfl ?_
      refine s_getM C (fgX5_30_10 _) g0 dX5_defineLabel_53 ?_
      refine g_nmA (fun a7 => ?_)
      refine g_ckB (fun b8 => ?_)
      refine s_getI C (fgX5_225_5 _) b8 dX5_defineLabel_56 ?_
      refine s_iast C (ag11 _) (by decide) dX5_defineLabel_59 ?_
      refine g_nmM (fun μ9 => ?_)
      refine s_aload_n C dX5_defineLabel_60 rfl 0 rfl ?_
      refine s_dup C dX5_defineLabel_61 rfl ?_
      refine s_getI C (fgX5_15_10 _) g0 dX5_defineLabel_62 ?_
      refine s_iconst (v := (1 : Int32)) C dX5_defineLabel_65 (by decide) ?_
      refine s_iadd C dX5_defineLabel_66 ?_
      refine s_putI C (fpX5_15_10 _) g0 dX5_defineLabel_67 ?_
      refine g_nmM (fun μ10 => ?_)
      exact g_sub [] rfl (hj70 μ10)
  ·
    refine s_aload_n C dX5_defineLabel_8 rfl 0 rfl ?_
    refine s_getF C (fgX5_26_10 _) g0 dX5_defineLabel_9 ?_
    refine s_iconst (v := (4 : Int32)) C dX5_defineLabel_12 (by decide) ?_
    refine s_callV C R0 (kX11_fail (xl X) 0 (by decide) (4 : Int32)) (Nat.le_trans (by decide) V) mmX11_fail miX11_fail q1073 (rc2 _) (by decide) rfl rfl rfl (Nat.le_of_ble_eq_true rfl) ⟨Nat.le_of_ble_eq_true rfl, Nat.le_of_ble_eq_true rfl, Nat.le_of_ble_eq_true rfl, Nat.le_of_ble_eq_true rfl⟩ dX5_defineLabel_13 (fun _ μ11 => ?_)
    refine g_st (st' := []) rfl ?_
    refine s_goto (tgt := 70) C dX5_defineLabel_16 (by decide) ?_
    exact g_sub [] rfl (hj70 μ11)
/-! PinEngines$ProgramReader.readOperands(LPinEngines$Instruction;)V -/
def fX5_readOperands (fu : Nat) (n0 : Nat) (n1 : Nat) (μ : Mem) : Option (Unit × Mem) :=
  jn (fun (μ1 : Mem) =>
    some ((), μ1)
  ) fun j386 =>
  nm (μ.2.1 9 n1 0) fun a2 =>
  ckB a2 74 <|
  ckI (syO.getD a2 0) 74 <|
  nm ((smL.getD (syO.getD a2 0).toNatClampNeg 0)) fun x4 =>
  if x4 = (1 : Int32) then (
    bnd (fX11_takeOptional 0 (4 : Int32) μ) fun a7 μ6 =>
    ckB a7 74 <|
    nm (wR μ6 9 n1 2 a7) fun μ9 =>
    bnd (fX5_takeName fu n0 μ9) fun x11 μ10 =>
    nm (wI μ10 9 n1 5 x11) fun μ12 =>
    j386 μ12
  ) else (
  if x4 = (2 : Int32) then (
    jn (fun (μ14 : Mem) (a15 : Nat) (x17 : Int32) =>
      nm (wI μ14 9 a15 5 x17) fun μ18 =>
      j386 μ18
    ) fun j171 =>
    bnd (fX11_takeNumber 0 (0 : Int32) (1 : Int32) μ) fun x20 μ19 =>
    nm (wI μ19 9 n1 1 x20) fun μ21 =>
    bnd (fX11_takeRole 0 (8 : Int32) μ21) fun a23 μ22 =>
    ckB a23 74 <|
    nm (wR μ22 9 n1 2 a23) fun μ25 =>
    nm (μ25.2.1 9 n1 2) fun a26 =>
    ckB a26 74 <|
    if ¬ a26 = 48 then (
      bnd (fX5_takeFlag n0 μ25) fun x30 μ29 =>
      j171 μ29 n1 x30
    ) else (
      bnd (fX5_takePin n0 μ25) fun x32 μ31 =>
      j171 μ31 n1 x32
    )
  ) else (
  if x4 = (3 : Int32) then (
    bnd (fX11_takeRole 0 (16 : Int32) μ) fun a35 μ34 =>
    ckB a35 74 <|
    nm (wR μ34 9 n1 2 a35) fun μ37 =>
    bnd (fX11_takeNumber 0 (1 : Int32) (32 : Int32) μ37) fun x39 μ38 =>
    nm (wI μ38 9 n1 5 x39) fun μ40 =>
    j386 μ40
  ) else (
  if x4 = (4 : Int32) then (
    bnd (fX11_takeRole 0 (32 : Int32) μ) fun a43 μ42 =>
    ckB a43 74 <|
    nm (wR μ42 9 n1 2 a43) fun μ45 =>
    bnd (fX11_takeNumber 0 (1 : Int32) (32 : Int32) μ45) fun x47 μ46 =>
    nm (wI μ46 9 n1 5 x47) fun μ48 =>
    j386 μ48
  ) else (
  if x4 = (5 : Int32) then (
    bnd (fX5_readWays n0 n1 60 μ) fun _ μ50 =>
    j386 μ50
  ) else (
  if x4 = (6 : Int32) then (
    bnd (fX5_readWays n0 n1 61 μ) fun _ μ52 =>
    j386 μ52
  ) else (
  if x4 = (7 : Int32) then (
    bnd (fX11_takeRole 0 (64 : Int32) μ) fun a55 μ54 =>
    ckB a55 74 <|
    nm (wR μ54 9 n1 2 a55) fun μ57 =>
    bnd (fX11_takeOptional 0 (128 : Int32) μ57) fun a59 μ58 =>
    ckB a59 74 <|
    nm (wR μ58 9 n1 3 a59) fun μ61 =>
    bnd (fX11_takeRole 0 (256 : Int32) μ61) fun a63 μ62 =>
    ckB a63 74 <|
    nm (wR μ62 9 n1 4 a63) fun μ65 =>
    j386 μ65
  ) else (
  if x4 = (11 : Int32) then (
    bnd (fX11_takeRole 0 (512 : Int32) μ) fun a68 μ67 =>
    ckB a68 74 <|
    nm (wR μ67 9 n1 2 a68) fun μ70 =>
    bnd (fX11_takeNumber 0 (0 : Int32) (31 : Int32) μ70) fun x72 μ71 =>
    nm (wI μ71 9 n1 5 x72) fun μ73 =>
    j386 μ73
  ) else (
  if x4 = (40 : Int32) then (
    bnd (fX11_takeRole 0 (1024 : Int32) μ) fun a76 μ75 =>
    ckB a76 74 <|
    nm (wR μ75 9 n1 2 a76) fun μ78 =>
    bnd (fX5_readPlace n0 n1 μ78) fun _ μ79 =>
    j386 μ79
  ) else (
  if x4 = (41 : Int32) then (
    bnd (fX11_takeRole 0 (2048 : Int32) μ) fun a82 μ81 =>
    ckB a82 74 <|
    nm (wR μ81 9 n1 2 a82) fun μ84 =>
    bnd (fX5_readPlace n0 n1 μ84) fun _ μ85 =>
    j386 μ85
  ) else (
  bnd (fX5_takeFlag n0 μ) fun x87 μ86 =>
  nm (wI μ86 9 n1 5 x87) fun μ88 =>
  j386 μ88
  ))))))))))
set_option maxHeartbeats 4000000 in
set_option maxRecDepth 100000 in
theorem kX5_readOperands (l : Launch) (fu : Nat) (n0 : Nat) (g0 : n0 < 1) (n1 : Nat) (g1 : n1 < 66) : Kon 0 l yX5_readOperands cX5_readOperands 2 (none) 3 68 0 0 (fun ad => [.ref (ad 10 n0), .ref (ad 9 n1)]) rvV (fun μ => fX5_readOperands fu n0 n1 μ) := by
  refine kon_of (by decide) (fun _ => Nat.le_of_ble_eq_true rfl) (fun X r0 μ hXl hXn V C E => ?_)
  have hN : ∀ i : Nat, i < 2 → i < xn X := fun i h => hXn.symm ▸ h
  have R0 := fen_rm E
  show G X r0 0 0 μ 0 [(0, .ref (xa X 10 n0)), (1, .ref (xa X 9 n1))] [] (fX5_readOperands fu n0 n1 μ)
  unfold fX5_readOperands
  refine g_jn (P := fun j386 => ∀ (μ1 : Mem), G X r0 0 0 μ1 386 [] [] (j386 μ1)) ?_ (fun j386 hj386 => ?_)
  · intro μ1
    exact s_vret C E dX5_readOperands_386
  refine s_gmap C q1120 dX5_readOperands_0 ?_
  refine s_aload_n C dX5_readOperands_3 rfl 1 rfl ?_
  refine s_getM C (fgX5_257_9 _) g1 dX5_readOperands_4 ?_
  refine g_nmA (fun a2 => ?_)
  refine g_ckB (fun b3 => ?_)
  refine s_ordn C R0 b3 q1122 ⟨Nat.le_of_ble_eq_true rfl, Nat.le_of_ble_eq_true rfl, Nat.le_of_ble_eq_true rfl, Nat.le_of_ble_eq_true rfl⟩ (Nat.le_of_ble_eq_true rfl) dX5_readOperands_7 ?_
  refine s_mapld C dX5_readOperands_10 ?_
  refine g_nmI (fun x4 => ?_)
  refine g_cases (v := (1 : Int32)) (fun c5 => ?_) (fun c5 => ?_)
  ·
    refine s_lin (tgt := 100) C dX5_readOperands_11 c5 (by decide) rfl (by decide) ?_
    refine s_aload_n C dX5_readOperands_100 rfl 1 rfl ?_
    refine s_aload_n C dX5_readOperands_101 rfl 0 rfl ?_
    refine s_getF C (fgX5_26_10 _) g0 dX5_readOperands_102 ?_
    refine s_iconst (v := (4 : Int32)) C dX5_readOperands_105 (by decide) ?_
    refine s_callV C R0 (kX11_takeOptional (xl X) 0 (by decide) (4 : Int32)) (Nat.le_trans (by decide) V) mmX11_takeOptional miX11_takeOptional q1181 (rc2 _) (by decide) rfl rfl rfl (Nat.le_of_ble_eq_true rfl) ⟨Nat.le_of_ble_eq_true rfl, Nat.le_of_ble_eq_true rfl, Nat.le_of_ble_eq_true rfl, Nat.le_of_ble_eq_true rfl⟩ dX5_readOperands_106 (fun a7 μ6 => ?_)
    refine g_st (st' := [.ref (xa X 50 a7), .ref (xa X 9 n1)]) rfl ?_
    refine g_ckB (fun b8 => ?_)
    refine s_putM C (fpX5_263_9 _) g1 dX5_readOperands_109 ?_
    refine g_nmM (fun μ9 => ?_)
    refine s_aload_n C dX5_readOperands_112 rfl 1 rfl ?_
    refine s_aload_n C dX5_readOperands_113 rfl 0 rfl ?_
    refine s_callV C R0 (kX5_takeName (xl X) fu n0 g0) (Nat.le_trans (by decide) V) mmX5_takeName miX5_takeName q1089 (rc10 _) g0 rfl rfl rfl (Nat.le_of_ble_eq_true rfl) ⟨Nat.le_of_ble_eq_true rfl, Nat.le_of_ble_eq_true rfl, Nat.le_of_ble_eq_true rfl, Nat.le_of_ble_eq_true rfl⟩ dX5_readOperands_114 (fun x11 μ10 => ?_)
    refine g_st (st' := [.int x11, .ref (xa X 9 n1)]) rfl ?_
    refine s_putI C (fpX5_266_9 _) g1 dX5_readOperands_117 ?_
    refine g_nmM (fun μ12 => ?_)
    refine s_goto (tgt := 386) C dX5_readOperands_120 (by decide) ?_
    exact g_sub [] rfl (hj386 μ12)
  ·
    refine g_cases (v := (2 : Int32)) (fun c13 => ?_) (fun c13 => ?_)
    ·
      refine s_lin (tgt := 123) C dX5_readOperands_11 c13 (by decide) rfl (by decide) ?_
      refine g_jn (P := fun j171 => ∀ (μ14 : Mem) (a15 : Nat) (x17 : Int32), a15 < 66 → G X r0 0 0 μ14 171 [] [.int x17, .ref (xa X 9 a15)] (j171 μ14 a15 x17)) ?_ (fun j171 hj171 => ?_)
      · intro μ14 a15 x17 b16
        refine s_putI C (fpX5_266_9 _) b16 dX5_readOperands_171 ?_
        refine g_nmM (fun μ18 => ?_)
        refine s_goto (tgt := 386) C dX5_readOperands_174 (by decide) ?_
        exact g_sub [] rfl (hj386 μ18)
      refine s_aload_n C dX5_readOperands_123 rfl 1 rfl ?_
      refine s_aload_n C dX5_readOperands_124 rfl 0 rfl ?_
      refine s_getF C (fgX5_26_10 _) g0 dX5_readOperands_125 ?_
      refine s_iconst (v := (0 : Int32)) C dX5_readOperands_128 (by decide) ?_
      refine s_iconst (v := (1 : Int32)) C dX5_readOperands_129 (by decide) ?_
      refine s_callV C R0 (kX11_takeNumber (xl X) 0 (by decide) (0 : Int32) (1 : Int32)) (Nat.le_trans (by decide) V) mmX11_takeNumber miX11_takeNumber q1077 (rc2 _) (by decide) rfl rfl rfl (Nat.le_of_ble_eq_true rfl) ⟨Nat.le_of_ble_eq_true rfl, Nat.le_of_ble_eq_true rfl, Nat.le_of_ble_eq_true rfl, Nat.le_of_ble_eq_true rfl⟩ dX5_readOperands_130 (fun x20 μ19 => ?_)
      refine g_st (st' := [.int x20, .ref (xa X 9 n1)]) rfl ?_
      refine s_putI C (fpX5_268_9 _) g1 dX5_readOperands_133 ?_
      refine g_nmM (fun μ21 => ?_)
      refine s_aload_n C dX5_readOperands_136 rfl 1 rfl ?_
      refine s_aload_n C dX5_readOperands_137 rfl 0 rfl ?_
      refine s_getF C (fgX5_26_10 _) g0 dX5_readOperands_138 ?_
      refine s_bipush (v := (8 : Int32)) C dX5_readOperands_141 (by decide) ?_
      refine s_callV C R0 (kX11_takeRole (xl X) 0 (by decide) (8 : Int32)) (Nat.le_trans (by decide) V) mmX11_takeRole miX11_takeRole q1106 (rc2 _) (by decide) rfl rfl rfl (Nat.le_of_ble_eq_true rfl) ⟨Nat.le_of_ble_eq_true rfl, Nat.le_of_ble_eq_true rfl, Nat.le_of_ble_eq_true rfl, Nat.le_of_ble_eq_true rfl⟩ dX5_readOperands_143 (fun a23 μ22 => ?_)
      refine g_st (st' := [.ref (xa X 50 a23), .ref (xa X 9 n1)]) rfl ?_
      refine g_ckB (fun b24 => ?_)
      refine s_putM C (fpX5_263_9 _) g1 dX5_readOperands_146 ?_
      refine g_nmM (fun μ25 => ?_)
      refine s_aload_n C dX5_readOperands_149 rfl 1 rfl ?_
      refine s_aload_n C dX5_readOperands_150 rfl 1 rfl ?_
      refine s_getM C (fgX5_263_9 _) g1 dX5_readOperands_151 ?_
      refine g_nmA (fun a26 => ?_)
      refine g_ckB (fun b27 => ?_)
      refine s_gsym (i := 48) C (by decide) rfl q1182 dX5_readOperands_154 ?_
      refine s_acmp_ne (tgt := 167) C b27 (by decide) dX5_readOperands_157 (by decide) (fun c28 => ?_) (fun c28 => ?_)
      ·
        refine s_aload_n C dX5_readOperands_167 rfl 0 rfl ?_
        refine s_callV C R0 (kX5_takeFlag (xl X) n0 g0) (Nat.le_trans (by decide) V) mmX5_takeFlag miX5_takeFlag q1184 (rc10 _) g0 rfl rfl rfl (Nat.le_of_ble_eq_true rfl) ⟨Nat.le_of_ble_eq_true rfl, Nat.le_of_ble_eq_true rfl, Nat.le_of_ble_eq_true rfl, Nat.le_of_ble_eq_true rfl⟩ dX5_readOperands_168 (fun x30 μ29 => ?_)
        refine g_st (st' := [.int x30, .ref (xa X 9 n1)]) rfl ?_
        exact g_sub [] rfl (hj171 μ29 n1 x30 g1)
      ·
        refine s_aload_n C dX5_readOperands_160 rfl 0 rfl ?_
        refine s_callV C R0 (kX5_takePin (xl X) n0 g0) (Nat.le_trans (by decide) V) mmX5_takePin miX5_takePin q1128 (rc10 _) g0 rfl rfl rfl (Nat.le_of_ble_eq_true rfl) ⟨Nat.le_of_ble_eq_true rfl, Nat.le_of_ble_eq_true rfl, Nat.le_of_ble_eq_true rfl, Nat.le_of_ble_eq_true rfl⟩ dX5_readOperands_161 (fun x32 μ31 => ?_)
        refine g_st (st' := [.int x32, .ref (xa X 9 n1)]) rfl ?_
        refine s_goto (tgt := 171) C dX5_readOperands_164 (by decide) ?_
        exact g_sub [] rfl (hj171 μ31 n1 x32 g1)
    ·
      refine g_cases (v := (3 : Int32)) (fun c33 => ?_) (fun c33 => ?_)
      ·
        refine s_lin (tgt := 177) C dX5_readOperands_11 c33 (by decide) rfl (by decide) ?_
        refine s_aload_n C dX5_readOperands_177 rfl 1 rfl ?_
        refine s_aload_n C dX5_readOperands_178 rfl 0 rfl ?_
        refine s_getF C (fgX5_26_10 _) g0 dX5_readOperands_179 ?_
        refine s_bipush (v := (16 : Int32)) C dX5_readOperands_182 (by decide) ?_
        refine s_callV C R0 (kX11_takeRole (xl X) 0 (by decide) (16 : Int32)) (Nat.le_trans (by decide) V) mmX11_takeRole miX11_takeRole q1106 (rc2 _) (by decide) rfl rfl rfl (Nat.le_of_ble_eq_true rfl) ⟨Nat.le_of_ble_eq_true rfl, Nat.le_of_ble_eq_true rfl, Nat.le_of_ble_eq_true rfl, Nat.le_of_ble_eq_true rfl⟩ dX5_readOperands_184 (fun a35 μ34 => ?_)
        refine g_st (st' := [.ref (xa X 50 a35), .ref (xa X 9 n1)]) rfl ?_
        refine g_ckB (fun b36 => ?_)
        refine s_putM C (fpX5_263_9 _) g1 dX5_readOperands_187 ?_
        refine g_nmM (fun μ37 => ?_)
        refine s_aload_n C dX5_readOperands_190 rfl 1 rfl ?_
        refine s_aload_n C dX5_readOperands_191 rfl 0 rfl ?_
        refine s_getF C (fgX5_26_10 _) g0 dX5_readOperands_192 ?_
        refine s_iconst (v := (1 : Int32)) C dX5_readOperands_195 (by decide) ?_
        refine s_bipush (v := (32 : Int32)) C dX5_readOperands_196 (by decide) ?_
        refine s_callV C R0 (kX11_takeNumber (xl X) 0 (by decide) (1 : Int32) (32 : Int32)) (Nat.le_trans (by decide) V) mmX11_takeNumber miX11_takeNumber q1077 (rc2 _) (by decide) rfl rfl rfl (Nat.le_of_ble_eq_true rfl) ⟨Nat.le_of_ble_eq_true rfl, Nat.le_of_ble_eq_true rfl, Nat.le_of_ble_eq_true rfl, Nat.le_of_ble_eq_true rfl⟩ dX5_readOperands_198 (fun x39 μ38 => ?_)
        refine g_st (st' := [.int x39, .ref (xa X 9 n1)]) rfl ?_
        refine s_putI C (fpX5_266_9 _) g1 dX5_readOperands_201 ?_
        refine g_nmM (fun μ40 => ?_)
        refine s_goto (tgt := 386) C dX5_readOperands_204 (by decide) ?_
        exact g_sub [] rfl (hj386 μ40)
      ·
        refine g_cases (v := (4 : Int32)) (fun c41 => ?_) (fun c41 => ?_)
        ·
          refine s_lin (tgt := 207) C dX5_readOperands_11 c41 (by decide) rfl (by decide) ?_
          refine s_aload_n C dX5_readOperands_207 rfl 1 rfl ?_
          refine s_aload_n C dX5_readOperands_208 rfl 0 rfl ?_
          refine s_getF C (fgX5_26_10 _) g0 dX5_readOperands_209 ?_
          refine s_bipush (v := (32 : Int32)) C dX5_readOperands_212 (by decide) ?_
          refine s_callV C R0 (kX11_takeRole (xl X) 0 (by decide) (32 : Int32)) (Nat.le_trans (by decide) V) mmX11_takeRole miX11_takeRole q1106 (rc2 _) (by decide) rfl rfl rfl (Nat.le_of_ble_eq_true rfl) ⟨Nat.le_of_ble_eq_true rfl, Nat.le_of_ble_eq_true rfl, Nat.le_of_ble_eq_true rfl, Nat.le_of_ble_eq_true rfl⟩ dX5_readOperands_214 (fun a43 μ42 => ?_)
          refine g_st (st' := [.ref (xa X 50 a43), .ref (xa X 9 n1)]) rfl ?_
          refine g_ckB (fun b44 => ?_)
          refine s_putM C (fpX5_263_9 _) g1 dX5_readOperands_217 ?_
          refine g_nmM (fun μ45 => ?_)
          refine s_aload_n C dX5_readOperands_220 rfl 1 rfl ?_
          refine s_aload_n C dX5_readOperands_221 rfl 0 rfl ?_
          refine s_getF C (fgX5_26_10 _) g0 dX5_readOperands_222 ?_
          refine s_iconst (v := (1 : Int32)) C dX5_readOperands_225 (by decide) ?_
          refine s_bipush (v := (32 : Int32)) C dX5_readOperands_226 (by decide) ?_
          refine s_callV C R0 (kX11_takeNumber (xl X) 0 (by decide) (1 : Int32) (32 : Int32)) (Nat.le_trans (by decide) V) mmX11_takeNumber miX11_takeNumber q1077 (rc2 _) (by decide) rfl rfl rfl (Nat.le_of_ble_eq_true rfl) ⟨Nat.le_of_ble_eq_true rfl, Nat.le_of_ble_eq_true rfl, Nat.le_of_ble_eq_true rfl, Nat.le_of_ble_eq_true rfl⟩ dX5_readOperands_228 (fun x47 μ46 => ?_)
          refine g_st (st' := [.int x47, .ref (xa X 9 n1)]) rfl ?_
          refine s_putI C (fpX5_266_9 _) g1 dX5_readOperands_231 ?_
          refine g_nmM (fun μ48 => ?_)
          refine s_goto (tgt := 386) C dX5_readOperands_234 (by decide) ?_
          exact g_sub [] rfl (hj386 μ48)
        ·
          refine g_cases (v := (5 : Int32)) (fun c49 => ?_) (fun c49 => ?_)
          ·
            refine s_lin (tgt := 237) C dX5_readOperands_11 c49 (by decide) rfl (by decide) ?_
            refine s_aload_n C dX5_readOperands_237 rfl 0 rfl ?_
            refine s_aload_n C dX5_readOperands_238 rfl 1 rfl ?_
            refine s_gsym (i := 60) C (by decide) rfl q1188 dX5_readOperands_239 ?_
            refine s_callV C R0 (kX5_readWays (xl X) n0 g0 n1 g1 60 (by decide)) (Nat.le_trans (by decide) V) mmX5_readWays miX5_readWays q1190 (rc10 _) g0 rfl rfl rfl (Nat.le_of_ble_eq_true rfl) ⟨Nat.le_of_ble_eq_true rfl, Nat.le_of_ble_eq_true rfl, Nat.le_of_ble_eq_true rfl, Nat.le_of_ble_eq_true rfl⟩ dX5_readOperands_242 (fun _ μ50 => ?_)
            refine g_st (st' := []) rfl ?_
            refine s_goto (tgt := 386) C dX5_readOperands_245 (by decide) ?_
            exact g_sub [] rfl (hj386 μ50)
          ·
            refine g_cases (v := (6 : Int32)) (fun c51 => ?_) (fun c51 => ?_)
            ·
              refine s_lin (tgt := 248) C dX5_readOperands_11 c51 (by decide) rfl (by decide) ?_
              refine s_aload_n C dX5_readOperands_248 rfl 0 rfl ?_
              refine s_aload_n C dX5_readOperands_249 rfl 1 rfl ?_
              refine s_gsym (i := 61) C (by decide) rfl q1196 dX5_readOperands_250 ?_
              refine s_callV C R0 (kX5_readWays (xl X) n0 g0 n1 g1 61 (by decide)) (Nat.le_trans (by decide) V) mmX5_readWays miX5_readWays q1190 (rc10 _) g0 rfl rfl rfl (Nat.le_of_ble_eq_true rfl) ⟨Nat.le_of_ble_eq_true rfl, Nat.le_of_ble_eq_true rfl, Nat.le_of_ble_eq_true rfl, Nat.le_of_ble_eq_true rfl⟩ dX5_readOperands_253 (fun _ μ52 => ?_)
              refine g_st (st' := []) rfl ?_
              refine s_goto (tgt := 386) C dX5_readOperands_256 (by decide) ?_
              exact g_sub [] rfl (hj386 μ52)
            ·
              refine g_cases (v := (7 : Int32)) (fun c53 => ?_) (fun c53 => ?_)
              ·
                refine s_lin (tgt := 259) C dX5_readOperands_11 c53 (by decide) rfl (by decide) ?_
                refine s_aload_n C dX5_readOperands_259 rfl 1 rfl ?_
                refine s_aload_n C dX5_readOperands_260 rfl 0 rfl ?_
                refine s_getF C (fgX5_26_10 _) g0 dX5_readOperands_261 ?_
                refine s_bipush (v := (64 : Int32)) C dX5_readOperands_264 (by decide) ?_
                refine s_callV C R0 (kX11_takeRole (xl X) 0 (by decide) (64 : Int32)) (Nat.le_trans (by decide) V) mmX11_takeRole miX11_takeRole q1106 (rc2 _) (by decide) rfl rfl rfl (Nat.le_of_ble_eq_true rfl) ⟨Nat.le_of_ble_eq_true rfl, Nat.le_of_ble_eq_true rfl, Nat.le_of_ble_eq_true rfl, Nat.le_of_ble_eq_true rfl⟩ dX5_readOperands_266 (fun a55 μ54 => ?_)
                refine g_st (st' := [.ref (xa X 50 a55), .ref (xa X 9 n1)]) rfl ?_
                refine g_ckB (fun b56 => ?_)
                refine s_putM C (fpX5_263_9 _) g1 dX5_readOperands_269 ?_
                refine g_nmM (fun μ57 => ?_)
                refine s_aload_n C dX5_readOperands_272 rfl 1 rfl ?_
                refine s_aload_n C dX5_readOperands_273 rfl 0 rfl ?_
                refine s_getF C (fgX5_26_10 _) g0 dX5_readOperands_274 ?_
                refine s_sipush (v := (128 : Int32)) C dX5_readOperands_277 (by decide) ?_
                refine s_callV C R0 (kX11_takeOptional (xl X) 0 (by decide) (128 : Int32)) (Nat.le_trans (by decide) V) mmX11_takeOptional miX11_takeOptional q1181 (rc2 _) (by decide) rfl rfl rfl (Nat.le_of_ble_eq_true rfl) ⟨Nat.le_of_ble_eq_true rfl, Nat.le_of_ble_eq_true rfl, Nat.le_of_ble_eq_true rfl, Nat.le_of_ble_eq_true rfl⟩ dX5_readOperands_280 (fun a59 μ58 => ?_)
                refine g_st (st' := [.ref (xa X 50 a59), .ref (xa X 9 n1)]) rfl ?_
                refine g_ckB (fun b60 => ?_)
                refine s_putM C (fpX5_287_9 _) g1 dX5_readOperands_283 ?_
                refine g_nmM (fun μ61 => ?_)
                refine s_aload_n C dX5_readOperands_286 rfl 1 rfl ?_
                refine s_aload_n C dX5_readOperands_287 rfl 0 rfl ?_
                refine s_getF C (fgX5_26_10 _) g0 dX5_readOperands_288 ?_
                refine s_sipush (v := (256 : Int32)) C dX5_readOperands_291 (by decide) ?_
                refine s_callV C R0 (kX11_takeRole (xl X) 0 (by decide) (256 : Int32)) (Nat.le_trans (by decide) V) mmX11_takeRole miX11_takeRole q1106 (rc2 _) (by decide) rfl rfl rfl (Nat.le_of_ble_eq_true rfl) ⟨Nat.le_of_ble_eq_true rfl, Nat.le_of_ble_eq_true rfl, Nat.le_of_ble_eq_true rfl, Nat.le_of_ble_eq_true rfl⟩ dX5_readOperands_294 (fun a63 μ62 => ?_)
                refine g_st (st' := [.ref (xa X 50 a63), .ref (xa X 9 n1)]) rfl ?_
                refine g_ckB (fun b64 => ?_)
                refine s_putM C (fpX5_290_9 _) g1 dX5_readOperands_297 ?_
                refine g_nmM (fun μ65 => ?_)
                refine s_goto (tgt := 386) C dX5_readOperands_300 (by decide) ?_
                exact g_sub [] rfl (hj386 μ65)
              ·
                refine g_cases (v := (11 : Int32)) (fun c66 => ?_) (fun c66 => ?_)
                ·
                  refine s_lin (tgt := 303) C dX5_readOperands_11 c66 (by decide) rfl (by decide) ?_
                  refine s_aload_n C dX5_readOperands_303 rfl 1 rfl ?_
                  refine s_aload_n C dX5_readOperands_304 rfl 0 rfl ?_
                  refine s_getF C (fgX5_26_10 _) g0 dX5_readOperands_305 ?_
                  refine s_sipush (v := (512 : Int32)) C dX5_readOperands_308 (by decide) ?_
                  refine s_callV C R0 (kX11_takeRole (xl X) 0 (by decide) (512 : Int32)) (Nat.le_trans (by decide) V) mmX11_takeRole miX11_takeRole q1106 (rc2 _) (by decide) rfl rfl rfl (Nat.le_of_ble_eq_true rfl) ⟨Nat.le_of_ble_eq_true rfl, Nat.le_of_ble_eq_true rfl, Nat.le_of_ble_eq_true rfl, Nat.le_of_ble_eq_true rfl⟩ dX5_readOperands_311 (fun a68 μ67 => ?_)
                  refine g_st (st' := [.ref (xa X 50 a68), .ref (xa X 9 n1)]) rfl ?_
                  refine g_ckB (fun b69 => ?_)
                  refine s_putM C (fpX5_263_9 _) g1 dX5_readOperands_314 ?_
                  refine g_nmM (fun μ70 => ?_)
                  refine s_aload_n C dX5_readOperands_317 rfl 1 rfl ?_
                  refine s_aload_n C dX5_readOperands_318 rfl 0 rfl ?_
                  refine s_getF C (fgX5_26_10 _) g0 dX5_readOperands_319 ?_
                  refine s_iconst (v := (0 : Int32)) C dX5_readOperands_322 (by decide) ?_
                  refine s_bipush (v := (31 : Int32)) C dX5_readOperands_323 (by decide) ?_
                  refine s_callV C R0 (kX11_takeNumber (xl X) 0 (by decide) (0 : Int32) (31 : Int32)) (Nat.le_trans (by decide) V) mmX11_takeNumber miX11_takeNumber q1077 (rc2 _) (by decide) rfl rfl rfl (Nat.le_of_ble_eq_true rfl) ⟨Nat.le_of_ble_eq_true rfl, Nat.le_of_ble_eq_true rfl, Nat.le_of_ble_eq_true rfl, Nat.le_of_ble_eq_true rfl⟩ dX5_readOperands_325 (fun x72 μ71 => ?_)
                  refine g_st (st' := [.int x72, .ref (xa X 9 n1)]) rfl ?_
                  refine s_putI C (fpX5_266_9 _) g1 dX5_readOperands_328 ?_
                  refine g_nmM (fun μ73 => ?_)
                  refine s_goto (tgt := 386) C dX5_readOperands_331 (by decide) ?_
                  exact g_sub [] rfl (hj386 μ73)
                ·
                  refine g_cases (v := (40 : Int32)) (fun c74 => ?_) (fun c74 => ?_)
                  ·
                    refine s_lin (tgt := 334) C dX5_readOperands_11 c74 (by decide) rfl (by decide) ?_
                    refine s_aload_n C dX5_readOperands_334 rfl 1 rfl ?_
                    refine s_aload_n C dX5_readOperands_335 rfl 0 rfl ?_
                    refine s_getF C (fgX5_26_10 _) g0 dX5_readOperands_336 ?_
                    refine s_sipush (v := (1024 : Int32)) C dX5_readOperands_339 (by decide) ?_
                    refine s_callV C R0 (kX11_takeRole (xl X) 0 (by decide) (1024 : Int32)) (Nat.le_trans (by decide) V) mmX11_takeRole miX11_takeRole q1106 (rc2 _) (by decide) rfl rfl rfl (Nat.le_of_ble_eq_true rfl) ⟨Nat.le_of_ble_eq_true rfl, Nat.le_of_ble_eq_true rfl, Nat.le_of_ble_eq_true rfl, Nat.le_of_ble_eq_true rfl⟩ dX5_readOperands_342 (fun a76 μ75 => ?_)
                    refine g_st (st' := [.ref (xa X 50 a76), .ref (xa X 9 n1)]) rfl ?_
                    refine g_ckB (fun b77 => ?_)
                    refine s_putM C (fpX5_263_9 _) g1 dX5_readOperands_345 ?_
                    refine g_nmM (fun μ78 => ?_)
                    refine s_aload_n C dX5_readOperands_348 rfl 0 rfl ?_
                    refine s_aload_n C dX5_readOperands_349 rfl 1 rfl ?_
                    refine s_callV C R0 (kX5_readPlace (xl X) n0 g0 n1 g1) (Nat.le_trans (by decide) V) mmX5_readPlace miX5_readPlace q1198 (rc10 _) g0 rfl rfl rfl (Nat.le_of_ble_eq_true rfl) ⟨Nat.le_of_ble_eq_true rfl, Nat.le_of_ble_eq_true rfl, Nat.le_of_ble_eq_true rfl, Nat.le_of_ble_eq_true rfl⟩ dX5_readOperands_350 (fun _ μ79 => ?_)
                    refine g_st (st' := []) rfl ?_
                    refine s_goto (tgt := 386) C dX5_readOperands_353 (by decide) ?_
                    exact g_sub [] rfl (hj386 μ79)
                  ·
                    refine g_cases (v := (41 : Int32)) (fun c80 => ?_) (fun c80 => ?_)
                    ·
                      refine s_lin (tgt := 356) C dX5_readOperands_11 c80 (by decide) rfl (by decide) ?_
                      refine s_aload_n C dX5_readOperands_356 rfl 1 rfl ?_
                      refine s_aload_n C dX5_readOperands_357 rfl 0 rfl ?_
                      refine s_getF C (fgX5_26_10 _) g0 dX5_readOperands_358 ?_
                      refine s_sipush (v := (2048 : Int32)) C dX5_readOperands_361 (by decide) ?_
                      refine s_callV C R0 (kX11_takeRole (xl X) 0 (by decide) (2048 : Int32)) (Nat.le_trans (by decide) V) mmX11_takeRole miX11_takeRole q1106 (rc2 _) (by decide) rfl rfl rfl (Nat.le_of_ble_eq_true rfl) ⟨Nat.le_of_ble_eq_true rfl, Nat.le_of_ble_eq_true rfl, Nat.le_of_ble_eq_true rfl, Nat.le_of_ble_eq_true rfl⟩ dX5_readOperands_364 (fun a82 μ81 => ?_)
                      refine g_st (st' := [.ref (xa X 50 a82), .ref (xa X 9 n1)]) rfl ?_
                      refine g_ckB (fun b83 => ?_)
                      refine s_putM C (fpX5_263_9 _) g1 dX5_readOperands_367 ?_
                      refine g_nmM (fun μ84 => ?_)
                      refine s_aload_n C dX5_readOperands_370 rfl 0 rfl ?_
                      refine s_aload_n C dX5_readOperands_371 rfl 1 rfl ?_
                      refine s_callV C R0 (kX5_readPlace (xl X) n0 g0 n1 g1) (Nat.le_trans (by decide) V) mmX5_readPlace miX5_readPlace q1198 (rc10 _) g0 rfl rfl rfl (Nat.le_of_ble_eq_true rfl) ⟨Nat.le_of_ble_eq_true rfl, Nat.le_of_ble_eq_true rfl, Nat.le_of_ble_eq_true rfl, Nat.le_of_ble_eq_true rfl⟩ dX5_readOperands_372 (fun _ μ85 => ?_)
                      refine g_st (st' := []) rfl ?_
                      refine s_goto (tgt := 386) C dX5_readOperands_375 (by decide) ?_
                      exact g_sub [] rfl (hj386 μ85)
                    ·
                      refine s_lout (tgt := 378) C dX5_readOperands_11 (by decide) (fun q hq => by have := ine (i := 1) (by decide) c5; have := ine (i := 2) (by decide) c13; have := ine (i := 3) (by decide) c33; have := ine (i := 4) (by decide) c41; have := ine (i := 5) (by decide) c49; have := ine (i := 6) (by decide) c51; have := ine (i := 7) (by decide) c53; have := ine (i := 11) (by decide) c66; have := ine (i := 40) (by decide) c74; have := ine (i := 41) (by decide) c80; simp at hq; rcases hq with rfl | rfl | rfl | rfl | rfl | rfl | rfl | rfl | rfl | rfl <;> (dsimp only; omega)) (by decide) ?_
                      refine s_aload_n C dX5_readOperands_378 rfl 1 rfl ?_
                      refine s_aload_n C dX5_readOperands_379 rfl 0 rfl ?_
                      refine s_callV C R0 (kX5_takeFlag (xl X) n0 g0) (Nat.le_trans (by decide) V) mmX5_takeFlag miX5_takeFlag q1184 (rc10 _) g0 rfl rfl rfl (Nat.le_of_ble_eq_true rfl) ⟨Nat.le_of_ble_eq_true rfl, Nat.le_of_ble_eq_true rfl, Nat.le_of_ble_eq_true rfl, Nat.le_of_ble_eq_true rfl⟩ dX5_readOperands_380 (fun x87 μ86 => ?_)
                      refine g_st (st' := [.int x87, .ref (xa X 9 n1)]) rfl ?_
                      refine s_putI C (fpX5_266_9 _) g1 dX5_readOperands_383 ?_
                      refine g_nmM (fun μ88 => ?_)
                      exact g_sub [] rfl (hj386 μ88)
/-! PinEngines$QueryReader.readComparison()I -/
def fX6_readComparison (fu : Nat) (n0 : Nat) (μ : Mem) : Option (Int32 × Mem) :=
  jn (lp (fun _ _ _ _ => none) fu (fun j30 (μ1 : Mem) (a2 : Nat) (x4 : Int32) (x5 : Int32) =>
    if (4 : Int32) ≤ x5 then (
      some (x4, μ1)
    ) else (
      jn (fun (μ7 : Mem) (x8 : Int32) (x9 : Int32) =>
        nm (x9 + (1 : Int32)) fun x10 =>
        j30 μ7 a2 x8 x10
      ) fun j60 =>
      ckI x5 (4) <|
      ckI x5 (4) <|
      bnd (fX6_compares (μ1.1 24 0 x5.toNatClampNeg) a2 (μ1.1 24 1 x5.toNatClampNeg) μ1) fun x12 μ11 =>
      if x12 = 0 then (
        j60 μ11 x4 x5
      ) else (
        nm ((x4 ||| ((1 : Int32) <<< (x5 &&& 31)))) fun x14 =>
        j60 μ11 x14 x5
      )
    )
  )) fun j30 =>
  bnd (fX6_readValue fu n0 0 μ) fun _ μ15 =>
  bnd (fX11_takeRole 0 (32768 : Int32) μ15) fun a17 μ16 =>
  ckB a17 74 <|
  bnd (fX6_readValue fu n0 1 μ16) fun _ μ19 =>
  j30 μ19 a17 (0 : Int32) (0 : Int32)
set_option maxHeartbeats 4000000 in
set_option maxRecDepth 100000 in
theorem kX6_readComparison (l : Launch) (fu : Nat) (n0 : Nat) (g0 : n0 < 1) : Kon 0 l yX6_readComparison cX6_readComparison 4 (some .int) 3 71 0 0 (fun ad => [.ref (ad 23 n0)]) rvI (fun μ => fX6_readComparison fu n0 μ) := by
  refine kon_of (by decide) (fun _ => Nat.le_of_ble_eq_true rfl) (fun X r0 μ hXl hXn V C E => ?_)
  have hN : ∀ i : Nat, i < 4 → i < xn X := fun i h => hXn.symm ▸ h
  have R0 := fen_rm E
  show G X r0 0 0 μ 0 [(0, .ref (xa X 23 n0))] [] (fX6_readComparison fu n0 μ)
  unfold fX6_readComparison
  refine g_jl (P := fun j30 => ∀ (μ1 : Mem) (a2 : Nat) (x4 : Int32) (x5 : Int32), a2 < 74 → G X r0 0 0 μ1 30 [(0, .ref (xa X 23 n0)), (1, .ref (xa X 50 a2)), (2, .int x4), (3, .int x5)] [] (j30 μ1 a2 x4 x5)) (fun _ _ _ _ _ => g_none) (fun j30 hj30 => ?_) (fun j30 hj30 => ?_)
  · intro μ1 a2 x4 x5 b3
    refine s_iload_n C dX6_readComparison_30 rfl 3 rfl ?_
    refine s_iconst (v := (4 : Int32)) C dX6_readComparison_31 (by decide) ?_
    refine s_icmp_ge (tgt := 66) C dX6_readComparison_32 (by decide) (fun c6 => ?_) (fun c6 => ?_)
    ·
      refine s_iload_n C dX6_readComparison_66 rfl 2 rfl ?_
      exact s_iret C E dX6_readComparison_67
    ·
      refine g_jn (P := fun j60 => ∀ (μ7 : Mem) (x8 : Int32) (x9 : Int32), G X r0 0 0 μ7 60 [(0, .ref (xa X 23 n0)), (1, .ref (xa X 50 a2)), (2, .int x8), (3, .int x9)] [] (j60 μ7 x8 x9)) ?_ (fun j60 hj60 => ?_)
      · intro μ7 x8 x9
        refine g_nmQ (fun x10 ex10 => ?_)
        refine s_iinc (v := x10) (j := 3) (L' := [(3, .int x10), (0, .ref (xa X 23 n0)), (1, .ref (xa X 50 a2)), (2, .int x8)]) C dX6_readComparison_60 rfl (by rw [ex10]; rfl) (hN 3 (by decide)) rfl ?_
        refine s_goto (tgt := 30) C dX6_readComparison_63 (by decide) ?_
        exact g_sub [1, 2, 3, 0] rfl (hj30 μ7 a2 x8 x10 b3)
      refine s_aload_n C dX6_readComparison_35 rfl 0 rfl ?_
      refine s_getF C (fgX6_9_23 _) g0 dX6_readComparison_36 ?_
      refine s_iload_n C dX6_readComparison_39 rfl 3 rfl ?_
      refine s_iald C (ag24 _) (by decide) dX6_readComparison_40 ?_
      refine s_aload_n C dX6_readComparison_41 rfl 1 rfl ?_
      refine s_aload_n C dX6_readComparison_42 rfl 0 rfl ?_
      refine s_getF C (fgX6_15_23 _) g0 dX6_readComparison_43 ?_
      refine s_iload_n C dX6_readComparison_46 rfl 3 rfl ?_
      refine s_iald C (ag24 _) (by decide) dX6_readComparison_47 ?_
      refine s_callS C R0 (kX6_compares (xl X) (μ1.1 24 0 x5.toNatClampNeg) a2 b3 (μ1.1 24 1 x5.toNatClampNeg)) (Nat.le_trans (by decide) V) mmX6_compares q1983 q1982 rfl rfl rfl rfl (Nat.le_of_ble_eq_true rfl) ⟨Nat.le_of_ble_eq_true rfl, Nat.le_of_ble_eq_true rfl, Nat.le_of_ble_eq_true rfl, Nat.le_of_ble_eq_true rfl⟩ dX6_readComparison_48 (fun x12 μ11 => ?_)
      refine g_st (st' := [.int x12]) rfl ?_
      refine s_if_eq (tgt := 60) C dX6_readComparison_51 (by decide) (fun c13 => ?_) (fun c13 => ?_)
      ·
        exact g_sub [0, 1, 2, 3] rfl (hj60 μ11 x4 x5)
      ·
        refine s_iload_n C dX6_readComparison_54 rfl 2 rfl ?_
        refine s_iconst (v := (1 : Int32)) C dX6_readComparison_55 (by decide) ?_
        refine s_iload_n C dX6_readComparison_56 rfl 3 rfl ?_
        refine s_ishl C dX6_readComparison_57 ?_
        refine s_ior C dX6_readComparison_58 ?_
        refine g_nmI (fun x14 => ?_)
        refine s_istore_n (L' := [(2, .int x14), (0, .ref (xa X 23 n0)), (1, .ref (xa X 50 a2)), (3, .int x5)]) C dX6_readComparison_59 rfl (hN 2 (by decide)) rfl ?_
        exact g_sub [1, 2, 0, 3] rfl (hj60 μ11 x14 x5)
  refine s_aload_n C dX6_readComparison_0 rfl 0 rfl ?_
  refine s_aload_n C dX6_readComparison_1 rfl 0 rfl ?_
  refine s_getF C (fgX6_9_23 _) g0 dX6_readComparison_2 ?_
  refine s_callV C R0 (kX6_readValue (xl X) fu n0 g0 0 (by decide)) (Nat.le_trans (by decide) V) mmX6_readValue miX6_readValue q1966 (rc23 _) g0 rfl rfl rfl (Nat.le_of_ble_eq_true rfl) ⟨Nat.le_of_ble_eq_true rfl, Nat.le_of_ble_eq_true rfl, Nat.le_of_ble_eq_true rfl, Nat.le_of_ble_eq_true rfl⟩ dX6_readComparison_5 (fun _ μ15 => ?_)
  refine g_st (st' := []) rfl ?_
  refine s_aload_n C dX6_readComparison_8 rfl 0 rfl ?_
  refine s_getF C (fgX6_18_23 _) g0 dX6_readComparison_9 ?_
  refine s_ldc (v := (32768 : Int32)) C q1980 dX6_readComparison_12 ?_
  refine s_callV C R0 (kX11_takeRole (xl X) 0 (by decide) (32768 : Int32)) (Nat.le_trans (by decide) V) mmX11_takeRole miX11_takeRole q1981 (rc2 _) (by decide) rfl rfl rfl (Nat.le_of_ble_eq_true rfl) ⟨Nat.le_of_ble_eq_true rfl, Nat.le_of_ble_eq_true rfl, Nat.le_of_ble_eq_true rfl, Nat.le_of_ble_eq_true rfl⟩ dX6_readComparison_14 (fun a17 μ16 => ?_)
  refine g_st (st' := [.ref (xa X 50 a17)]) rfl ?_
  refine g_ckB (fun b18 => ?_)
  refine s_astore_n (L' := [(1, .ref (xa X 50 a17)), (0, .ref (xa X 23 n0))]) C dX6_readComparison_17 rfl (hN 1 (by decide)) rfl ?_
  refine s_aload_n C dX6_readComparison_18 rfl 1 rfl ?_
  refine s_aload_n C dX6_readComparison_19 rfl 1 rfl ?_
  refine s_getF C (fgX6_15_23 _) g0 dX6_readComparison_20 ?_
  refine s_callV C R0 (kX6_readValue (xl X) fu n0 g0 1 (by decide)) (Nat.le_trans (by decide) V) mmX6_readValue miX6_readValue q1966 (rc23 _) g0 rfl rfl rfl (Nat.le_of_ble_eq_true rfl) ⟨Nat.le_of_ble_eq_true rfl, Nat.le_of_ble_eq_true rfl, Nat.le_of_ble_eq_true rfl, Nat.le_of_ble_eq_true rfl⟩ dX6_readComparison_23 (fun _ μ19 => ?_)
  refine g_st (st' := []) rfl ?_
  refine s_iconst (v := (0 : Int32)) C dX6_readComparison_26 (by decide) ?_
  refine s_istore_n (L' := [(2, .int (0 : Int32)), (1, .ref (xa X 50 a17)), (0, .ref (xa X 23 n0))]) C dX6_readComparison_27 rfl (hN 2 (by decide)) rfl ?_
  refine s_iconst (v := (0 : Int32)) C dX6_readComparison_28 (by decide) ?_
  refine s_istore_n (L' := [(3, .int (0 : Int32)), (2, .int (0 : Int32)), (1, .ref (xa X 50 a17)), (0, .ref (xa X 23 n0))]) C dX6_readComparison_29 rfl (hN 3 (by decide)) rfl ?_
  exact g_sub [3, 2, 1, 0] rfl (hj30 μ19 a17 (0 : Int32) (0 : Int32) b18)
/-! PinEngines$Simulator.moved(LPinEngines$Instruction;LPinEngines$Engine;LPinEngines$Setup;)I -/
def fX9_moved (n0 : Nat) (n1 : Nat) (n2 : Nat) (n3 : Nat) (μ : Mem) : Option (Int32 × Mem) :=
  nm (μ.2.1 9 n1 4) fun a1 =>
  ckB a1 74 <|
  bnd (fX9_sourceWord n0 a1 n2 n3 μ) fun x4 μ3 =>
  nm (μ3.2.1 9 n1 3) fun a5 =>
  ckB a5 74 <|
  if ¬ a5 = 63 then (
    jn (fun (μ8 : Mem) (x9 : Int32) =>
      some (x9, μ8)
    ) fun j47 =>
    nm (μ3.2.1 9 n1 3) fun a10 =>
    ckB a10 74 <|
    if ¬ a10 = 64 then (
      j47 μ3 x4
    ) else (
      bnd (fJ6_reverse_0f7a4 x4 μ3) fun x14 μ13 =>
      j47 μ13 x14
    )
  ) else (
    some ((x4 ^^^ (-1 : Int32)), μ3)
  )
set_option maxHeartbeats 4000000 in
set_option maxRecDepth 100000 in
theorem kX9_moved (l : Launch) (n0 : Nat) (g0 : n0 < 1) (n1 : Nat) (g1 : n1 < 66) (n2 : Nat) (g2 : n2 < 52) (n3 : Nat) (g3 : n3 < 8) : Kon 0 l yX9_moved cX9_moved 5 (some .int) 2 45 0 0 (fun ad => [.ref (ad 22 n0), .ref (ad 9 n1), .ref (ad 18 n2), .ref (ad 8 n3)]) rvI (fun μ => fX9_moved n0 n1 n2 n3 μ) := by
  refine kon_of (by decide) (fun _ => Nat.le_of_ble_eq_true rfl) (fun X r0 μ hXl hXn V C E => ?_)
  have hN : ∀ i : Nat, i < 5 → i < xn X := fun i h => hXn.symm ▸ h
  have R0 := fen_rm E
  show G X r0 0 0 μ 0 [(0, .ref (xa X 22 n0)), (1, .ref (xa X 9 n1)), (2, .ref (xa X 18 n2)), (3, .ref (xa X 8 n3))] [] (fX9_moved n0 n1 n2 n3 μ)
  unfold fX9_moved
  refine s_aload_n C dX9_moved_0 rfl 0 rfl ?_
  refine s_aload_n C dX9_moved_1 rfl 1 rfl ?_
  refine s_getM C (fgX9_282_9 _) g1 dX9_moved_2 ?_
  refine g_nmA (fun a1 => ?_)
  refine g_ckB (fun b2 => ?_)
  refine s_aload_n C dX9_moved_5 rfl 2 rfl ?_
  refine s_aload_n C dX9_moved_6 rfl 3 rfl ?_
  refine s_callV C R0 (kX9_sourceWord (xl X) n0 g0 a1 b2 n2 g2 n3 g3) (Nat.le_trans (by decide) V) mmX9_sourceWord miX9_sourceWord q1556 (rc22 _) g0 rfl rfl rfl (Nat.le_of_ble_eq_true rfl) ⟨Nat.le_of_ble_eq_true rfl, Nat.le_of_ble_eq_true rfl, Nat.le_of_ble_eq_true rfl, Nat.le_of_ble_eq_true rfl⟩ dX9_moved_7 (fun x4 μ3 => ?_)
  refine g_st (st' := [.int x4]) rfl ?_
  refine s_istore (L' := [(4, .int x4), (0, .ref (xa X 22 n0)), (1, .ref (xa X 9 n1)), (2, .ref (xa X 18 n2)), (3, .ref (xa X 8 n3))]) C dX9_moved_10 (hN 4 (by decide)) rfl ?_
  refine s_aload_n C dX9_moved_12 rfl 2 rfl ?_
  refine s_getM C (fgX9_329_9 _) g1 dX9_moved_13 ?_
  refine g_nmA (fun a5 => ?_)
  refine g_ckB (fun b6 => ?_)
  refine s_gsym (i := 63) C (by decide) rfl q1617 dX9_moved_16 ?_
  refine s_acmp_ne (tgt := 27) C b6 (by decide) dX9_moved_19 (by decide) (fun c7 => ?_) (fun c7 => ?_)
  ·
    refine g_jn (P := fun j47 => ∀ (μ8 : Mem) (x9 : Int32), G X r0 0 0 μ8 47 [] [.int x9] (j47 μ8 x9)) ?_ (fun j47 hj47 => ?_)
    · intro μ8 x9
      exact s_iret C E dX9_moved_47
    refine s_aload_n C dX9_moved_27 rfl 2 rfl ?_
    refine s_getM C (fgX9_329_9 _) g1 dX9_moved_28 ?_
    refine g_nmA (fun a10 => ?_)
    refine g_ckB (fun b11 => ?_)
    refine s_gsym (i := 64) C (by decide) rfl q1619 dX9_moved_31 ?_
    refine s_acmp_ne (tgt := 45) C b11 (by decide) dX9_moved_34 (by decide) (fun c12 => ?_) (fun c12 => ?_)
    ·
      refine s_iload C dX9_moved_45 0 rfl ?_
      exact g_sub [] rfl (hj47 μ3 x4)
    ·
      refine s_iload C dX9_moved_37 0 rfl ?_
      refine s_callF C R0 (kJ6_reverse_0f7a4 (xl X) x4) (Nat.le_trans (by decide) V) mmJ6_reverse_0f7a4 q1622 q1621 rfl rfl rfl (Nat.le_of_ble_eq_true rfl) ⟨Nat.le_of_ble_eq_true rfl, Nat.le_of_ble_eq_true rfl, Nat.le_of_ble_eq_true rfl, Nat.le_of_ble_eq_true rfl⟩ dX9_moved_39 (fun x14 μ13 => ?_)
      refine g_st (st' := [.int x14]) rfl ?_
      refine s_goto (tgt := 47) C dX9_moved_42 (by decide) ?_
      exact g_sub [] rfl (hj47 μ13 x14)
  ·
    refine s_iload C dX9_moved_22 0 rfl ?_
    refine s_iconst (v := (-1 : Int32)) C dX9_moved_24 (by decide) ?_
    refine s_ixor C dX9_moved_25 ?_
    exact s_iret C E dX9_moved_26
/-! PinEngines$Tokens.scan(I)V -/
def fX11_scan (fu : Nat) (n0 : Nat) (p1 : Int32) (μ : Mem) : Option (Unit × Mem) :=
  jn (lp (fun _ _ _ _ => none) fu (fun j36 (μ1 : Mem) (x2 : Int32) (x3 : Int32) (x4 : Int32) =>
    if x2 ≤ x4 then (
      ckI (μ1.1 2 n0 5) (1001) <|
      nm (wR μ1 3 0 (μ1.1 2 n0 5).toNatClampNeg 1) fun μ6 =>
      ckI (μ6.1 2 n0 5) (1001) <|
      nm (wI μ6 4 0 (μ6.1 2 n0 5).toNatClampNeg x2) fun μ7 =>
      ckI (μ7.1 2 n0 5) (1001) <|
      nm (wI μ7 4 1 (μ7.1 2 n0 5).toNatClampNeg x2) fun μ8 =>
      bnd (fX11_rewind n0 μ8) fun _ μ9 =>
      some ((), μ9)
    ) else (
      jn (fun (μ10 : Mem) (x11 : Int32) (x12 : Int32) =>
        nm (x12 + (1 : Int32)) fun x13 =>
        j36 μ10 x2 x11 x13
      ) fun j80 =>
      if x4 < x3 then (
        j80 μ1 x3 x4
      ) else (
        ckI x4 (1000) <|
        if (μ1.1 1 0 x4.toNatClampNeg) = (32 : Int32) then (
          j80 μ1 x3 x4
        ) else (
          ckI x4 (1000) <|
          if (μ1.1 1 0 x4.toNatClampNeg) = (10 : Int32) then (
            j80 μ1 x3 x4
          ) else (
            bnd (fX11_scanToken fu n0 x4 x2 μ1) fun x18 μ17 =>
            j80 μ17 x18 x4
          )
        )
      )
    )
  )) fun j36 =>
  nm ((if (if (1000 : Int32) < (Int32.ofNat (1000)) then (1000 : Int32) else (Int32.ofNat (1000))) < p1 then (if (1000 : Int32) < (Int32.ofNat (1000)) then (1000 : Int32) else (Int32.ofNat (1000))) else p1)) fun x19 =>
  nm (wI μ 2 n0 5 (0 : Int32)) fun μ20 =>
  nm (wI μ20 2 n0 7 (0 : Int32)) fun μ21 =>
  nm (wI μ21 2 n0 8 (-1 : Int32)) fun μ22 =>
  j36 μ22 x19 (0 : Int32) (0 : Int32)
set_option maxHeartbeats 4000000 in
set_option maxRecDepth 100000 in
theorem kX11_scan (l : Launch) (fu : Nat) (n0 : Nat) (g0 : n0 < 1) (p1 : Int32) : Kon 0 l yX11_scan cX11_scan 5 (none) 7 158 0 0 (fun ad => [.ref (ad 2 n0), .int p1]) rvV (fun μ => fX11_scan fu n0 p1 μ) := by
  refine kon_of (by decide) (fun _ => Nat.le_of_ble_eq_true rfl) (fun X r0 μ hXl hXn V C E => ?_)
  have hN : ∀ i : Nat, i < 5 → i < xn X := fun i h => hXn.symm ▸ h
  have R0 := fen_rm E
  show G X r0 0 0 μ 0 [(0, .ref (xa X 2 n0)), (1, .int p1)] [] (fX11_scan fu n0 p1 μ)
  unfold fX11_scan
  refine g_jl (P := fun j36 => ∀ (μ1 : Mem) (x2 : Int32) (x3 : Int32) (x4 : Int32), G X r0 0 0 μ1 36 [(0, .ref (xa X 2 n0)), (2, .int x2), (3, .int x3), (4, .int x4)] [] (j36 μ1 x2 x3 x4)) (fun _ _ _ _ => g_none) (fun j36 hj36 => ?_) (fun j36 hj36 => ?_)
  · intro μ1 x2 x3 x4
    refine s_iload C dX11_scan_36 3 rfl ?_
    refine s_iload_n C dX11_scan_38 rfl 1 rfl ?_
    refine s_icmp_ge (tgt := 86) C dX11_scan_39 (by decide) (fun c5 => ?_) (fun c5 => ?_)
    ·
      refine s_aload_n C dX11_scan_86 rfl 0 rfl ?_
      refine s_getF C (fgX11_11_2 _) g0 dX11_scan_87 ?_
      refine s_aload_n C dX11_scan_90 rfl 0 rfl ?_
      refine s_getI C (fgX11_27_2 _) g0 dX11_scan_91 ?_
      refine s_gsym (i := 1) C (by decide) rfl q203 dX11_scan_94 ?_
      refine s_symst C (ag3 _) (by decide) (by decide) dX11_scan_97 ?_
      refine g_nmM (fun μ6 => ?_)
      refine s_aload_n C dX11_scan_98 rfl 0 rfl ?_
      refine s_getF C (fgX11_17_2 _) g0 dX11_scan_99 ?_
      refine s_aload_n C dX11_scan_102 rfl 0 rfl ?_
      refine s_getI C (fgX11_27_2 _) g0 dX11_scan_103 ?_
      refine s_iload_n C dX11_scan_106 rfl 1 rfl ?_
      refine s_iast C (ag4 _) (by decide) dX11_scan_107 ?_
      refine g_nmM (fun μ7 => ?_)
      refine s_aload_n C dX11_scan_108 rfl 0 rfl ?_
      refine s_getF C (fgX11_21_2 _) g0 dX11_scan_109 ?_
      refine s_aload_n C dX11_scan_112 rfl 0 rfl ?_
      refine s_getI C (fgX11_27_2 _) g0 dX11_scan_113 ?_
      refine s_iload_n C dX11_scan_116 rfl 1 rfl ?_
      refine s_iast C (ag4 _) (by decide) dX11_scan_117 ?_
      refine g_nmM (fun μ8 => ?_)
      refine s_aload_n C dX11_scan_118 rfl 0 rfl ?_
      refine s_callV C R0 (kX11_rewind (xl X) n0 g0) (Nat.le_trans (by decide) V) mmX11_rewind miX11_rewind q1027 (rc2 _) g0 rfl rfl rfl (Nat.le_of_ble_eq_true rfl) ⟨Nat.le_of_ble_eq_true rfl, Nat.le_of_ble_eq_true rfl, Nat.le_of_ble_eq_true rfl, Nat.le_of_ble_eq_true rfl⟩ dX11_scan_119 (fun _ μ9 => ?_)
      refine g_st (st' := []) rfl ?_
      exact s_vret C E dX11_scan_122
    ·
      refine g_jn (P := fun j80 => ∀ (μ10 : Mem) (x11 : Int32) (x12 : Int32), G X r0 0 0 μ10 80 [(0, .ref (xa X 2 n0)), (2, .int x2), (3, .int x11), (4, .int x12)] [] (j80 μ10 x11 x12)) ?_ (fun j80 hj80 => ?_)
      · intro μ10 x11 x12
        refine g_nmQ (fun x13 ex13 => ?_)
        refine s_iinc (v := x13) (j := 3) (L' := [(4, .int x13), (0, .ref (xa X 2 n0)), (2, .int x2), (3, .int x11)]) C dX11_scan_80 rfl (by rw [ex13]; rfl) (hN 4 (by decide)) rfl ?_
        refine s_goto (tgt := 36) C dX11_scan_83 (by decide) ?_
        exact g_sub [1, 2, 3, 0] rfl (hj36 μ10 x2 x11 x13)
      refine s_iload C dX11_scan_42 3 rfl ?_
      refine s_iload_n C dX11_scan_44 rfl 2 rfl ?_
      refine s_icmp_lt (tgt := 80) C dX11_scan_45 (by decide) (fun c14 => ?_) (fun c14 => ?_)
      ·
        exact g_sub [0, 1, 2, 3] rfl (hj80 μ1 x3 x4)
      ·
        refine s_aload_n C dX11_scan_48 rfl 0 rfl ?_
        refine s_getF C (fgX11_40_2 _) g0 dX11_scan_49 ?_
        refine s_iload C dX11_scan_52 3 rfl ?_
        refine s_bald C (ag1 _) (by decide) dX11_scan_54 ?_
        refine s_bipush (v := (32 : Int32)) C dX11_scan_55 (by decide) ?_
        refine s_icmp_eq (tgt := 80) C dX11_scan_57 (by decide) (fun c15 => ?_) (fun c15 => ?_)
        ·
          exact g_sub [0, 1, 2, 3] rfl (hj80 μ1 x3 x4)
        ·
          refine s_aload_n C dX11_scan_60 rfl 0 rfl ?_
          refine s_getF C (fgX11_40_2 _) g0 dX11_scan_61 ?_
          refine s_iload C dX11_scan_64 3 rfl ?_
          refine s_bald C (ag1 _) (by decide) dX11_scan_66 ?_
          refine s_bipush (v := (10 : Int32)) C dX11_scan_67 (by decide) ?_
          refine s_icmp_eq (tgt := 80) C dX11_scan_69 (by decide) (fun c16 => ?_) (fun c16 => ?_)
          ·
            exact g_sub [0, 1, 2, 3] rfl (hj80 μ1 x3 x4)
          ·
            refine s_aload_n C dX11_scan_72 rfl 0 rfl ?_
            refine s_iload C dX11_scan_73 3 rfl ?_
            refine s_iload_n C dX11_scan_75 rfl 1 rfl ?_
            refine s_callV C R0 (kX11_scanToken (xl X) fu n0 g0 x4 x2) (Nat.le_trans (by decide) V) mmX11_scanToken miX11_scanToken q971 (rc2 _) g0 rfl rfl rfl (Nat.le_of_ble_eq_true rfl) ⟨Nat.le_of_ble_eq_true rfl, Nat.le_of_ble_eq_true rfl, Nat.le_of_ble_eq_true rfl, Nat.le_of_ble_eq_true rfl⟩ dX11_scan_76 (fun x18 μ17 => ?_)
            refine g_st (st' := [.int x18]) rfl ?_
            refine s_istore_n (L' := [(3, .int x18), (0, .ref (xa X 2 n0)), (2, .int x2), (4, .int x4)]) C dX11_scan_79 rfl (hN 3 (by decide)) rfl ?_
            exact g_sub [1, 2, 0, 3] rfl (hj80 μ17 x18 x4)
  refine s_iload_n C dX11_scan_0 rfl 1 rfl ?_
  refine s_aload_n C dX11_scan_1 rfl 0 rfl ?_
  refine s_getF C (fgX11_40_2 _) g0 dX11_scan_2 ?_
  refine s_alen C (ag1 _) (fun _ => rfl) (by decide) dX11_scan_5 ?_
  refine s_sipush (v := (1000 : Int32)) C dX11_scan_6 (by decide) ?_
  refine s_mmin C R0 q970 q726 q172 q727 ⟨Nat.le_of_ble_eq_true rfl, Nat.le_of_ble_eq_true rfl, Nat.le_of_ble_eq_true rfl, Nat.le_of_ble_eq_true rfl⟩ dX11_scan_9 ?_
  refine s_mmin C R0 q970 q726 q172 q727 ⟨Nat.le_of_ble_eq_true rfl, Nat.le_of_ble_eq_true rfl, Nat.le_of_ble_eq_true rfl, Nat.le_of_ble_eq_true rfl⟩ dX11_scan_12 ?_
  refine g_nmI (fun x19 => ?_)
  refine s_istore_n (L' := [(2, .int x19), (0, .ref (xa X 2 n0)), (1, .int p1)]) C dX11_scan_15 rfl (hN 2 (by decide)) rfl ?_
  refine s_aload_n C dX11_scan_16 rfl 1 rfl ?_
  refine s_iconst (v := (0 : Int32)) C dX11_scan_17 (by decide) ?_
  refine s_putI C (fpX11_27_2 _) g0 dX11_scan_18 ?_
  refine g_nmM (fun μ20 => ?_)
  refine s_aload_n C dX11_scan_21 rfl 1 rfl ?_
  refine s_iconst (v := (0 : Int32)) C dX11_scan_22 (by decide) ?_
  refine s_putI C (fpX11_34_2 _) g0 dX11_scan_23 ?_
  refine g_nmM (fun μ21 => ?_)
  refine s_aload_n C dX11_scan_26 rfl 1 rfl ?_
  refine s_iconst (v := (-1 : Int32)) C dX11_scan_27 (by decide) ?_
  refine s_putI C (fpX11_37_2 _) g0 dX11_scan_28 ?_
  refine g_nmM (fun μ22 => ?_)
  refine s_iconst (v := (0 : Int32)) C dX11_scan_31 (by decide) ?_
  refine s_istore_n (L' := [(3, .int (0 : Int32)), (2, .int x19), (0, .ref (xa X 2 n0)), (1, .int p1)]) C dX11_scan_32 rfl (hN 3 (by decide)) rfl ?_
  refine s_iconst (v := (0 : Int32)) C dX11_scan_33 (by decide) ?_
  refine s_istore (L' := [(4, .int (0 : Int32)), (3, .int (0 : Int32)), (2, .int x19), (0, .ref (xa X 2 n0)), (1, .int p1)]) C dX11_scan_34 (hN 4 (by decide)) rfl ?_
  exact g_sub [3, 2, 1, 0] rfl (hj36 μ22 x19 (0 : Int32) (0 : Int32))
/-! PinEngines.put(II)I -/
def fX12_put (fu : Nat) (n0 : Nat) (p1 : Int32) (p2 : Int32) (μ : Mem) : Option (RX Int32) :=
  bndX (fX12_existingQueue n0 p1 (0 : Int32) μ) fun a2 μ1 =>
  ckB a2 104 <|
  bnd (fX7_isFull a2 μ1) fun x5 μ4 =>
  if x5 = 0 then (
    bnd (fX12_remember fu n0 μ4) fun _ μ7 =>
    bnd (fX7_append a2 p2 μ7) fun _ μ8 =>
    some (.inr (μ8.1 19 a2 0), μ8)
  ) else (
    some (.inr (-2 : Int32), μ4)
  )
set_option maxHeartbeats 4000000 in
set_option maxRecDepth 100000 in
theorem kX12_put (l : Launch) (hls : l.stackTraces = false) (fu : Nat) (n0 : Nat) (g0 : n0 < 1) (p1 : Int32) (p2 : Int32) : KonX 0 l yX12_put cX12_put 4 (some .int) 8 133 1 6 (fun ad => [.ref (ad 0 n0), .int p1, .int p2]) rvI (fun μ => fX12_put fu n0 p1 p2 μ) := by
  refine konX_of (by decide) (fun _ => Nat.le_of_ble_eq_true rfl) (fun X r0 μ hXl hXn V C E => ?_)
  have hN : ∀ i : Nat, i < 4 → i < xn X := fun i h => hXn.symm ▸ h
  have R0 := fex_rm E
  have hT : (xl X).stackTraces = false := hXl.symm ▸ hls
  show G X r0 0 0 μ 0 [(0, .ref (xa X 0 n0)), (1, .int p1), (2, .int p2)] [] (fX12_put fu n0 p1 p2 μ)
  unfold fX12_put
  refine s_aload_n C dX12_put_0 rfl 0 rfl ?_
  refine s_iload_n C dX12_put_1 rfl 1 rfl ?_
  refine s_iconst (v := (0 : Int32)) C dX12_put_2 (by decide) ?_
  refine s_callVX C E (kX12_existingQueue (xl X) hT n0 g0 p1 (0 : Int32)) (Nat.le_trans (by decide) V) mmX12_existingQueue miX12_existingQueue q1328 (rc0 _) g0 rfl rfl rfl (Nat.le_of_ble_eq_true rfl) ⟨Nat.le_of_ble_eq_true rfl, Nat.le_of_ble_eq_true rfl, Nat.le_of_ble_eq_true rfl, Nat.le_of_ble_eq_true rfl⟩ dX12_put_3 (fun a2 μ1 => ?_)
  refine g_st (st' := [.ref (xa X 19 a2)]) rfl ?_
  refine g_ckB (fun b3 => ?_)
  refine s_astore_n (L' := [(3, .ref (xa X 19 a2)), (0, .ref (xa X 0 n0)), (1, .int p1), (2, .int p2)]) C dX12_put_6 rfl (hN 3 (by decide)) rfl ?_
  refine s_aload_n C dX12_put_7 rfl 0 rfl ?_
  refine s_callV C R0 (kX7_isFull (xl X) a2 b3) (Nat.le_trans (by decide) V) mmX7_isFull miX7_isFull q1391 (rc19 _) b3 rfl rfl rfl (Nat.le_of_ble_eq_true rfl) ⟨Nat.le_of_ble_eq_true rfl, Nat.le_of_ble_eq_true rfl, Nat.le_of_ble_eq_true rfl, Nat.le_of_ble_eq_true rfl⟩ dX12_put_8 (fun x5 μ4 => ?_)
  refine g_st (st' := [.int x5]) rfl ?_
  refine s_if_eq (tgt := 17) C dX12_put_11 (by decide) (fun c6 => ?_) (fun c6 => ?_)
  ·
    refine s_aload_n C dX12_put_17 rfl 1 rfl ?_
    refine s_callV C R0 (kX12_remember (xl X) fu n0 g0) (Nat.le_trans (by decide) V) mmX12_remember miX12_remember q1395 (rc0 _) g0 rfl rfl rfl (Nat.le_of_ble_eq_true rfl) ⟨Nat.le_of_ble_eq_true rfl, Nat.le_of_ble_eq_true rfl, Nat.le_of_ble_eq_true rfl, Nat.le_of_ble_eq_true rfl⟩ dX12_put_18 (fun _ μ7 => ?_)
    refine g_st (st' := []) rfl ?_
    refine s_aload_n C dX12_put_21 rfl 0 rfl ?_
    refine s_iload_n C dX12_put_22 rfl 3 rfl ?_
    refine s_callV C R0 (kX7_append (xl X) a2 b3 p2) (Nat.le_trans (by decide) V) mmX7_append miX7_append q1400 (rc19 _) b3 rfl rfl rfl (Nat.le_of_ble_eq_true rfl) ⟨Nat.le_of_ble_eq_true rfl, Nat.le_of_ble_eq_true rfl, Nat.le_of_ble_eq_true rfl, Nat.le_of_ble_eq_true rfl⟩ dX12_put_23 (fun _ μ8 => ?_)
    refine g_st (st' := []) rfl ?_
    refine s_aload_n C dX12_put_26 rfl 0 rfl ?_
    refine s_getI C (fgX12_202_19 _) b3 dX12_put_27 ?_
    exact s_iretX C E ⟨by decide, by decide⟩ dX12_put_30
  ·
    refine s_bipush (v := (-2 : Int32)) C dX12_put_14 (by decide) ?_
    exact s_iretX C E ⟨by decide, by decide⟩ dX12_put_16
/-! PinEngines.take(I)J -/
def fX12_take (fu : Nat) (n0 : Nat) (p1 : Int32) (μ : Mem) : Option (RX Int64) :=
  bndX (fX12_existingQueue n0 p1 (1 : Int32) μ) fun a2 μ1 =>
  ckB a2 104 <|
  if ¬ (μ1.1 19 a2 0) = 0 then (
    bnd (fX12_remember fu n0 μ1) fun _ μ5 =>
    bnd (fX7_removeFirst a2 μ5) fun x7 μ6 =>
    bnd (fX12_unsigned x7 μ6) fun y9 μ8 =>
    some (.inr y9, μ8)
  ) else (
    some (.inr (-2 : Int64), μ1)
  )
set_option maxHeartbeats 4000000 in
set_option maxRecDepth 100000 in
theorem kX12_take (l : Launch) (hls : l.stackTraces = false) (fu : Nat) (n0 : Nat) (g0 : n0 < 1) (p1 : Int32) : KonX 0 l yX12_take cX12_take 3 (some .long) 8 133 1 6 (fun ad => [.ref (ad 0 n0), .int p1]) rvJ (fun μ => fX12_take fu n0 p1 μ) := by
  refine konX_of (by decide) (fun _ => Nat.le_of_ble_eq_true rfl) (fun X r0 μ hXl hXn V C E => ?_)
  have hN : ∀ i : Nat, i < 3 → i < xn X := fun i h => hXn.symm ▸ h
  have R0 := fex_rm E
  have hT : (xl X).stackTraces = false := hXl.symm ▸ hls
  show G X r0 0 0 μ 0 [(0, .ref (xa X 0 n0)), (1, .int p1)] [] (fX12_take fu n0 p1 μ)
  unfold fX12_take
  refine s_aload_n C dX12_take_0 rfl 0 rfl ?_
  refine s_iload_n C dX12_take_1 rfl 1 rfl ?_
  refine s_iconst (v := (1 : Int32)) C dX12_take_2 (by decide) ?_
  refine s_callVX C E (kX12_existingQueue (xl X) hT n0 g0 p1 (1 : Int32)) (Nat.le_trans (by decide) V) mmX12_existingQueue miX12_existingQueue q1328 (rc0 _) g0 rfl rfl rfl (Nat.le_of_ble_eq_true rfl) ⟨Nat.le_of_ble_eq_true rfl, Nat.le_of_ble_eq_true rfl, Nat.le_of_ble_eq_true rfl, Nat.le_of_ble_eq_true rfl⟩ dX12_take_3 (fun a2 μ1 => ?_)
  refine g_st (st' := [.ref (xa X 19 a2)]) rfl ?_
  refine g_ckB (fun b3 => ?_)
  refine s_astore_n (L' := [(2, .ref (xa X 19 a2)), (0, .ref (xa X 0 n0)), (1, .int p1)]) C dX12_take_6 rfl (hN 2 (by decide)) rfl ?_
  refine s_aload_n C dX12_take_7 rfl 0 rfl ?_
  refine s_getI C (fgX12_202_19 _) b3 dX12_take_8 ?_
  refine s_if_ne (tgt := 18) C dX12_take_11 (by decide) (fun c4 => ?_) (fun c4 => ?_)
  ·
    refine s_aload_n C dX12_take_18 rfl 1 rfl ?_
    refine s_callV C R0 (kX12_remember (xl X) fu n0 g0) (Nat.le_trans (by decide) V) mmX12_remember miX12_remember q1395 (rc0 _) g0 rfl rfl rfl (Nat.le_of_ble_eq_true rfl) ⟨Nat.le_of_ble_eq_true rfl, Nat.le_of_ble_eq_true rfl, Nat.le_of_ble_eq_true rfl, Nat.le_of_ble_eq_true rfl⟩ dX12_take_19 (fun _ μ5 => ?_)
    refine g_st (st' := []) rfl ?_
    refine s_aload_n C dX12_take_22 rfl 0 rfl ?_
    refine s_callV C R0 (kX7_removeFirst (xl X) a2 b3) (Nat.le_trans (by decide) V) mmX7_removeFirst miX7_removeFirst q1413 (rc19 _) b3 rfl rfl rfl (Nat.le_of_ble_eq_true rfl) ⟨Nat.le_of_ble_eq_true rfl, Nat.le_of_ble_eq_true rfl, Nat.le_of_ble_eq_true rfl, Nat.le_of_ble_eq_true rfl⟩ dX12_take_23 (fun x7 μ6 => ?_)
    refine g_st (st' := [.int x7]) rfl ?_
    refine s_callS C R0 (kX12_unsigned (xl X) x7) (Nat.le_trans (by decide) V) mmX12_unsigned q1344 q1343 rfl rfl rfl rfl (Nat.le_of_ble_eq_true rfl) ⟨Nat.le_of_ble_eq_true rfl, Nat.le_of_ble_eq_true rfl, Nat.le_of_ble_eq_true rfl, Nat.le_of_ble_eq_true rfl⟩ dX12_take_26 (fun y9 μ8 => ?_)
    refine g_st (st' := [.long y9]) rfl ?_
    exact s_lretX C E ⟨by decide, by decide⟩ dX12_take_29
  ·
    refine s_ldc2 (v := (-2 : Int64)) C q1412 dX12_take_14 ?_
    exact s_lretX C E ⟨by decide, by decide⟩ dX12_take_17
/-! PinEngines.enable(IZ)Z -/
def fX12_enable (fu : Nat) (n0 : Nat) (p1 : Int32) (p2 : Int32) (μ : Mem) : Option (RX Int32) :=
  bndX (fX12_existingEngine n0 p1 μ) fun a2 μ1 =>
  ckB a2 52 <|
  bnd (fX12_remember fu n0 μ1) fun _ μ4 =>
  nm ((μ4.1 18 a2 10)) fun x5 =>
  ckZ p2 <|
  nm (wI μ4 18 a2 10 p2) fun μ6 =>
  ckZ x5 (some (.inr x5, μ6))
set_option maxHeartbeats 4000000 in
set_option maxRecDepth 100000 in
theorem kX12_enable (l : Launch) (hls : l.stackTraces = false) (fu : Nat) (n0 : Nat) (g0 : n0 < 1) (p1 : Int32) (p2 : Int32) : KonX 0 l yX12_enable cX12_enable 5 (some .boolean) 7 124 1 6 (fun ad => [.ref (ad 0 n0), .int p1, .int p2]) rvI (fun μ => fX12_enable fu n0 p1 p2 μ) := by
  refine konX_of (by decide) (fun _ => Nat.le_of_ble_eq_true rfl) (fun X r0 μ hXl hXn V C E => ?_)
  have hN : ∀ i : Nat, i < 5 → i < xn X := fun i h => hXn.symm ▸ h
  have R0 := fex_rm E
  have hT : (xl X).stackTraces = false := hXl.symm ▸ hls
  show G X r0 0 0 μ 0 [(0, .ref (xa X 0 n0)), (1, .int p1), (2, .int p2)] [] (fX12_enable fu n0 p1 p2 μ)
  unfold fX12_enable
  refine s_aload_n C dX12_enable_0 rfl 0 rfl ?_
  refine s_iload_n C dX12_enable_1 rfl 1 rfl ?_
  refine s_callVX C E (kX12_existingEngine (xl X) hT n0 g0 p1) (Nat.le_trans (by decide) V) mmX12_existingEngine miX12_existingEngine q1274 (rc0 _) g0 rfl rfl rfl (Nat.le_of_ble_eq_true rfl) ⟨Nat.le_of_ble_eq_true rfl, Nat.le_of_ble_eq_true rfl, Nat.le_of_ble_eq_true rfl, Nat.le_of_ble_eq_true rfl⟩ dX12_enable_2 (fun a2 μ1 => ?_)
  refine g_st (st' := [.ref (xa X 18 a2)]) rfl ?_
  refine g_ckB (fun b3 => ?_)
  refine s_astore_n (L' := [(3, .ref (xa X 18 a2)), (0, .ref (xa X 0 n0)), (1, .int p1), (2, .int p2)]) C dX12_enable_5 rfl (hN 3 (by decide)) rfl ?_
  refine s_aload_n C dX12_enable_6 rfl 1 rfl ?_
  refine s_callV C R0 (kX12_remember (xl X) fu n0 g0) (Nat.le_trans (by decide) V) mmX12_remember miX12_remember q1395 (rc0 _) g0 rfl rfl rfl (Nat.le_of_ble_eq_true rfl) ⟨Nat.le_of_ble_eq_true rfl, Nat.le_of_ble_eq_true rfl, Nat.le_of_ble_eq_true rfl, Nat.le_of_ble_eq_true rfl⟩ dX12_enable_7 (fun _ μ4 => ?_)
  refine g_st (st' := []) rfl ?_
  refine s_aload_n C dX12_enable_10 rfl 0 rfl ?_
  refine s_getI C (fgX12_195_18 _) b3 dX12_enable_11 ?_
  refine g_nmI (fun x5 => ?_)
  refine s_istore (L' := [(4, .int x5), (3, .ref (xa X 18 a2)), (0, .ref (xa X 0 n0)), (1, .int p1), (2, .int p2)]) C dX12_enable_14 (hN 4 (by decide)) rfl ?_
  refine s_aload_n C dX12_enable_16 rfl 1 rfl ?_
  refine s_iload_n C dX12_enable_17 rfl 4 rfl ?_
  refine s_putZ C (fpX12_195_18 _) b3 dX12_enable_18 ?_
  refine g_nmM (fun μ6 => ?_)
  refine s_iload C dX12_enable_21 0 rfl ?_
  exact s_zretX C E ⟨by decide, by decide⟩ dX12_enable_23
/-! PinEngines.restart(I)I -/
def fX12_restart (fu : Nat) (n0 : Nat) (p1 : Int32) (μ : Mem) : Option (RX Int32) :=
  bndX (fX12_existingEngine n0 p1 μ) fun a2 μ1 =>
  ckB a2 52 <|
  bnd (fX12_remember fu n0 μ1) fun _ μ4 =>
  nm ((μ4.1 18 a2 0)) fun x5 =>
  nm (μ4.2.1 0 n0 4) fun a6 =>
  ckB a6 2 <|
  ckI p1 (4) <|
  bnd (fX1_reset a2 (4 * a6 + p1.toNatClampNeg) μ4) fun _ μ10 =>
  some (.inr x5, μ10)
set_option maxHeartbeats 4000000 in
set_option maxRecDepth 100000 in
theorem kX12_restart (l : Launch) (hls : l.stackTraces = false) (fu : Nat) (n0 : Nat) (g0 : n0 < 1) (p1 : Int32) : KonX 0 l yX12_restart cX12_restart 4 (some .int) 7 124 1 6 (fun ad => [.ref (ad 0 n0), .int p1]) rvI (fun μ => fX12_restart fu n0 p1 μ) := by
  refine konX_of (by decide) (fun _ => Nat.le_of_ble_eq_true rfl) (fun X r0 μ hXl hXn V C E => ?_)
  have hN : ∀ i : Nat, i < 4 → i < xn X := fun i h => hXn.symm ▸ h
  have R0 := fex_rm E
  have hT : (xl X).stackTraces = false := hXl.symm ▸ hls
  show G X r0 0 0 μ 0 [(0, .ref (xa X 0 n0)), (1, .int p1)] [] (fX12_restart fu n0 p1 μ)
  unfold fX12_restart
  refine s_aload_n C dX12_restart_0 rfl 0 rfl ?_
  refine s_iload_n C dX12_restart_1 rfl 1 rfl ?_
  refine s_callVX C E (kX12_existingEngine (xl X) hT n0 g0 p1) (Nat.le_trans (by decide) V) mmX12_existingEngine miX12_existingEngine q1274 (rc0 _) g0 rfl rfl rfl (Nat.le_of_ble_eq_true rfl) ⟨Nat.le_of_ble_eq_true rfl, Nat.le_of_ble_eq_true rfl, Nat.le_of_ble_eq_true rfl, Nat.le_of_ble_eq_true rfl⟩ dX12_restart_2 (fun a2 μ1 => ?_)
  refine g_st (st' := [.ref (xa X 18 a2)]) rfl ?_
  refine g_ckB (fun b3 => ?_)
  refine s_astore_n (L' := [(2, .ref (xa X 18 a2)), (0, .ref (xa X 0 n0)), (1, .int p1)]) C dX12_restart_5 rfl (hN 2 (by decide)) rfl ?_
  refine s_aload_n C dX12_restart_6 rfl 1 rfl ?_
  refine s_callV C R0 (kX12_remember (xl X) fu n0 g0) (Nat.le_trans (by decide) V) mmX12_remember miX12_remember q1395 (rc0 _) g0 rfl rfl rfl (Nat.le_of_ble_eq_true rfl) ⟨Nat.le_of_ble_eq_true rfl, Nat.le_of_ble_eq_true rfl, Nat.le_of_ble_eq_true rfl, Nat.le_of_ble_eq_true rfl⟩ dX12_restart_7 (fun _ μ4 => ?_)
  refine g_st (st' := []) rfl ?_
  refine s_aload_n C dX12_restart_10 rfl 0 rfl ?_
  refine s_getI C (fgX12_166_18 _) b3 dX12_restart_11 ?_
  refine g_nmI (fun x5 => ?_)
  refine s_istore_n (L' := [(3, .int x5), (2, .ref (xa X 18 a2)), (0, .ref (xa X 0 n0)), (1, .int p1)]) C dX12_restart_14 rfl (hN 3 (by decide)) rfl ?_
  refine s_aload_n C dX12_restart_15 rfl 1 rfl ?_
  refine s_aload_n C dX12_restart_16 rfl 2 rfl ?_
  refine s_getM C (fgX12_32_0 _) g0 dX12_restart_17 ?_
  refine g_nmA (fun a6 => ?_)
  refine g_ckB (fun b7 => ?_)
  refine s_getF C (fgX12_244_5 _) b7 dX12_restart_20 ?_
  refine s_iload_n C dX12_restart_23 rfl 3 rfl ?_
  refine s_aaldF C (ag6 _) (fun _ => rfl) b7 dX12_restart_24 (fun c8 => ?_)
  have b9 : 4 * a6 + p1.toNatClampNeg < 8 := by have := c8; omega
  refine s_callV C R0 (kX1_reset (xl X) a2 b3 (4 * a6 + p1.toNatClampNeg) b9) (Nat.le_trans (by decide) V) mmX1_reset miX1_reset q1431 (rc18 _) b3 rfl rfl rfl (Nat.le_of_ble_eq_true rfl) ⟨Nat.le_of_ble_eq_true rfl, Nat.le_of_ble_eq_true rfl, Nat.le_of_ble_eq_true rfl, Nat.le_of_ble_eq_true rfl⟩ dX12_restart_25 (fun _ μ10 => ?_)
  refine g_st (st' := []) rfl ?_
  refine s_iload_n C dX12_restart_28 rfl 0 rfl ?_
  exact s_iretX C E ⟨by decide, by decide⟩ dX12_restart_29
/-! PinEngines.drive(II)I -/
def fX12_drive (fu : Nat) (n0 : Nat) (p1 : Int32) (p2 : Int32) (μ : Mem) : Option (RX Int32) :=
  bndX (fX12_checkPin p1 μ) fun _ μ1 =>
  bndX (fX12_checkLevel p2 μ1) fun _ μ2 =>
  bnd (fX12_remember fu n0 μ2) fun _ μ3 =>
  bnd (fX3_driveOutside 0 p1 p2 μ3) fun _ μ4 =>
  bnd (fX3_levels 0 μ4) fun x6 μ5 =>
  some (.inr ((x6 >>> (p1 &&& 31)) &&& (1 : Int32)), μ5)
set_option maxHeartbeats 4000000 in
set_option maxRecDepth 100000 in
theorem kX12_drive (l : Launch) (hls : l.stackTraces = false) (fu : Nat) (n0 : Nat) (g0 : n0 < 1) (p1 : Int32) (p2 : Int32) : KonX 0 l yX12_drive cX12_drive 3 (some .int) 7 124 2 12 (fun ad => [.ref (ad 0 n0), .int p1, .int p2]) rvI (fun μ => fX12_drive fu n0 p1 p2 μ) := by
  refine konX_of (by decide) (fun _ => Nat.le_of_ble_eq_true rfl) (fun X r0 μ hXl hXn V C E => ?_)
  have hN : ∀ i : Nat, i < 3 → i < xn X := fun i h => hXn.symm ▸ h
  have R0 := fex_rm E
  have hT : (xl X).stackTraces = false := hXl.symm ▸ hls
  show G X r0 0 0 μ 0 [(0, .ref (xa X 0 n0)), (1, .int p1), (2, .int p2)] [] (fX12_drive fu n0 p1 p2 μ)
  unfold fX12_drive
  refine s_iload_n C dX12_drive_0 rfl 1 rfl ?_
  refine s_callSX C E (kX12_checkPin (xl X) hT p1) (Nat.le_trans (by decide) V) mmX12_checkPin q1218 q1217 rfl rfl rfl (Nat.le_of_ble_eq_true rfl) ⟨Nat.le_of_ble_eq_true rfl, Nat.le_of_ble_eq_true rfl, Nat.le_of_ble_eq_true rfl, Nat.le_of_ble_eq_true rfl⟩ dX12_drive_1 (fun _ μ1 => ?_)
  refine g_st (st' := []) rfl ?_
  refine s_iload_n C dX12_drive_4 rfl 2 rfl ?_
  refine s_callSX C E (kX12_checkLevel (xl X) hT p2) (Nat.le_trans (by decide) V) mmX12_checkLevel q1440 q1439 rfl rfl rfl (Nat.le_of_ble_eq_true rfl) ⟨Nat.le_of_ble_eq_true rfl, Nat.le_of_ble_eq_true rfl, Nat.le_of_ble_eq_true rfl, Nat.le_of_ble_eq_true rfl⟩ dX12_drive_5 (fun _ μ2 => ?_)
  refine g_st (st' := []) rfl ?_
  refine s_aload_n C dX12_drive_8 rfl 0 rfl ?_
  refine s_callV C R0 (kX12_remember (xl X) fu n0 g0) (Nat.le_trans (by decide) V) mmX12_remember miX12_remember q1395 (rc0 _) g0 rfl rfl rfl (Nat.le_of_ble_eq_true rfl) ⟨Nat.le_of_ble_eq_true rfl, Nat.le_of_ble_eq_true rfl, Nat.le_of_ble_eq_true rfl, Nat.le_of_ble_eq_true rfl⟩ dX12_drive_9 (fun _ μ3 => ?_)
  refine g_st (st' := []) rfl ?_
  refine s_aload_n C dX12_drive_12 rfl 0 rfl ?_
  refine s_getF C (fgX12_51_0 _) g0 dX12_drive_13 ?_
  refine s_iload_n C dX12_drive_16 rfl 1 rfl ?_
  refine s_iload_n C dX12_drive_17 rfl 2 rfl ?_
  refine s_callV C R0 (kX3_driveOutside (xl X) 0 (by decide) p1 p2) (Nat.le_trans (by decide) V) mmX3_driveOutside miX3_driveOutside q1442 (rc12 _) (by decide) rfl rfl rfl (Nat.le_of_ble_eq_true rfl) ⟨Nat.le_of_ble_eq_true rfl, Nat.le_of_ble_eq_true rfl, Nat.le_of_ble_eq_true rfl, Nat.le_of_ble_eq_true rfl⟩ dX12_drive_18 (fun _ μ4 => ?_)
  refine g_st (st' := []) rfl ?_
  refine s_aload_n C dX12_drive_21 rfl 0 rfl ?_
  refine s_getF C (fgX12_51_0 _) g0 dX12_drive_22 ?_
  refine s_callV C R0 (kX3_levels (xl X) 0 (by decide)) (Nat.le_trans (by decide) V) mmX3_levels miX3_levels q1235 (rc12 _) (by decide) rfl rfl rfl (Nat.le_of_ble_eq_true rfl) ⟨Nat.le_of_ble_eq_true rfl, Nat.le_of_ble_eq_true rfl, Nat.le_of_ble_eq_true rfl, Nat.le_of_ble_eq_true rfl⟩ dX12_drive_25 (fun x6 μ5 => ?_)
  refine g_st (st' := [.int x6]) rfl ?_
  refine s_iload_n C dX12_drive_28 rfl 1 rfl ?_
  refine s_ishr C dX12_drive_29 ?_
  refine s_iconst (v := (1 : Int32)) C dX12_drive_30 (by decide) ?_
  refine s_iand C dX12_drive_31 ?_
  exact s_iretX C E ⟨by decide, by decide⟩ dX12_drive_32
/-! PinEngines.schedule(III)I -/
def fX12_schedule (fu : Nat) (n0 : Nat) (p1 : Int32) (p2 : Int32) (p3 : Int32) (μ : Mem) : Option (RX Int32) :=
  jn (fun (μ1 : Mem) =>
    some (.inl 2, μ1)
  ) fun j26 =>
  bndX (fX12_checkPin p2 μ) fun _ μ2 =>
  bndX (fX12_checkLevel p3 μ2) fun _ μ3 =>
  if p1 < (μ3.1 12 0 0) then (
    j26 μ3
  ) else (
    if p1 ≤ (1000000 : Int32) then (
      if (μ3.1 12 0 8) < (32 : Int32) then (
        bnd (fX12_remember fu n0 μ3) fun _ μ7 =>
        bnd (fX3_addScheduled 0 p1 p2 p3 μ7) fun _ μ8 =>
        some (.inr (μ8.1 12 0 8), μ8)
      ) else (
        some (.inr (-2 : Int32), μ3)
      )
    ) else (
      j26 μ3
    )
  )
set_option maxHeartbeats 4000000 in
set_option maxRecDepth 100000 in
theorem kX12_schedule (l : Launch) (hls : l.stackTraces = false) (fu : Nat) (n0 : Nat) (g0 : n0 < 1) (p1 : Int32) (p2 : Int32) (p3 : Int32) : KonX 0 l yX12_schedule cX12_schedule 4 (some .int) 7 124 3 18 (fun ad => [.ref (ad 0 n0), .int p1, .int p2, .int p3]) rvI (fun μ => fX12_schedule fu n0 p1 p2 p3 μ) := by
  refine konX_of (by decide) (fun _ => Nat.le_of_ble_eq_true rfl) (fun X r0 μ hXl hXn V C E => ?_)
  have hN : ∀ i : Nat, i < 4 → i < xn X := fun i h => hXn.symm ▸ h
  have R0 := fex_rm E
  have hT : (xl X).stackTraces = false := hXl.symm ▸ hls
  show G X r0 0 0 μ 0 [(0, .ref (xa X 0 n0)), (1, .int p1), (2, .int p2), (3, .int p3)] [] (fX12_schedule fu n0 p1 p2 p3 μ)
  unfold fX12_schedule
  refine g_jn (P := fun j26 => ∀ (μ1 : Mem), G X r0 2 12 μ1 26 [] [] (j26 μ1)) ?_ (fun j26 hj26 => ?_)
  · intro μ1
    exact s_throw (k := 2) (names := ["java/lang/RuntimeException", "java/lang/Exception"]) hT C E (by decide +kernel) (by decide +kernel) q903 q177 th12i tg12i dX12_schedule_26 dX12_schedule_29 dX12_schedule_30 dX12_schedule_33 ⟨by decide, by decide, by decide, by decide⟩
  refine s_iload_n C dX12_schedule_0 rfl 2 rfl ?_
  refine s_callSX C E (kX12_checkPin (xl X) hT p2) (Nat.le_trans (by decide) V) mmX12_checkPin q1218 q1217 rfl rfl rfl (Nat.le_of_ble_eq_true rfl) ⟨Nat.le_of_ble_eq_true rfl, Nat.le_of_ble_eq_true rfl, Nat.le_of_ble_eq_true rfl, Nat.le_of_ble_eq_true rfl⟩ dX12_schedule_1 (fun _ μ2 => ?_)
  refine g_st (st' := []) rfl ?_
  refine s_iload_n C dX12_schedule_4 rfl 3 rfl ?_
  refine s_callSX C E (kX12_checkLevel (xl X) hT p3) (Nat.le_trans (by decide) V) mmX12_checkLevel q1440 q1439 rfl rfl rfl (Nat.le_of_ble_eq_true rfl) ⟨Nat.le_of_ble_eq_true rfl, Nat.le_of_ble_eq_true rfl, Nat.le_of_ble_eq_true rfl, Nat.le_of_ble_eq_true rfl⟩ dX12_schedule_5 (fun _ μ3 => ?_)
  refine g_st (st' := []) rfl ?_
  refine s_iload_n C dX12_schedule_8 rfl 1 rfl ?_
  refine s_aload_n C dX12_schedule_9 rfl 0 rfl ?_
  refine s_getF C (fgX12_51_0 _) g0 dX12_schedule_10 ?_
  refine s_getI C (fgX12_131_12 _) (by decide) dX12_schedule_13 ?_
  refine s_icmp_lt (tgt := 26) C dX12_schedule_16 (by decide) (fun c4 => ?_) (fun c4 => ?_)
  ·
    exact g_wid (ca1 := 2) (sl1 := 12) (by decide) (by decide) <| g_sub [] rfl (hj26 μ3)
  ·
    refine s_iload_n C dX12_schedule_19 rfl 1 rfl ?_
    refine s_ldcw (v := (1000000 : Int32)) C q1453 dX12_schedule_20 ?_
    refine s_icmp_le (tgt := 34) C dX12_schedule_23 (by decide) (fun c5 => ?_) (fun c5 => ?_)
    ·
      refine s_aload_n C dX12_schedule_34 rfl 0 rfl ?_
      refine s_getF C (fgX12_51_0 _) g0 dX12_schedule_35 ?_
      refine s_getI C (fgX12_260_12 _) (by decide) dX12_schedule_38 ?_
      refine s_bipush (v := (32 : Int32)) C dX12_schedule_41 (by decide) ?_
      refine s_icmp_lt (tgt := 49) C dX12_schedule_43 (by decide) (fun c6 => ?_) (fun c6 => ?_)
      ·
        refine s_aload_n C dX12_schedule_49 rfl 0 rfl ?_
        refine s_callV C R0 (kX12_remember (xl X) fu n0 g0) (Nat.le_trans (by decide) V) mmX12_remember miX12_remember q1395 (rc0 _) g0 rfl rfl rfl (Nat.le_of_ble_eq_true rfl) ⟨Nat.le_of_ble_eq_true rfl, Nat.le_of_ble_eq_true rfl, Nat.le_of_ble_eq_true rfl, Nat.le_of_ble_eq_true rfl⟩ dX12_schedule_50 (fun _ μ7 => ?_)
        refine g_st (st' := []) rfl ?_
        refine s_aload_n C dX12_schedule_53 rfl 0 rfl ?_
        refine s_getF C (fgX12_51_0 _) g0 dX12_schedule_54 ?_
        refine s_iload_n C dX12_schedule_57 rfl 1 rfl ?_
        refine s_iload_n C dX12_schedule_58 rfl 2 rfl ?_
        refine s_iload_n C dX12_schedule_59 rfl 3 rfl ?_
        refine s_callV C R0 (kX3_addScheduled (xl X) 0 (by decide) p1 p2 p3) (Nat.le_trans (by decide) V) mmX3_addScheduled miX3_addScheduled q1454 (rc12 _) (by decide) rfl rfl rfl (Nat.le_of_ble_eq_true rfl) ⟨Nat.le_of_ble_eq_true rfl, Nat.le_of_ble_eq_true rfl, Nat.le_of_ble_eq_true rfl, Nat.le_of_ble_eq_true rfl⟩ dX12_schedule_60 (fun _ μ8 => ?_)
        refine g_st (st' := []) rfl ?_
        refine s_aload_n C dX12_schedule_63 rfl 0 rfl ?_
        refine s_getF C (fgX12_51_0 _) g0 dX12_schedule_64 ?_
        refine s_getI C (fgX12_260_12 _) (by decide) dX12_schedule_67 ?_
        exact s_iretX C E ⟨by decide, by decide⟩ dX12_schedule_70
      ·
        refine s_bipush (v := (-2 : Int32)) C dX12_schedule_46 (by decide) ?_
        exact s_iretX C E ⟨by decide, by decide⟩ dX12_schedule_48
    ·
      exact g_wid (ca1 := 2) (sl1 := 12) (by decide) (by decide) <| g_sub [] rfl (hj26 μ3)
/-! PinEngines.poke(II)I -/
def fX12_poke (fu : Nat) (n0 : Nat) (p1 : Int32) (p2 : Int32) (μ : Mem) : Option (RX Int32) :=
  bndX (fX12_checkMemory p1 μ) fun _ μ1 =>
  bnd (fX12_remember fu n0 μ1) fun _ μ2 =>
  ckI p1 (16) <|
  nm ((μ2.1 13 0 p1.toNatClampNeg)) fun x3 =>
  ckI p1 (16) <|
  nm (wI μ2 13 0 p1.toNatClampNeg p2) fun μ4 =>
  some (.inr x3, μ4)
set_option maxHeartbeats 4000000 in
set_option maxRecDepth 100000 in
theorem kX12_poke (l : Launch) (hls : l.stackTraces = false) (fu : Nat) (n0 : Nat) (g0 : n0 < 1) (p1 : Int32) (p2 : Int32) : KonX 0 l yX12_poke cX12_poke 4 (some .int) 7 124 1 6 (fun ad => [.ref (ad 0 n0), .int p1, .int p2]) rvI (fun μ => fX12_poke fu n0 p1 p2 μ) := by
  refine konX_of (by decide) (fun _ => Nat.le_of_ble_eq_true rfl) (fun X r0 μ hXl hXn V C E => ?_)
  have hN : ∀ i : Nat, i < 4 → i < xn X := fun i h => hXn.symm ▸ h
  have R0 := fex_rm E
  have hT : (xl X).stackTraces = false := hXl.symm ▸ hls
  show G X r0 0 0 μ 0 [(0, .ref (xa X 0 n0)), (1, .int p1), (2, .int p2)] [] (fX12_poke fu n0 p1 p2 μ)
  unfold fX12_poke
  refine s_iload_n C dX12_poke_0 rfl 1 rfl ?_
  refine s_callSX C E (kX12_checkMemory (xl X) hT p1) (Nat.le_trans (by decide) V) mmX12_checkMemory q1265 q1264 rfl rfl rfl (Nat.le_of_ble_eq_true rfl) ⟨Nat.le_of_ble_eq_true rfl, Nat.le_of_ble_eq_true rfl, Nat.le_of_ble_eq_true rfl, Nat.le_of_ble_eq_true rfl⟩ dX12_poke_1 (fun _ μ1 => ?_)
  refine g_st (st' := []) rfl ?_
  refine s_aload_n C dX12_poke_4 rfl 0 rfl ?_
  refine s_callV C R0 (kX12_remember (xl X) fu n0 g0) (Nat.le_trans (by decide) V) mmX12_remember miX12_remember q1395 (rc0 _) g0 rfl rfl rfl (Nat.le_of_ble_eq_true rfl) ⟨Nat.le_of_ble_eq_true rfl, Nat.le_of_ble_eq_true rfl, Nat.le_of_ble_eq_true rfl, Nat.le_of_ble_eq_true rfl⟩ dX12_poke_5 (fun _ μ2 => ?_)
  refine g_st (st' := []) rfl ?_
  refine s_aload_n C dX12_poke_8 rfl 0 rfl ?_
  refine s_getF C (fgX12_51_0 _) g0 dX12_poke_9 ?_
  refine s_getF C (fgX12_155_12 _) (by decide) dX12_poke_12 ?_
  refine s_iload_n C dX12_poke_15 rfl 1 rfl ?_
  refine s_iald C (ag13 _) (by decide) dX12_poke_16 ?_
  refine g_nmI (fun x3 => ?_)
  refine s_istore_n (L' := [(3, .int x3), (0, .ref (xa X 0 n0)), (1, .int p1), (2, .int p2)]) C dX12_poke_17 rfl (hN 3 (by decide)) rfl ?_
  refine s_aload_n C dX12_poke_18 rfl 1 rfl ?_
  refine s_getF C (fgX12_51_0 _) g0 dX12_poke_19 ?_
  refine s_getF C (fgX12_155_12 _) (by decide) dX12_poke_22 ?_
  refine s_iload_n C dX12_poke_25 rfl 2 rfl ?_
  refine s_iload_n C dX12_poke_26 rfl 3 rfl ?_
  refine s_iast C (ag13 _) (by decide) dX12_poke_27 ?_
  refine g_nmM (fun μ4 => ?_)
  refine s_iload_n C dX12_poke_28 rfl 0 rfl ?_
  exact s_iretX C E ⟨by decide, by decide⟩ dX12_poke_29
/-! PinEnginesModel.execute(I)I -/
def fX13_execute (fu : Nat) (n0 : Nat) (p1 : Int32) (μ : Mem) : Option (Int32 × Mem) :=
  bnd (fX13_codeOf n0 p1 (1 : Int32) μ) fun x2 μ1 =>
  bnd (fX13_codeOf n0 p1 (0 : Int32) μ1) fun x4 μ3 =>
  if x4 = (0 : Int32) then (
    bnd (fX13_jump n0 p1 x2 μ3) fun x7 μ6 =>
    some (x7, μ6)
  ) else (
  if x4 = (1 : Int32) then (
    bnd (fX13_waitFor n0 p1 x2 μ3) fun x10 μ9 =>
    some (x10, μ9)
  ) else (
  if x4 = (2 : Int32) then (
    bnd (fX13_source fu n0 p1 x2 μ3) fun x13 μ12 =>
    bnd (fX13_codeOf n0 p1 (2 : Int32) μ12) fun x15 μ14 =>
    bnd (fX13_shiftIn n0 p1 x13 x15 μ14) fun x17 μ16 =>
    some (x17, μ16)
  ) else (
  if x4 = (3 : Int32) then (
    bnd (fX13_codeOf n0 p1 (2 : Int32) μ3) fun x20 μ19 =>
    bnd (fX13_shiftOut fu n0 p1 x2 x20 μ19) fun x22 μ21 =>
    some (x22, μ21)
  ) else (
  if x4 = (4 : Int32) then (
    jn (fun (μ24 : Mem) (a25 : Nat) (x27 : Int32) (x28 : Int32) =>
      jn (fun (μ29 : Mem) (a30 : Nat) (x32 : Int32) (x33 : Int32) (x34 : Int32) =>
        bnd (fX13_push a30 x32 x33 x34 μ29) fun x36 μ35 =>
        some (x36, μ35)
      ) fun j144 =>
      bnd (fX13_codeOf n0 p1 (2 : Int32) μ24) fun x38 μ37 =>
      if ¬ x38 = (1 : Int32) then (
        j144 μ37 a25 x27 x28 (0 : Int32)
      ) else (
        j144 μ37 a25 x27 x28 (1 : Int32)
      )
    ) fun j129 =>
    if ¬ x2 = (1 : Int32) then (
      j129 μ3 n0 p1 (0 : Int32)
    ) else (
      j129 μ3 n0 p1 (1 : Int32)
    )
  ) else (
  if x4 = (5 : Int32) then (
    jn (fun (μ42 : Mem) (a43 : Nat) (x45 : Int32) (x46 : Int32) =>
      jn (fun (μ47 : Mem) (a48 : Nat) (x50 : Int32) (x51 : Int32) (x52 : Int32) =>
        bnd (fX13_pull fu a48 x50 x51 x52 μ47) fun x54 μ53 =>
        some (x54, μ53)
      ) fun j175 =>
      bnd (fX13_codeOf n0 p1 (2 : Int32) μ42) fun x56 μ55 =>
      if ¬ x56 = (1 : Int32) then (
        j175 μ55 a43 x45 x46 (0 : Int32)
      ) else (
        j175 μ55 a43 x45 x46 (1 : Int32)
      )
    ) fun j160 =>
    if ¬ x2 = (1 : Int32) then (
      j160 μ3 n0 p1 (0 : Int32)
    ) else (
      j160 μ3 n0 p1 (1 : Int32)
    )
  ) else (
  if x4 = (6 : Int32) then (
    bnd (fX13_codeOf n0 p1 (2 : Int32) μ3) fun x61 μ60 =>
    bnd (fX13_codeOf n0 p1 (3 : Int32) μ60) fun x63 μ62 =>
    bnd (fX13_source fu n0 p1 x63 μ62) fun x65 μ64 =>
    bnd (fX13_move fu n0 p1 x2 x61 x65 μ64) fun x67 μ66 =>
    some (x67, μ66)
  ) else (
  if x4 = (7 : Int32) then (
    nm (wI μ3 26 n0 16 ((μ3.1 26 n0 16) ||| ((1 : Int32) <<< (x2 &&& 31)))) fun μ69 =>
    some ((0 : Int32), μ69)
  ) else (
  if x4 = (8 : Int32) then (
    nm (wI μ3 26 n0 17 ((μ3.1 26 n0 17) ||| ((1 : Int32) <<< (x2 &&& 31)))) fun μ71 =>
    some ((0 : Int32), μ71)
  ) else (
  if x4 = (9 : Int32) then (
    bnd (fX13_signal n0 p1 x2 μ3) fun x74 μ73 =>
    some (x74, μ73)
  ) else (
  if x4 = (10 : Int32) then (
    bnd (fX13_codeOf n0 p1 (2 : Int32) μ3) fun x77 μ76 =>
    bnd (fX13_assign n0 p1 x2 x77 μ76) fun x79 μ78 =>
    some (x79, μ78)
  ) else (
  jn (fun (μ80 : Mem) (x81 : Int32) =>
    some (x81, μ80)
  ) fun j269 =>
  if ¬ (μ3.1 26 n0 18) = p1 then (
    j269 μ3 (4 : Int32)
  ) else (
    bnd (fX13_access fu n0 p1 x2 μ3) fun x84 μ83 =>
    j269 μ83 x84
  )
  )))))))))))
set_option maxHeartbeats 4000000 in
set_option maxRecDepth 100000 in
theorem kX13_execute (l : Launch) (fu : Nat) (n0 : Nat) (g0 : n0 < 1) (p1 : Int32) : Kon 1 l yX13_execute cX13_execute 3 (some .int) 4 97 0 0 (fun ad => [.ref (ad 26 n0), .int p1]) rvI (fun μ => fX13_execute fu n0 p1 μ) := by
  refine kon_of (by decide) (fun _ => Nat.le_of_ble_eq_true rfl) (fun X r0 μ hXl hXn V C E => ?_)
  have hN : ∀ i : Nat, i < 3 → i < xn X := fun i h => hXn.symm ▸ h
  have R0 := fen_rm E
  show G X r0 0 0 μ 0 [(0, .ref (xa X 26 n0)), (1, .int p1)] [] (fX13_execute fu n0 p1 μ)
  unfold fX13_execute
  refine s_aload_n C dX13_execute_0 rfl 0 rfl ?_
  refine s_iload_n C dX13_execute_1 rfl 1 rfl ?_
  refine s_iconst (v := (1 : Int32)) C dX13_execute_2 (by decide) ?_
  refine s_callV C R0 (kX13_codeOf (xl X) n0 g0 p1 (1 : Int32)) (Nat.le_trans (by decide) V) mmX13_codeOf miX13_codeOf q2461 (rc26 (Nat.le_trans (by decide) V)) g0 rfl rfl rfl (Nat.le_of_ble_eq_true rfl) ⟨Nat.le_of_ble_eq_true rfl, Nat.le_of_ble_eq_true rfl, Nat.le_of_ble_eq_true rfl, Nat.le_of_ble_eq_true rfl⟩ dX13_execute_3 (fun x2 μ1 => ?_)
  refine g_st (st' := [.int x2]) rfl ?_
  refine s_istore_n (L' := [(2, .int x2), (0, .ref (xa X 26 n0)), (1, .int p1)]) C dX13_execute_6 rfl (hN 2 (by decide)) rfl ?_
  refine s_aload_n C dX13_execute_7 rfl 1 rfl ?_
  refine s_iload_n C dX13_execute_8 rfl 2 rfl ?_
  refine s_iconst (v := (0 : Int32)) C dX13_execute_9 (by decide) ?_
  refine s_callV C R0 (kX13_codeOf (xl X) n0 g0 p1 (0 : Int32)) (Nat.le_trans (by decide) V) mmX13_codeOf miX13_codeOf q2461 (rc26 (Nat.le_trans (by decide) V)) g0 rfl rfl rfl (Nat.le_of_ble_eq_true rfl) ⟨Nat.le_of_ble_eq_true rfl, Nat.le_of_ble_eq_true rfl, Nat.le_of_ble_eq_true rfl, Nat.le_of_ble_eq_true rfl⟩ dX13_execute_10 (fun x4 μ3 => ?_)
  refine g_st (st' := [.int x4]) rfl ?_
  refine g_cases (v := (0 : Int32)) (fun c5 => ?_) (fun c5 => ?_)
  ·
    refine s_tin (tgt := 72) C dX13_execute_13 c5 (by decide) (by decide) rfl (by decide) ?_
    refine s_aload_n C dX13_execute_72 rfl 1 rfl ?_
    refine s_iload_n C dX13_execute_73 rfl 2 rfl ?_
    refine s_iload_n C dX13_execute_74 rfl 0 rfl ?_
    refine s_callV C R0 (kX13_jump (xl X) n0 g0 p1 x2) (Nat.le_trans (by decide) V) mmX13_jump miX13_jump q2481 (rc26 (Nat.le_trans (by decide) V)) g0 rfl rfl rfl (Nat.le_of_ble_eq_true rfl) ⟨Nat.le_of_ble_eq_true rfl, Nat.le_of_ble_eq_true rfl, Nat.le_of_ble_eq_true rfl, Nat.le_of_ble_eq_true rfl⟩ dX13_execute_75 (fun x7 μ6 => ?_)
    refine g_st (st' := [.int x7]) rfl ?_
    exact s_iret C E dX13_execute_78
  ·
    refine g_cases (v := (1 : Int32)) (fun c8 => ?_) (fun c8 => ?_)
    ·
      refine s_tin (tgt := 79) C dX13_execute_13 c8 (by decide) (by decide) rfl (by decide) ?_
      refine s_aload_n C dX13_execute_79 rfl 1 rfl ?_
      refine s_iload_n C dX13_execute_80 rfl 2 rfl ?_
      refine s_iload_n C dX13_execute_81 rfl 0 rfl ?_
      refine s_callV C R0 (kX13_waitFor (xl X) n0 g0 p1 x2) (Nat.le_trans (by decide) V) mmX13_waitFor miX13_waitFor q2493 (rc26 (Nat.le_trans (by decide) V)) g0 rfl rfl rfl (Nat.le_of_ble_eq_true rfl) ⟨Nat.le_of_ble_eq_true rfl, Nat.le_of_ble_eq_true rfl, Nat.le_of_ble_eq_true rfl, Nat.le_of_ble_eq_true rfl⟩ dX13_execute_82 (fun x10 μ9 => ?_)
      refine g_st (st' := [.int x10]) rfl ?_
      exact s_iret C E dX13_execute_85
    ·
      refine g_cases (v := (2 : Int32)) (fun c11 => ?_) (fun c11 => ?_)
      ·
        refine s_tin (tgt := 86) C dX13_execute_13 c11 (by decide) (by decide) rfl (by decide) ?_
        refine s_aload_n C dX13_execute_86 rfl 1 rfl ?_
        refine s_iload_n C dX13_execute_87 rfl 2 rfl ?_
        refine s_aload_n C dX13_execute_88 rfl 1 rfl ?_
        refine s_iload_n C dX13_execute_89 rfl 2 rfl ?_
        refine s_iload_n C dX13_execute_90 rfl 0 rfl ?_
        refine s_callV C R0 (kX13_source (xl X) fu n0 g0 p1 x2) (Nat.le_trans (by decide) V) mmX13_source miX13_source q2497 (rc26 (Nat.le_trans (by decide) V)) g0 rfl rfl rfl (Nat.le_of_ble_eq_true rfl) ⟨Nat.le_of_ble_eq_true rfl, Nat.le_of_ble_eq_true rfl, Nat.le_of_ble_eq_true rfl, Nat.le_of_ble_eq_true rfl⟩ dX13_execute_91 (fun x13 μ12 => ?_)
        refine g_st (st' := [.int x13, .int p1, .ref (xa X 26 n0)]) rfl ?_
        refine s_aload_n C dX13_execute_94 rfl 1 rfl ?_
        refine s_iload_n C dX13_execute_95 rfl 2 rfl ?_
        refine s_iconst (v := (2 : Int32)) C dX13_execute_96 (by decide) ?_
        refine s_callV C R0 (kX13_codeOf (xl X) n0 g0 p1 (2 : Int32)) (Nat.le_trans (by decide) V) mmX13_codeOf miX13_codeOf q2461 (rc26 (Nat.le_trans (by decide) V)) g0 rfl rfl rfl (Nat.le_of_ble_eq_true rfl) ⟨Nat.le_of_ble_eq_true rfl, Nat.le_of_ble_eq_true rfl, Nat.le_of_ble_eq_true rfl, Nat.le_of_ble_eq_true rfl⟩ dX13_execute_97 (fun x15 μ14 => ?_)
        refine g_st (st' := [.int x15, .int x13, .int p1, .ref (xa X 26 n0)]) rfl ?_
        refine s_callV C R0 (kX13_shiftIn (xl X) n0 g0 p1 x13 x15) (Nat.le_trans (by decide) V) mmX13_shiftIn miX13_shiftIn q2505 (rc26 (Nat.le_trans (by decide) V)) g0 rfl rfl rfl (Nat.le_of_ble_eq_true rfl) ⟨Nat.le_of_ble_eq_true rfl, Nat.le_of_ble_eq_true rfl, Nat.le_of_ble_eq_true rfl, Nat.le_of_ble_eq_true rfl⟩ dX13_execute_100 (fun x17 μ16 => ?_)
        refine g_st (st' := [.int x17]) rfl ?_
        exact s_iret C E dX13_execute_103
      ·
        refine g_cases (v := (3 : Int32)) (fun c18 => ?_) (fun c18 => ?_)
        ·
          refine s_tin (tgt := 104) C dX13_execute_13 c18 (by decide) (by decide) rfl (by decide) ?_
          refine s_aload_n C dX13_execute_104 rfl 1 rfl ?_
          refine s_iload_n C dX13_execute_105 rfl 2 rfl ?_
          refine s_iload_n C dX13_execute_106 rfl 0 rfl ?_
          refine s_aload_n C dX13_execute_107 rfl 1 rfl ?_
          refine s_iload_n C dX13_execute_108 rfl 2 rfl ?_
          refine s_iconst (v := (2 : Int32)) C dX13_execute_109 (by decide) ?_
          refine s_callV C R0 (kX13_codeOf (xl X) n0 g0 p1 (2 : Int32)) (Nat.le_trans (by decide) V) mmX13_codeOf miX13_codeOf q2461 (rc26 (Nat.le_trans (by decide) V)) g0 rfl rfl rfl (Nat.le_of_ble_eq_true rfl) ⟨Nat.le_of_ble_eq_true rfl, Nat.le_of_ble_eq_true rfl, Nat.le_of_ble_eq_true rfl, Nat.le_of_ble_eq_true rfl⟩ dX13_execute_110 (fun x20 μ19 => ?_)
          refine g_st (st' := [.int x20, .int x2, .int p1, .ref (xa X 26 n0)]) rfl ?_
          refine s_callV C R0 (kX13_shiftOut (xl X) fu n0 g0 p1 x2 x20) (Nat.le_trans (by decide) V) mmX13_shiftOut miX13_shiftOut q2521 (rc26 (Nat.le_trans (by decide) V)) g0 rfl rfl rfl (Nat.le_of_ble_eq_true rfl) ⟨Nat.le_of_ble_eq_true rfl, Nat.le_of_ble_eq_true rfl, Nat.le_of_ble_eq_true rfl, Nat.le_of_ble_eq_true rfl⟩ dX13_execute_113 (fun x22 μ21 => ?_)
          refine g_st (st' := [.int x22]) rfl ?_
          exact s_iret C E dX13_execute_116
        ·
          refine g_cases (v := (4 : Int32)) (fun c23 => ?_) (fun c23 => ?_)
          ·
            refine s_tin (tgt := 117) C dX13_execute_13 c23 (by decide) (by decide) rfl (by decide) ?_
            refine g_jn (P := fun j129 => ∀ (μ24 : Mem) (a25 : Nat) (x27 : Int32) (x28 : Int32), a25 < 1 → G X r0 0 0 μ24 129 [(0, .ref (xa X 26 n0)), (1, .int p1)] [.int x28, .int x27, .ref (xa X 26 a25)] (j129 μ24 a25 x27 x28)) ?_ (fun j129 hj129 => ?_)
            · intro μ24 a25 x27 x28 b26
              refine g_jn (P := fun j144 => ∀ (μ29 : Mem) (a30 : Nat) (x32 : Int32) (x33 : Int32) (x34 : Int32), a30 < 1 → G X r0 0 0 μ29 144 [] [.int x34, .int x33, .int x32, .ref (xa X 26 a30)] (j144 μ29 a30 x32 x33 x34)) ?_ (fun j144 hj144 => ?_)
              · intro μ29 a30 x32 x33 x34 b31
                refine s_callV C R0 (kX13_push (xl X) a30 b31 x32 x33 x34) (Nat.le_trans (by decide) V) mmX13_push miX13_push q2537 (rc26 (Nat.le_trans (by decide) V)) b31 rfl rfl rfl (Nat.le_of_ble_eq_true rfl) ⟨Nat.le_of_ble_eq_true rfl, Nat.le_of_ble_eq_true rfl, Nat.le_of_ble_eq_true rfl, Nat.le_of_ble_eq_true rfl⟩ dX13_execute_144 (fun x36 μ35 => ?_)
                refine g_st (st' := [.int x36]) rfl ?_
                exact s_iret C E dX13_execute_147
              refine s_aload_n C dX13_execute_129 rfl 0 rfl ?_
              refine s_iload_n C dX13_execute_130 rfl 1 rfl ?_
              refine s_iconst (v := (2 : Int32)) C dX13_execute_131 (by decide) ?_
              refine s_callV C R0 (kX13_codeOf (xl X) n0 g0 p1 (2 : Int32)) (Nat.le_trans (by decide) V) mmX13_codeOf miX13_codeOf q2461 (rc26 (Nat.le_trans (by decide) V)) g0 rfl rfl rfl (Nat.le_of_ble_eq_true rfl) ⟨Nat.le_of_ble_eq_true rfl, Nat.le_of_ble_eq_true rfl, Nat.le_of_ble_eq_true rfl, Nat.le_of_ble_eq_true rfl⟩ dX13_execute_132 (fun x38 μ37 => ?_)
              refine g_st (st' := [.int x38, .int x28, .int x27, .ref (xa X 26 a25)]) rfl ?_
              refine s_iconst (v := (1 : Int32)) C dX13_execute_135 (by decide) ?_
              refine s_icmp_ne (tgt := 143) C dX13_execute_136 (by decide) (fun c39 => ?_) (fun c39 => ?_)
              ·
                refine s_iconst (v := (0 : Int32)) C dX13_execute_143 (by decide) ?_
                exact g_sub [] rfl (hj144 μ37 a25 x27 x28 (0 : Int32) b26)
              ·
                refine s_iconst (v := (1 : Int32)) C dX13_execute_139 (by decide) ?_
                refine s_goto (tgt := 144) C dX13_execute_140 (by decide) ?_
                exact g_sub [] rfl (hj144 μ37 a25 x27 x28 (1 : Int32) b26)
            refine s_aload_n C dX13_execute_117 rfl 1 rfl ?_
            refine s_iload_n C dX13_execute_118 rfl 2 rfl ?_
            refine s_iload_n C dX13_execute_119 rfl 0 rfl ?_
            refine s_iconst (v := (1 : Int32)) C dX13_execute_120 (by decide) ?_
            refine s_icmp_ne (tgt := 128) C dX13_execute_121 (by decide) (fun c40 => ?_) (fun c40 => ?_)
            ·
              refine s_iconst (v := (0 : Int32)) C dX13_execute_128 (by decide) ?_
              exact g_sub [1, 2] rfl (hj129 μ3 n0 p1 (0 : Int32) g0)
            ·
              refine s_iconst (v := (1 : Int32)) C dX13_execute_124 (by decide) ?_
              refine s_goto (tgt := 129) C dX13_execute_125 (by decide) ?_
              exact g_sub [1, 2] rfl (hj129 μ3 n0 p1 (1 : Int32) g0)
          ·
            refine g_cases (v := (5 : Int32)) (fun c41 => ?_) (fun c41 => ?_)
            ·
              refine s_tin (tgt := 148) C dX13_execute_13 c41 (by decide) (by decide) rfl (by decide) ?_
              refine g_jn (P := fun j160 => ∀ (μ42 : Mem) (a43 : Nat) (x45 : Int32) (x46 : Int32), a43 < 1 → G X r0 0 0 μ42 160 [(0, .ref (xa X 26 n0)), (1, .int p1)] [.int x46, .int x45, .ref (xa X 26 a43)] (j160 μ42 a43 x45 x46)) ?_ (fun j160 hj160 => ?_)
              · intro μ42 a43 x45 x46 b44
                refine g_jn (P := fun j175 => ∀ (μ47 : Mem) (a48 : Nat) (x50 : Int32) (x51 : Int32) (x52 : Int32), a48 < 1 → G X r0 0 0 μ47 175 [] [.int x52, .int x51, .int x50, .ref (xa X 26 a48)] (j175 μ47 a48 x50 x51 x52)) ?_ (fun j175 hj175 => ?_)
                · intro μ47 a48 x50 x51 x52 b49
                  refine s_callV C R0 (kX13_pull (xl X) fu a48 b49 x50 x51 x52) (Nat.le_trans (by decide) V) mmX13_pull miX13_pull q2541 (rc26 (Nat.le_trans (by decide) V)) b49 rfl rfl rfl (Nat.le_of_ble_eq_true rfl) ⟨Nat.le_of_ble_eq_true rfl, Nat.le_of_ble_eq_true rfl, Nat.le_of_ble_eq_true rfl, Nat.le_of_ble_eq_true rfl⟩ dX13_execute_175 (fun x54 μ53 => ?_)
                  refine g_st (st' := [.int x54]) rfl ?_
                  exact s_iret C E dX13_execute_178
                refine s_aload_n C dX13_execute_160 rfl 0 rfl ?_
                refine s_iload_n C dX13_execute_161 rfl 1 rfl ?_
                refine s_iconst (v := (2 : Int32)) C dX13_execute_162 (by decide) ?_
                refine s_callV C R0 (kX13_codeOf (xl X) n0 g0 p1 (2 : Int32)) (Nat.le_trans (by decide) V) mmX13_codeOf miX13_codeOf q2461 (rc26 (Nat.le_trans (by decide) V)) g0 rfl rfl rfl (Nat.le_of_ble_eq_true rfl) ⟨Nat.le_of_ble_eq_true rfl, Nat.le_of_ble_eq_true rfl, Nat.le_of_ble_eq_true rfl, Nat.le_of_ble_eq_true rfl⟩ dX13_execute_163 (fun x56 μ55 => ?_)
                refine g_st (st' := [.int x56, .int x46, .int x45, .ref (xa X 26 a43)]) rfl ?_
                refine s_iconst (v := (1 : Int32)) C dX13_execute_166 (by decide) ?_
                refine s_icmp_ne (tgt := 174) C dX13_execute_167 (by decide) (fun c57 => ?_) (fun c57 => ?_)
                ·
                  refine s_iconst (v := (0 : Int32)) C dX13_execute_174 (by decide) ?_
                  exact g_sub [] rfl (hj175 μ55 a43 x45 x46 (0 : Int32) b44)
                ·
                  refine s_iconst (v := (1 : Int32)) C dX13_execute_170 (by decide) ?_
                  refine s_goto (tgt := 175) C dX13_execute_171 (by decide) ?_
                  exact g_sub [] rfl (hj175 μ55 a43 x45 x46 (1 : Int32) b44)
              refine s_aload_n C dX13_execute_148 rfl 1 rfl ?_
              refine s_iload_n C dX13_execute_149 rfl 2 rfl ?_
              refine s_iload_n C dX13_execute_150 rfl 0 rfl ?_
              refine s_iconst (v := (1 : Int32)) C dX13_execute_151 (by decide) ?_
              refine s_icmp_ne (tgt := 159) C dX13_execute_152 (by decide) (fun c58 => ?_) (fun c58 => ?_)
              ·
                refine s_iconst (v := (0 : Int32)) C dX13_execute_159 (by decide) ?_
                exact g_sub [1, 2] rfl (hj160 μ3 n0 p1 (0 : Int32) g0)
              ·
                refine s_iconst (v := (1 : Int32)) C dX13_execute_155 (by decide) ?_
                refine s_goto (tgt := 160) C dX13_execute_156 (by decide) ?_
                exact g_sub [1, 2] rfl (hj160 μ3 n0 p1 (1 : Int32) g0)
            ·
              refine g_cases (v := (6 : Int32)) (fun c59 => ?_) (fun c59 => ?_)
              ·
                refine s_tin (tgt := 179) C dX13_execute_13 c59 (by decide) (by decide) rfl (by decide) ?_
                refine s_aload_n C dX13_execute_179 rfl 1 rfl ?_
                refine s_iload_n C dX13_execute_180 rfl 2 rfl ?_
                refine s_iload_n C dX13_execute_181 rfl 0 rfl ?_
                refine s_aload_n C dX13_execute_182 rfl 1 rfl ?_
                refine s_iload_n C dX13_execute_183 rfl 2 rfl ?_
                refine s_iconst (v := (2 : Int32)) C dX13_execute_184 (by decide) ?_
                refine s_callV C R0 (kX13_codeOf (xl X) n0 g0 p1 (2 : Int32)) (Nat.le_trans (by decide) V) mmX13_codeOf miX13_codeOf q2461 (rc26 (Nat.le_trans (by decide) V)) g0 rfl rfl rfl (Nat.le_of_ble_eq_true rfl) ⟨Nat.le_of_ble_eq_true rfl, Nat.le_of_ble_eq_true rfl, Nat.le_of_ble_eq_true rfl, Nat.le_of_ble_eq_true rfl⟩ dX13_execute_185 (fun x61 μ60 => ?_)
                refine g_st (st' := [.int x61, .int x2, .int p1, .ref (xa X 26 n0)]) rfl ?_
                refine s_aload_n C dX13_execute_188 rfl 1 rfl ?_
                refine s_iload_n C dX13_execute_189 rfl 2 rfl ?_
                refine s_aload_n C dX13_execute_190 rfl 1 rfl ?_
                refine s_iload_n C dX13_execute_191 rfl 2 rfl ?_
                refine s_iconst (v := (3 : Int32)) C dX13_execute_192 (by decide) ?_
                refine s_callV C R0 (kX13_codeOf (xl X) n0 g0 p1 (3 : Int32)) (Nat.le_trans (by decide) V) mmX13_codeOf miX13_codeOf q2461 (rc26 (Nat.le_trans (by decide) V)) g0 rfl rfl rfl (Nat.le_of_ble_eq_true rfl) ⟨Nat.le_of_ble_eq_true rfl, Nat.le_of_ble_eq_true rfl, Nat.le_of_ble_eq_true rfl, Nat.le_of_ble_eq_true rfl⟩ dX13_execute_193 (fun x63 μ62 => ?_)
                refine g_st (st' := [.int x63, .int p1, .ref (xa X 26 n0), .int x61, .int x2, .int p1, .ref (xa X 26 n0)]) rfl ?_
                refine s_callV C R0 (kX13_source (xl X) fu n0 g0 p1 x63) (Nat.le_trans (by decide) V) mmX13_source miX13_source q2497 (rc26 (Nat.le_trans (by decide) V)) g0 rfl rfl rfl (Nat.le_of_ble_eq_true rfl) ⟨Nat.le_of_ble_eq_true rfl, Nat.le_of_ble_eq_true rfl, Nat.le_of_ble_eq_true rfl, Nat.le_of_ble_eq_true rfl⟩ dX13_execute_196 (fun x65 μ64 => ?_)
                refine g_st (st' := [.int x65, .int x61, .int x2, .int p1, .ref (xa X 26 n0)]) rfl ?_
                refine s_callV C R0 (kX13_move (xl X) fu n0 g0 p1 x2 x61 x65) (Nat.le_trans (by decide) V) mmX13_move miX13_move q2545 (rc26 (Nat.le_trans (by decide) V)) g0 rfl rfl rfl (Nat.le_of_ble_eq_true rfl) ⟨Nat.le_of_ble_eq_true rfl, Nat.le_of_ble_eq_true rfl, Nat.le_of_ble_eq_true rfl, Nat.le_of_ble_eq_true rfl⟩ dX13_execute_199 (fun x67 μ66 => ?_)
                refine g_st (st' := [.int x67]) rfl ?_
                exact s_iret C E dX13_execute_202
              ·
                refine g_cases (v := (7 : Int32)) (fun c68 => ?_) (fun c68 => ?_)
                ·
                  refine s_tin (tgt := 203) C dX13_execute_13 c68 (by decide) (by decide) rfl (by decide) ?_
                  refine s_aload_n C dX13_execute_203 rfl 1 rfl ?_
                  refine s_dup C dX13_execute_204 rfl ?_
                  refine s_getI C (fgX13_287_26 (Nat.le_trans (by decide) V)) g0 dX13_execute_205 ?_
                  refine s_iconst (v := (1 : Int32)) C dX13_execute_208 (by decide) ?_
                  refine s_iload_n C dX13_execute_209 rfl 0 rfl ?_
                  refine s_ishl C dX13_execute_210 ?_
                  refine s_ior C dX13_execute_211 ?_
                  refine s_putI C (fpX13_287_26 (Nat.le_trans (by decide) V)) g0 dX13_execute_212 ?_
                  refine g_nmM (fun μ69 => ?_)
                  refine s_iconst (v := (0 : Int32)) C dX13_execute_215 (by decide) ?_
                  exact s_iret C E dX13_execute_216
                ·
                  refine g_cases (v := (8 : Int32)) (fun c70 => ?_) (fun c70 => ?_)
                  ·
                    refine s_tin (tgt := 217) C dX13_execute_13 c70 (by decide) (by decide) rfl (by decide) ?_
                    refine s_aload_n C dX13_execute_217 rfl 1 rfl ?_
                    refine s_dup C dX13_execute_218 rfl ?_
                    refine s_getI C (fgX13_290_26 (Nat.le_trans (by decide) V)) g0 dX13_execute_219 ?_
                    refine s_iconst (v := (1 : Int32)) C dX13_execute_222 (by decide) ?_
                    refine s_iload_n C dX13_execute_223 rfl 0 rfl ?_
                    refine s_ishl C dX13_execute_224 ?_
                    refine s_ior C dX13_execute_225 ?_
                    refine s_putI C (fpX13_290_26 (Nat.le_trans (by decide) V)) g0 dX13_execute_226 ?_
                    refine g_nmM (fun μ71 => ?_)
                    refine s_iconst (v := (0 : Int32)) C dX13_execute_229 (by decide) ?_
                    exact s_iret C E dX13_execute_230
                  ·
                    refine g_cases (v := (9 : Int32)) (fun c72 => ?_) (fun c72 => ?_)
                    ·
                      refine s_tin (tgt := 231) C dX13_execute_13 c72 (by decide) (by decide) rfl (by decide) ?_
                      refine s_aload_n C dX13_execute_231 rfl 1 rfl ?_
                      refine s_iload_n C dX13_execute_232 rfl 2 rfl ?_
                      refine s_iload_n C dX13_execute_233 rfl 0 rfl ?_
                      refine s_callV C R0 (kX13_signal (xl X) n0 g0 p1 x2) (Nat.le_trans (by decide) V) mmX13_signal miX13_signal q2552 (rc26 (Nat.le_trans (by decide) V)) g0 rfl rfl rfl (Nat.le_of_ble_eq_true rfl) ⟨Nat.le_of_ble_eq_true rfl, Nat.le_of_ble_eq_true rfl, Nat.le_of_ble_eq_true rfl, Nat.le_of_ble_eq_true rfl⟩ dX13_execute_234 (fun x74 μ73 => ?_)
                      refine g_st (st' := [.int x74]) rfl ?_
                      exact s_iret C E dX13_execute_237
                    ·
                      refine g_cases (v := (10 : Int32)) (fun c75 => ?_) (fun c75 => ?_)
                      ·
                        refine s_tin (tgt := 238) C dX13_execute_13 c75 (by decide) (by decide) rfl (by decide) ?_
                        refine s_aload_n C dX13_execute_238 rfl 1 rfl ?_
                        refine s_iload_n C dX13_execute_239 rfl 2 rfl ?_
                        refine s_iload_n C dX13_execute_240 rfl 0 rfl ?_
                        refine s_aload_n C dX13_execute_241 rfl 1 rfl ?_
                        refine s_iload_n C dX13_execute_242 rfl 2 rfl ?_
                        refine s_iconst (v := (2 : Int32)) C dX13_execute_243 (by decide) ?_
                        refine s_callV C R0 (kX13_codeOf (xl X) n0 g0 p1 (2 : Int32)) (Nat.le_trans (by decide) V) mmX13_codeOf miX13_codeOf q2461 (rc26 (Nat.le_trans (by decide) V)) g0 rfl rfl rfl (Nat.le_of_ble_eq_true rfl) ⟨Nat.le_of_ble_eq_true rfl, Nat.le_of_ble_eq_true rfl, Nat.le_of_ble_eq_true rfl, Nat.le_of_ble_eq_true rfl⟩ dX13_execute_244 (fun x77 μ76 => ?_)
                        refine g_st (st' := [.int x77, .int x2, .int p1, .ref (xa X 26 n0)]) rfl ?_
                        refine s_callV C R0 (kX13_assign (xl X) n0 g0 p1 x2 x77) (Nat.le_trans (by decide) V) mmX13_assign miX13_assign q2556 (rc26 (Nat.le_trans (by decide) V)) g0 rfl rfl rfl (Nat.le_of_ble_eq_true rfl) ⟨Nat.le_of_ble_eq_true rfl, Nat.le_of_ble_eq_true rfl, Nat.le_of_ble_eq_true rfl, Nat.le_of_ble_eq_true rfl⟩ dX13_execute_247 (fun x79 μ78 => ?_)
                        refine g_st (st' := [.int x79]) rfl ?_
                        exact s_iret C E dX13_execute_250
                      ·
                        refine s_tout (tgt := 251) C dX13_execute_13 (by have := ine (i := 0) (by decide) c5; have := ine (i := 1) (by decide) c8; have := ine (i := 2) (by decide) c11; have := ine (i := 3) (by decide) c18; have := ine (i := 4) (by decide) c23; have := ine (i := 5) (by decide) c41; have := ine (i := 6) (by decide) c59; have := ine (i := 7) (by decide) c68; have := ine (i := 8) (by decide) c70; have := ine (i := 9) (by decide) c72; have := ine (i := 10) (by decide) c75; omega) (by decide) ?_
                        refine g_jn (P := fun j269 => ∀ (μ80 : Mem) (x81 : Int32), G X r0 0 0 μ80 269 [] [.int x81] (j269 μ80 x81)) ?_ (fun j269 hj269 => ?_)
                        · intro μ80 x81
                          exact s_iret C E dX13_execute_269
                        refine s_aload_n C dX13_execute_251 rfl 1 rfl ?_
                        refine s_getI C (fgX13_296_26 (Nat.le_trans (by decide) V)) g0 dX13_execute_252 ?_
                        refine s_iload_n C dX13_execute_255 rfl 2 rfl ?_
                        refine s_icmp_ne (tgt := 268) C dX13_execute_256 (by decide) (fun c82 => ?_) (fun c82 => ?_)
                        ·
                          refine s_iconst (v := (4 : Int32)) C dX13_execute_268 (by decide) ?_
                          exact g_sub [] rfl (hj269 μ3 (4 : Int32))
                        ·
                          refine s_aload_n C dX13_execute_259 rfl 1 rfl ?_
                          refine s_iload_n C dX13_execute_260 rfl 2 rfl ?_
                          refine s_iload_n C dX13_execute_261 rfl 0 rfl ?_
                          refine s_callV C R0 (kX13_access (xl X) fu n0 g0 p1 x2) (Nat.le_trans (by decide) V) mmX13_access miX13_access q2560 (rc26 (Nat.le_trans (by decide) V)) g0 rfl rfl rfl (Nat.le_of_ble_eq_true rfl) ⟨Nat.le_of_ble_eq_true rfl, Nat.le_of_ble_eq_true rfl, Nat.le_of_ble_eq_true rfl, Nat.le_of_ble_eq_true rfl⟩ dX13_execute_262 (fun x84 μ83 => ?_)
                          refine g_st (st' := [.int x84]) rfl ?_
                          refine s_goto (tgt := 269) C dX13_execute_265 (by decide) ?_
                          exact g_sub [] rfl (hj269 μ83 x84)
/-! PinEngines$ProgramReader.readEngine()V -/
def fX5_readEngine (fu : Nat) (n0 : Nat) (μ : Mem) : Option (Unit × Mem) :=
  jn (fun (μ1 : Mem) =>
    jn (lp (fun _ _ _ => none) fu (fun j79 (μ2 : Mem) (a3 : Nat) (x5 : Int32) =>
      jn (fun (μ6 : Mem) =>
        some ((), μ6)
      ) fun j116 =>
      if (1000 : Int32) ≤ x5 then (
        j116 μ2
      ) else (
        bnd (fX11_atRole 0 (2 : Int32) μ2) fun x9 μ8 =>
        if x9 = 0 then (
          j116 μ8
        ) else (
          bnd (fX11_takeRole 0 (2 : Int32) μ8) fun a12 μ11 =>
          ckB a12 74 <|
          bnd (fX5_readSetting fu n0 a3 a12 μ11) fun _ μ14 =>
          nm (x5 + (1 : Int32)) fun x15 =>
          j79 μ14 a3 x15
        )
      )
    )) fun j79 =>
    nm (μ1.2.1 10 n0 1) fun a16 =>
    ckB a16 2 <|
    bnd (fX11_takeNumber 0 (0 : Int32) (3 : Int32) μ1) fun x19 μ18 =>
    ckI x19 (4) <|
    ckZ (1 : Int32) <|
    nm (wI μ18 8 (4 * a16 + x19.toNatClampNeg) 0 (1 : Int32)) fun μ22 =>
    bnd (fX11_expect 0 13 μ22) fun _ μ23 =>
    bnd (fX5_takeName fu n0 μ23) fun x25 μ24 =>
    nm (wI μ24 8 (4 * a16 + x19.toNatClampNeg) 1 x25) fun μ26 =>
    j79 μ26 (4 * a16 + x19.toNatClampNeg) (0 : Int32)
  ) fun j36 =>
  bnd (fX11_atNumberBelow 0 (4 : Int32) μ) fun x28 μ27 =>
  if x28 = 0 then (
    j36 μ27
  ) else (
    nm (μ27.2.1 10 n0 1) fun a30 =>
    ckB a30 2 <|
    bnd (fX11_number 0 μ27) fun x33 μ32 =>
    bnd (fX4_hasEngine a30 x33 μ32) fun x35 μ34 =>
    if x35 = 0 then (
      j36 μ34
    ) else (
      bnd (fX11_fail 0 (4 : Int32) μ34) fun _ μ37 =>
      j36 μ37
    )
  )
set_option maxHeartbeats 4000000 in
set_option maxRecDepth 100000 in
theorem kX5_readEngine (l : Launch) (fu : Nat) (n0 : Nat) (g0 : n0 < 1) : Kon 0 l yX5_readEngine cX5_readEngine 3 (none) 4 92 0 0 (fun ad => [.ref (ad 10 n0)]) rvV (fun μ => fX5_readEngine fu n0 μ) := by
  refine kon_of (by decide) (fun _ => Nat.le_of_ble_eq_true rfl) (fun X r0 μ hXl hXn V C E => ?_)
  have hN : ∀ i : Nat, i < 3 → i < xn X := fun i h => hXn.symm ▸ h
  have R0 := fen_rm E
  show G X r0 0 0 μ 0 [(0, .ref (xa X 10 n0))] [] (fX5_readEngine fu n0 μ)
  unfold fX5_readEngine
  refine g_jn (P := fun j36 => ∀ (μ1 : Mem), G X r0 0 0 μ1 36 [(0, .ref (xa X 10 n0))] [] (j36 μ1)) ?_ (fun j36 hj36 => ?_)
  · intro μ1
    refine g_jl (P := fun j79 => ∀ (μ2 : Mem) (a3 : Nat) (x5 : Int32), a3 < 8 → G X r0 0 0 μ2 79 [(0, .ref (xa X 10 n0)), (1, .ref (xa X 8 a3)), (2, .int x5)] [] (j79 μ2 a3 x5)) (fun _ _ _ _ => g_none) (fun j79 hj79 => ?_) (fun j79 hj79 => ?_)
    · intro μ2 a3 x5 b4
      refine g_jn (P := fun j116 => ∀ (μ6 : Mem), G X r0 0 0 μ6 116 [] [] (j116 μ6)) ?_ (fun j116 hj116 => ?_)
      · intro μ6
        exact s_vret C E dX5_readEngine_116
      refine s_iload_n C dX5_readEngine_79 rfl 2 rfl ?_
      refine s_sipush (v := (1000 : Int32)) C dX5_readEngine_80 (by decide) ?_
      refine s_icmp_ge (tgt := 116) C dX5_readEngine_83 (by decide) (fun c7 => ?_) (fun c7 => ?_)
      ·
        exact g_sub [] rfl (hj116 μ2)
      ·
        refine s_aload_n C dX5_readEngine_86 rfl 0 rfl ?_
        refine s_getF C (fgX5_26_10 _) g0 dX5_readEngine_87 ?_
        refine s_iconst (v := (2 : Int32)) C dX5_readEngine_90 (by decide) ?_
        refine s_callV C R0 (kX11_atRole (xl X) 0 (by decide) (2 : Int32)) (Nat.le_trans (by decide) V) mmX11_atRole miX11_atRole q1102 (rc2 _) (by decide) rfl rfl rfl (Nat.le_of_ble_eq_true rfl) ⟨Nat.le_of_ble_eq_true rfl, Nat.le_of_ble_eq_true rfl, Nat.le_of_ble_eq_true rfl, Nat.le_of_ble_eq_true rfl⟩ dX5_readEngine_91 (fun x9 μ8 => ?_)
        refine g_st (st' := [.int x9]) rfl ?_
        refine s_if_eq (tgt := 116) C dX5_readEngine_94 (by decide) (fun c10 => ?_) (fun c10 => ?_)
        ·
          exact g_sub [] rfl (hj116 μ8)
        ·
          refine s_aload_n C dX5_readEngine_97 rfl 0 rfl ?_
          refine s_aload_n C dX5_readEngine_98 rfl 1 rfl ?_
          refine s_aload_n C dX5_readEngine_99 rfl 0 rfl ?_
          refine s_getF C (fgX5_26_10 _) g0 dX5_readEngine_100 ?_
          refine s_iconst (v := (2 : Int32)) C dX5_readEngine_103 (by decide) ?_
          refine s_callV C R0 (kX11_takeRole (xl X) 0 (by decide) (2 : Int32)) (Nat.le_trans (by decide) V) mmX11_takeRole miX11_takeRole q1106 (rc2 _) (by decide) rfl rfl rfl (Nat.le_of_ble_eq_true rfl) ⟨Nat.le_of_ble_eq_true rfl, Nat.le_of_ble_eq_true rfl, Nat.le_of_ble_eq_true rfl, Nat.le_of_ble_eq_true rfl⟩ dX5_readEngine_104 (fun a12 μ11 => ?_)
          refine g_st (st' := [.ref (xa X 50 a12), .ref (xa X 8 a3), .ref (xa X 10 n0)]) rfl ?_
          refine g_ckB (fun b13 => ?_)
          refine s_callV C R0 (kX5_readSetting (xl X) fu n0 g0 a3 b4 a12 b13) (Nat.le_trans (by decide) V) mmX5_readSetting miX5_readSetting q1116 (rc10 _) g0 rfl rfl rfl (Nat.le_of_ble_eq_true rfl) ⟨Nat.le_of_ble_eq_true rfl, Nat.le_of_ble_eq_true rfl, Nat.le_of_ble_eq_true rfl, Nat.le_of_ble_eq_true rfl⟩ dX5_readEngine_107 (fun _ μ14 => ?_)
          refine g_st (st' := []) rfl ?_
          refine g_nmQ (fun x15 ex15 => ?_)
          refine s_iinc (v := x15) (j := 2) (L' := [(2, .int x15), (0, .ref (xa X 10 n0)), (1, .ref (xa X 8 a3))]) C dX5_readEngine_110 rfl (by rw [ex15]; rfl) (hN 2 (by decide)) rfl ?_
          refine s_goto (tgt := 79) C dX5_readEngine_113 (by decide) ?_
          exact g_sub [1, 2, 0] rfl (hj79 μ14 a3 x15 b4)
    refine s_aload_n C dX5_readEngine_36 rfl 0 rfl ?_
    refine s_getM C (fgX5_30_10 _) g0 dX5_readEngine_37 ?_
    refine g_nmA (fun a16 => ?_)
    refine g_ckB (fun b17 => ?_)
    refine s_getF C (fgX5_103_5 _) b17 dX5_readEngine_40 ?_
    refine s_aload_n C dX5_readEngine_43 rfl 0 rfl ?_
    refine s_getF C (fgX5_26_10 _) g0 dX5_readEngine_44 ?_
    refine s_iconst (v := (0 : Int32)) C dX5_readEngine_47 (by decide) ?_
    refine s_iconst (v := (3 : Int32)) C dX5_readEngine_48 (by decide) ?_
    refine s_callV C R0 (kX11_takeNumber (xl X) 0 (by decide) (0 : Int32) (3 : Int32)) (Nat.le_trans (by decide) V) mmX11_takeNumber miX11_takeNumber q1077 (rc2 _) (by decide) rfl rfl rfl (Nat.le_of_ble_eq_true rfl) ⟨Nat.le_of_ble_eq_true rfl, Nat.le_of_ble_eq_true rfl, Nat.le_of_ble_eq_true rfl, Nat.le_of_ble_eq_true rfl⟩ dX5_readEngine_49 (fun x19 μ18 => ?_)
    refine g_st (st' := [.int x19, .ref (xa X 6 a16)]) rfl ?_
    refine s_aaldF C (ag6 _) (fun _ => rfl) b17 dX5_readEngine_52 (fun c20 => ?_)
    have b21 : 4 * a16 + x19.toNatClampNeg < 8 := by have := c20; omega
    refine s_astore_n (L' := [(1, .ref (xa X 8 (4 * a16 + x19.toNatClampNeg))), (0, .ref (xa X 10 n0))]) C dX5_readEngine_53 rfl (hN 1 (by decide)) rfl ?_
    refine s_aload_n C dX5_readEngine_54 rfl 0 rfl ?_
    refine s_iconst (v := (1 : Int32)) C dX5_readEngine_55 (by decide) ?_
    refine s_putZ C (fpX5_111_8 _) b21 dX5_readEngine_56 ?_
    refine g_nmM (fun μ22 => ?_)
    refine s_aload_n C dX5_readEngine_59 rfl 1 rfl ?_
    refine s_getF C (fgX5_26_10 _) g0 dX5_readEngine_60 ?_
    refine s_gsym (i := 13) C (by decide) rfl q1082 dX5_readEngine_63 ?_
    refine s_callV C R0 (kX11_expect (xl X) 0 (by decide) 13 (by decide)) (Nat.le_trans (by decide) V) mmX11_expect miX11_expect q1084 (rc2 _) (by decide) rfl rfl rfl (Nat.le_of_ble_eq_true rfl) ⟨Nat.le_of_ble_eq_true rfl, Nat.le_of_ble_eq_true rfl, Nat.le_of_ble_eq_true rfl, Nat.le_of_ble_eq_true rfl⟩ dX5_readEngine_66 (fun _ μ23 => ?_)
    refine g_st (st' := []) rfl ?_
    refine s_aload_n C dX5_readEngine_69 rfl 0 rfl ?_
    refine s_aload_n C dX5_readEngine_70 rfl 1 rfl ?_
    refine s_callV C R0 (kX5_takeName (xl X) fu n0 g0) (Nat.le_trans (by decide) V) mmX5_takeName miX5_takeName q1089 (rc10 _) g0 rfl rfl rfl (Nat.le_of_ble_eq_true rfl) ⟨Nat.le_of_ble_eq_true rfl, Nat.le_of_ble_eq_true rfl, Nat.le_of_ble_eq_true rfl, Nat.le_of_ble_eq_true rfl⟩ dX5_readEngine_71 (fun x25 μ24 => ?_)
    refine g_st (st' := [.int x25, .ref (xa X 8 (4 * a16 + x19.toNatClampNeg))]) rfl ?_
    refine s_putI C (fpX5_122_8 _) b21 dX5_readEngine_74 ?_
    refine g_nmM (fun μ26 => ?_)
    refine s_iconst (v := (0 : Int32)) C dX5_readEngine_77 (by decide) ?_
    refine s_istore_n (L' := [(2, .int (0 : Int32)), (1, .ref (xa X 8 (4 * a16 + x19.toNatClampNeg))), (0, .ref (xa X 10 n0))]) C dX5_readEngine_78 rfl (hN 2 (by decide)) rfl ?_
    exact g_sub [2, 1, 0] rfl (hj79 μ26 (4 * a16 + x19.toNatClampNeg) (0 : Int32) b21)
  refine s_aload_n C dX5_readEngine_0 rfl 0 rfl ?_
  refine s_getF C (fgX5_26_10 _) g0 dX5_readEngine_1 ?_
  refine s_iconst (v := (4 : Int32)) C dX5_readEngine_4 (by decide) ?_
  refine s_callV C R0 (kX11_atNumberBelow (xl X) 0 (by decide) (4 : Int32)) (Nat.le_trans (by decide) V) mmX11_atNumberBelow miX11_atNumberBelow q1061 (rc2 _) (by decide) rfl rfl rfl (Nat.le_of_ble_eq_true rfl) ⟨Nat.le_of_ble_eq_true rfl, Nat.le_of_ble_eq_true rfl, Nat.le_of_ble_eq_true rfl, Nat.le_of_ble_eq_true rfl⟩ dX5_readEngine_5 (fun x28 μ27 => ?_)
  refine g_st (st' := [.int x28]) rfl ?_
  refine s_if_eq (tgt := 36) C dX5_readEngine_8 (by decide) (fun c29 => ?_) (fun c29 => ?_)
  ·
    exact g_sub [0] rfl (hj36 μ27)
  ·
    refine s_aload_n C dX5_readEngine_11 rfl 0 rfl ?_
    refine s_getM C (fgX5_30_10 _) g0 dX5_readEngine_12 ?_
    refine g_nmA (fun a30 => ?_)
    refine g_ckB (fun b31 => ?_)
    refine s_aload_n C dX5_readEngine_15 rfl 0 rfl ?_
    refine s_getF C (fgX5_26_10 _) g0 dX5_readEngine_16 ?_
    refine s_callV C R0 (kX11_number (xl X) 0 (by decide)) (Nat.le_trans (by decide) V) mmX11_number miX11_number q1065 (rc2 _) (by decide) rfl rfl rfl (Nat.le_of_ble_eq_true rfl) ⟨Nat.le_of_ble_eq_true rfl, Nat.le_of_ble_eq_true rfl, Nat.le_of_ble_eq_true rfl, Nat.le_of_ble_eq_true rfl⟩ dX5_readEngine_19 (fun x33 μ32 => ?_)
    refine g_st (st' := [.int x33, .ref (xa X 5 a30)]) rfl ?_
    refine s_callV C R0 (kX4_hasEngine (xl X) a30 b31 x33) (Nat.le_trans (by decide) V) mmX4_hasEngine miX4_hasEngine q1069 (rc5 _) b31 rfl rfl rfl (Nat.le_of_ble_eq_true rfl) ⟨Nat.le_of_ble_eq_true rfl, Nat.le_of_ble_eq_true rfl, Nat.le_of_ble_eq_true rfl, Nat.le_of_ble_eq_true rfl⟩ dX5_readEngine_22 (fun x35 μ34 => ?_)
    refine g_st (st' := [.int x35]) rfl ?_
    refine s_if_eq (tgt := 36) C dX5_readEngine_25 (by decide) (fun c36 => ?_) (fun c36 => ?_)
    ·
      exact g_sub [0] rfl (hj36 μ34)
    ·
      refine s_aload_n C dX5_readEngine_28 rfl 0 rfl ?_
      refine s_getF C (fgX5_26_10 _) g0 dX5_readEngine_29 ?_
      refine s_iconst (v := (4 : Int32)) C dX5_readEngine_32 (by decide) ?_
      refine s_callV C R0 (kX11_fail (xl X) 0 (by decide) (4 : Int32)) (Nat.le_trans (by decide) V) mmX11_fail miX11_fail q1073 (rc2 _) (by decide) rfl rfl rfl (Nat.le_of_ble_eq_true rfl) ⟨Nat.le_of_ble_eq_true rfl, Nat.le_of_ble_eq_true rfl, Nat.le_of_ble_eq_true rfl, Nat.le_of_ble_eq_true rfl⟩ dX5_readEngine_33 (fun _ μ37 => ?_)
      refine g_st (st' := []) rfl ?_
      exact g_sub [0] rfl (hj36 μ37)
/-! PinEngines$ProgramReader.readLabel()V -/
def fX5_readLabel (fu : Nat) (n0 : Nat) (μ : Mem) : Option (Unit × Mem) :=
  bnd (fX11_at 0 2 μ) fun x2 μ1 =>
  if ¬ x2 = 0 then (
    jn (fun (μ4 : Mem) =>
      bnd (fX11_skip 0 2 μ4) fun x6 μ5 =>
      bnd (fX11_expect 0 5 μ5) fun _ μ7 =>
      some ((), μ7)
    ) fun j25 =>
    if ¬ (μ1.1 10 n0 2) = 0 then (
      j25 μ1
    ) else (
      bnd (fX5_defineLabel fu n0 μ1) fun _ μ9 =>
      j25 μ9
    )
  ) else (
    some ((), μ1)
  )
set_option maxHeartbeats 4000000 in
set_option maxRecDepth 100000 in
theorem kX5_readLabel (l : Launch) (fu : Nat) (n0 : Nat) (g0 : n0 < 1) : Kon 0 l yX5_readLabel cX5_readLabel 1 (none) 3 64 0 0 (fun ad => [.ref (ad 10 n0)]) rvV (fun μ => fX5_readLabel fu n0 μ) := by
  refine kon_of (by decide) (fun _ => Nat.le_of_ble_eq_true rfl) (fun X r0 μ hXl hXn V C E => ?_)
  have hN : ∀ i : Nat, i < 1 → i < xn X := fun i h => hXn.symm ▸ h
  have R0 := fen_rm E
  show G X r0 0 0 μ 0 [(0, .ref (xa X 10 n0))] [] (fX5_readLabel fu n0 μ)
  unfold fX5_readLabel
  refine s_aload_n C dX5_readLabel_0 rfl 0 rfl ?_
  refine s_getF C (fgX5_26_10 _) g0 dX5_readLabel_1 ?_
  refine s_gsym (i := 2) C (by decide) rfl q1093 dX5_readLabel_4 ?_
  refine s_callV C R0 (kX11_at (xl X) 0 (by decide) 2 (by decide)) (Nat.le_trans (by decide) V) mmX11_at miX11_at q1046 (rc2 _) (by decide) rfl rfl rfl (Nat.le_of_ble_eq_true rfl) ⟨Nat.le_of_ble_eq_true rfl, Nat.le_of_ble_eq_true rfl, Nat.le_of_ble_eq_true rfl, Nat.le_of_ble_eq_true rfl⟩ dX5_readLabel_7 (fun x2 μ1 => ?_)
  refine g_st (st' := [.int x2]) rfl ?_
  refine s_if_ne (tgt := 14) C dX5_readLabel_10 (by decide) (fun c3 => ?_) (fun c3 => ?_)
  ·
    refine g_jn (P := fun j25 => ∀ (μ4 : Mem), G X r0 0 0 μ4 25 [(0, .ref (xa X 10 n0))] [] (j25 μ4)) ?_ (fun j25 hj25 => ?_)
    · intro μ4
      refine s_aload_n C dX5_readLabel_25 rfl 0 rfl ?_
      refine s_getF C (fgX5_26_10 _) g0 dX5_readLabel_26 ?_
      refine s_gsym (i := 2) C (by decide) rfl q1093 dX5_readLabel_29 ?_
      refine s_callV C R0 (kX11_skip (xl X) 0 (by decide) 2 (by decide)) (Nat.le_trans (by decide) V) mmX11_skip miX11_skip q1052 (rc2 _) (by decide) rfl rfl rfl (Nat.le_of_ble_eq_true rfl) ⟨Nat.le_of_ble_eq_true rfl, Nat.le_of_ble_eq_true rfl, Nat.le_of_ble_eq_true rfl, Nat.le_of_ble_eq_true rfl⟩ dX5_readLabel_32 (fun x6 μ5 => ?_)
      refine g_st (st' := [.int x6]) rfl ?_
      refine s_pop C dX5_readLabel_35 rfl ?_
      refine s_aload_n C dX5_readLabel_36 rfl 0 rfl ?_
      refine s_getF C (fgX5_26_10 _) g0 dX5_readLabel_37 ?_
      refine s_gsym (i := 5) C (by decide) rfl q1158 dX5_readLabel_40 ?_
      refine s_callV C R0 (kX11_expect (xl X) 0 (by decide) 5 (by decide)) (Nat.le_trans (by decide) V) mmX11_expect miX11_expect q1084 (rc2 _) (by decide) rfl rfl rfl (Nat.le_of_ble_eq_true rfl) ⟨Nat.le_of_ble_eq_true rfl, Nat.le_of_ble_eq_true rfl, Nat.le_of_ble_eq_true rfl, Nat.le_of_ble_eq_true rfl⟩ dX5_readLabel_43 (fun _ μ7 => ?_)
      refine g_st (st' := []) rfl ?_
      exact s_vret C E dX5_readLabel_46
    refine s_aload_n C dX5_readLabel_14 rfl 0 rfl ?_
    refine s_getI C (fgX5_9_10 _) g0 dX5_readLabel_15 ?_
    refine s_if_ne (tgt := 25) C dX5_readLabel_18 (by decide) (fun c8 => ?_) (fun c8 => ?_)
    ·
      exact g_sub [0] rfl (hj25 μ1)
    ·
      refine s_aload_n C dX5_readLabel_21 rfl 0 rfl ?_
      refine s_callV C R0 (kX5_defineLabel (xl X) fu n0 g0) (Nat.le_trans (by decide) V) mmX5_defineLabel miX5_defineLabel q1154 (rc10 _) g0 rfl rfl rfl (Nat.le_of_ble_eq_true rfl) ⟨Nat.le_of_ble_eq_true rfl, Nat.le_of_ble_eq_true rfl, Nat.le_of_ble_eq_true rfl, Nat.le_of_ble_eq_true rfl⟩ dX5_readLabel_22 (fun _ μ9 => ?_)
      refine g_st (st' := []) rfl ?_
      exact g_sub [0] rfl (hj25 μ9)
  ·
    exact s_vret C E dX5_readLabel_13
