/-! PinEngines.errorPosition()I -/
def fX12_errorPosition (n0 : Nat) (μ : Mem) : Option (Int32 × Mem) :=
  some ((μ.1 0 n0 2), μ)
set_option maxHeartbeats 4000000 in
set_option maxRecDepth 100000 in
theorem kX12_errorPosition (l : Launch) (n0 : Nat) (g0 : n0 < 1) : Kon l yX12_errorPosition cX12_errorPosition 1 (some .int) 0 0 0 0 (fun ad => [.ref (ad 0 n0)]) rvI (fun μ => fX12_errorPosition n0 μ) := by
  refine kon_of (by decide) (fun _ => Nat.le_of_ble_eq_true rfl) (fun X r0 μ hXl hXn C E => ?_)
  have hN : ∀ i : Nat, i < 1 → i < xn X := fun i h => hXn.symm ▸ h
  show G X r0 0 0 μ 0 [(0, .ref (xa X 0 n0))] [] (fX12_errorPosition n0 μ)
  unfold fX12_errorPosition
  refine s_aload_n C dX12_errorPosition_0 rfl 0 rfl ?_
  refine s_getI C fgX12_17_0 g0 dX12_errorPosition_1 ?_
  exact s_iret C E dX12_errorPosition_4
/-! PinEngines.instructionCount()I -/
def fX12_instructionCount (n0 : Nat) (μ : Mem) : Option (Int32 × Mem) :=
  nm (μ.2.1 0 n0 4) fun a1 =>
  ckB a1 2 <|
  some ((μ.1 5 a1 0), μ)
set_option maxHeartbeats 4000000 in
set_option maxRecDepth 100000 in
theorem kX12_instructionCount (l : Launch) (n0 : Nat) (g0 : n0 < 1) : Kon l yX12_instructionCount cX12_instructionCount 1 (some .int) 0 0 0 0 (fun ad => [.ref (ad 0 n0)]) rvI (fun μ => fX12_instructionCount n0 μ) := by
  refine kon_of (by decide) (fun _ => Nat.le_of_ble_eq_true rfl) (fun X r0 μ hXl hXn C E => ?_)
  have hN : ∀ i : Nat, i < 1 → i < xn X := fun i h => hXn.symm ▸ h
  show G X r0 0 0 μ 0 [(0, .ref (xa X 0 n0))] [] (fX12_instructionCount n0 μ)
  unfold fX12_instructionCount
  refine s_aload_n C dX12_instructionCount_0 rfl 0 rfl ?_
  refine s_getM C fgX12_32_0 g0 dX12_instructionCount_1 ?_
  refine g_nmA (fun a1 => ?_)
  refine g_ckB (fun b2 => ?_)
  refine s_getI C fgX12_124_5 b2 dX12_instructionCount_4 ?_
  exact s_iret C E dX12_instructionCount_7
/-! PinEngines.clock()I -/
def fX12_clock (n0 : Nat) (μ : Mem) : Option (Int32 × Mem) :=
  some ((μ.1 12 0 0), μ)
set_option maxHeartbeats 4000000 in
set_option maxRecDepth 100000 in
theorem kX12_clock (l : Launch) (n0 : Nat) (g0 : n0 < 1) : Kon l yX12_clock cX12_clock 1 (some .int) 0 0 0 0 (fun ad => [.ref (ad 0 n0)]) rvI (fun μ => fX12_clock n0 μ) := by
  refine kon_of (by decide) (fun _ => Nat.le_of_ble_eq_true rfl) (fun X r0 μ hXl hXn C E => ?_)
  have hN : ∀ i : Nat, i < 1 → i < xn X := fun i h => hXn.symm ▸ h
  show G X r0 0 0 μ 0 [(0, .ref (xa X 0 n0))] [] (fX12_clock n0 μ)
  unfold fX12_clock
  refine s_aload_n C dX12_clock_0 rfl 0 rfl ?_
  refine s_getF C fgX12_51_0 g0 dX12_clock_1 ?_
  refine s_getI C fgX12_131_12 (by decide) dX12_clock_4 ?_
  exact s_iret C E dX12_clock_7
/-! PinEngines.portOwner()I -/
def fX12_portOwner (n0 : Nat) (μ : Mem) : Option (Int32 × Mem) :=
  some ((μ.1 12 0 5), μ)
set_option maxHeartbeats 4000000 in
set_option maxRecDepth 100000 in
theorem kX12_portOwner (l : Launch) (n0 : Nat) (g0 : n0 < 1) : Kon l yX12_portOwner cX12_portOwner 1 (some .int) 0 0 0 0 (fun ad => [.ref (ad 0 n0)]) rvI (fun μ => fX12_portOwner n0 μ) := by
  refine kon_of (by decide) (fun _ => Nat.le_of_ble_eq_true rfl) (fun X r0 μ hXl hXn C E => ?_)
  have hN : ∀ i : Nat, i < 1 → i < xn X := fun i h => hXn.symm ▸ h
  show G X r0 0 0 μ 0 [(0, .ref (xa X 0 n0))] [] (fX12_portOwner n0 μ)
  unfold fX12_portOwner
  refine s_aload_n C dX12_portOwner_0 rfl 0 rfl ?_
  refine s_getF C fgX12_51_0 g0 dX12_portOwner_1 ?_
  refine s_getI C fgX12_159_12 (by decide) dX12_portOwner_4 ?_
  exact s_iret C E dX12_portOwner_7
/-! PinEngines.undoCount()I -/
def fX12_undoCount (n0 : Nat) (μ : Mem) : Option (Int32 × Mem) :=
  some ((μ.1 0 n0 15), μ)
set_option maxHeartbeats 4000000 in
set_option maxRecDepth 100000 in
theorem kX12_undoCount (l : Launch) (n0 : Nat) (g0 : n0 < 1) : Kon l yX12_undoCount cX12_undoCount 1 (some .int) 0 0 0 0 (fun ad => [.ref (ad 0 n0)]) rvI (fun μ => fX12_undoCount n0 μ) := by
  refine kon_of (by decide) (fun _ => Nat.le_of_ble_eq_true rfl) (fun X r0 μ hXl hXn C E => ?_)
  have hN : ∀ i : Nat, i < 1 → i < xn X := fun i h => hXn.symm ▸ h
  show G X r0 0 0 μ 0 [(0, .ref (xa X 0 n0))] [] (fX12_undoCount n0 μ)
  unfold fX12_undoCount
  refine s_aload_n C dX12_undoCount_0 rfl 0 rfl ?_
  refine s_getI C fgX12_90_0 g0 dX12_undoCount_1 ?_
  exact s_iret C E dX12_undoCount_4
/-! PinEngines.appendBytes(I)V -/
def fX12_appendBytes (fu : Nat) (n0 : Nat) (p1 : Int32) (μ : Mem) : Option (Unit × Mem) :=
  jn (lp (fun _ _ => none) fu (fun j3 (μ1 : Mem) (x2 : Int32) =>
    if x2 < 0 then (
      some ((), μ1)
    ) else (
      jn (fun (μ4 : Mem) (x5 : Int32) =>
        nm (x5 + (-8 : Int32)) fun x6 =>
        j3 μ4 x6
      ) fun j40 =>
      if (1000 : Int32) ≤ (μ1.1 0 n0 1) then (
        j40 μ1 x2
      ) else (
        ckI (μ1.1 0 n0 1) (1000) <|
        nm (wI μ1 1 0 (μ1.1 0 n0 1).toNatClampNeg (vp_nar .byte ((p1 >>> (x2 &&& 31)).toInt8.toInt32))) fun μ8 =>
        nm (wI μ8 0 n0 1 ((μ8.1 0 n0 1) + (1 : Int32))) fun μ9 =>
        j40 μ9 x2
      )
    )
  )) fun j3 =>
  j3 μ (24 : Int32)
set_option maxHeartbeats 4000000 in
set_option maxRecDepth 100000 in
theorem kX12_appendBytes (l : Launch) (fu : Nat) (n0 : Nat) (g0 : n0 < 1) (p1 : Int32) : Kon l yX12_appendBytes cX12_appendBytes 3 (none) 0 0 0 0 (fun ad => [.ref (ad 0 n0), .int p1]) rvV (fun μ => fX12_appendBytes fu n0 p1 μ) := by
  refine kon_of (by decide) (fun _ => Nat.le_of_ble_eq_true rfl) (fun X r0 μ hXl hXn C E => ?_)
  have hN : ∀ i : Nat, i < 3 → i < xn X := fun i h => hXn.symm ▸ h
  show G X r0 0 0 μ 0 [(0, .ref (xa X 0 n0)), (1, .int p1)] [] (fX12_appendBytes fu n0 p1 μ)
  unfold fX12_appendBytes
  refine g_jn (P := fun j3 => ∀ (μ1 : Mem) (x2 : Int32), G X r0 0 0 μ1 3 [(0, .ref (xa X 0 n0)), (1, .int p1), (2, .int x2)] [] (j3 μ1 x2)) (g_lp (fun _ _ => g_none) (fun j3 hj3 => ?_) _) (fun j3 hj3 => ?_)
  · intro μ1 x2
    refine s_iload_n C dX12_appendBytes_3 rfl 2 rfl ?_
    refine s_if_lt C dX12_appendBytes_4 (by decide) (fun c3 => ?_) (fun c3 => ?_)
    ·
      exact s_vret C E dX12_appendBytes_46
    ·
      refine g_jn (P := fun j40 => ∀ (μ4 : Mem) (x5 : Int32), G X r0 0 0 μ4 40 [(0, .ref (xa X 0 n0)), (1, .int p1), (2, .int x5)] [] (j40 μ4 x5)) ?_ (fun j40 hj40 => ?_)
      · intro μ4 x5
        refine g_nmQ (fun x6 ex6 => ?_)
        refine s_iinc (v := x6) (j := 2) (L' := [(2, .int x6), (0, .ref (xa X 0 n0)), (1, .int p1)]) C dX12_appendBytes_40 rfl (by rw [ex6]; rfl) (hN 2 (by decide)) rfl ?_
        refine s_goto C dX12_appendBytes_43 (by decide) ?_
        exact g_sub [1, 2, 0] rfl (hj3 μ4 x6)
      refine s_aload_n C dX12_appendBytes_7 rfl 0 rfl ?_
      refine s_getI C fgX12_13_0 g0 dX12_appendBytes_8 ?_
      refine s_sipush (v := (1000 : Int32)) C dX12_appendBytes_11 (by decide) ?_
      refine s_icmp_ge C dX12_appendBytes_14 (by decide) (fun c7 => ?_) (fun c7 => ?_)
      ·
        exact g_sub [0, 1, 2] rfl (hj40 μ1 x2)
      ·
        refine s_aload_n C dX12_appendBytes_17 rfl 0 rfl ?_
        refine s_getF C fgX12_9_0 g0 dX12_appendBytes_18 ?_
        refine s_aload_n C dX12_appendBytes_21 rfl 0 rfl ?_
        refine s_getI C fgX12_13_0 g0 dX12_appendBytes_22 ?_
        refine s_iload_n C dX12_appendBytes_25 rfl 1 rfl ?_
        refine s_iload_n C dX12_appendBytes_26 rfl 2 rfl ?_
        refine s_ishr C dX12_appendBytes_27 ?_
        refine s_i2b C dX12_appendBytes_28 ?_
        refine s_bast C ag1 (by decide) dX12_appendBytes_29 ?_
        refine g_nmM (fun μ8 => ?_)
        refine s_aload_n C dX12_appendBytes_30 rfl 0 rfl ?_
        refine s_dup C dX12_appendBytes_31 rfl ?_
        refine s_getI C fgX12_13_0 g0 dX12_appendBytes_32 ?_
        refine s_iconst (v := (1 : Int32)) C dX12_appendBytes_35 (by decide) ?_
        refine s_iadd C dX12_appendBytes_36 ?_
        refine s_putI C fpX12_13_0 g0 dX12_appendBytes_37 ?_
        refine g_nmM (fun μ9 => ?_)
        exact g_sub [0, 1, 2] rfl (hj40 μ9 x2)
  refine s_bipush (v := (24 : Int32)) C dX12_appendBytes_0 (by decide) ?_
  refine s_istore_n (L' := [(2, .int (24 : Int32)), (0, .ref (xa X 0 n0)), (1, .int p1)]) C dX12_appendBytes_2 rfl (hN 2 (by decide)) rfl ?_
  exact g_sub [1, 2, 0] rfl (hj3 μ (24 : Int32))
/-! PinEngines.firstEngine(I)I -/
def fX12_firstEngine (fu : Nat) (p0 : Int32) (μ : Mem) : Option (Int32 × Mem) :=
  jn (lp (fun _ _ => none) fu (fun j2 (μ1 : Mem) (x2 : Int32) =>
    if (4 : Int32) ≤ x2 then (
      some ((-1 : Int32), μ1)
    ) else (
      if ¬ ((p0 >>> (x2 &&& 31)) &&& (1 : Int32)) = (1 : Int32) then (
        nm (x2 + (1 : Int32)) fun x5 =>
        j2 μ1 x5
      ) else (
        some (x2, μ1)
      )
    )
  )) fun j2 =>
  j2 μ (0 : Int32)
set_option maxHeartbeats 4000000 in
set_option maxRecDepth 100000 in
theorem kX12_firstEngine (l : Launch) (fu : Nat) (p0 : Int32) : Kon l yX12_firstEngine cX12_firstEngine 2 (some .int) 0 0 0 0 (fun _ => [.int p0]) rvI (fun μ => fX12_firstEngine fu p0 μ) := by
  refine kon_of (by decide) (fun _ => Nat.le_of_ble_eq_true rfl) (fun X r0 μ hXl hXn C E => ?_)
  have hN : ∀ i : Nat, i < 2 → i < xn X := fun i h => hXn.symm ▸ h
  show G X r0 0 0 μ 0 [(0, .int p0)] [] (fX12_firstEngine fu p0 μ)
  unfold fX12_firstEngine
  refine g_jn (P := fun j2 => ∀ (μ1 : Mem) (x2 : Int32), G X r0 0 0 μ1 2 [(0, .int p0), (1, .int x2)] [] (j2 μ1 x2)) (g_lp (fun _ _ => g_none) (fun j2 hj2 => ?_) _) (fun j2 hj2 => ?_)
  · intro μ1 x2
    refine s_iload_n C dX12_firstEngine_2 rfl 1 rfl ?_
    refine s_iconst (v := (4 : Int32)) C dX12_firstEngine_3 (by decide) ?_
    refine s_icmp_ge C dX12_firstEngine_4 (by decide) (fun c3 => ?_) (fun c3 => ?_)
    ·
      refine s_iconst (v := (-1 : Int32)) C dX12_firstEngine_24 (by decide) ?_
      exact s_iret C E dX12_firstEngine_25
    ·
      refine s_iload_n C dX12_firstEngine_7 rfl 0 rfl ?_
      refine s_iload_n C dX12_firstEngine_8 rfl 1 rfl ?_
      refine s_ishr C dX12_firstEngine_9 ?_
      refine s_iconst (v := (1 : Int32)) C dX12_firstEngine_10 (by decide) ?_
      refine s_iand C dX12_firstEngine_11 ?_
      refine s_iconst (v := (1 : Int32)) C dX12_firstEngine_12 (by decide) ?_
      refine s_icmp_ne C dX12_firstEngine_13 (by decide) (fun c4 => ?_) (fun c4 => ?_)
      ·
        refine g_nmQ (fun x5 ex5 => ?_)
        refine s_iinc (v := x5) (j := 1) (L' := [(1, .int x5), (0, .int p0)]) C dX12_firstEngine_18 rfl (by rw [ex5]; rfl) (hN 1 (by decide)) rfl ?_
        refine s_goto C dX12_firstEngine_21 (by decide) ?_
        exact g_sub [1, 0] rfl (hj2 μ1 x5)
      ·
        refine s_iload_n C dX12_firstEngine_16 rfl 1 rfl ?_
        exact s_iret C E dX12_firstEngine_17
  refine s_iconst (v := (0 : Int32)) C dX12_firstEngine_0 (by decide) ?_
  refine s_istore_n (L' := [(1, .int (0 : Int32)), (0, .int p0)]) C dX12_firstEngine_1 rfl (hN 1 (by decide)) rfl ?_
  exact g_sub [1, 0] rfl (hj2 μ (0 : Int32))
/-! PinEngines.unsigned(I)J -/
def fX12_unsigned (p0 : Int32) (μ : Mem) : Option (Int64 × Mem) :=
  some (((p0.toInt64) &&& (4294967295 : Int64)), μ)
set_option maxHeartbeats 4000000 in
set_option maxRecDepth 100000 in
theorem kX12_unsigned (l : Launch) (p0 : Int32) : Kon l yX12_unsigned cX12_unsigned 1 (some .long) 0 0 0 0 (fun _ => [.int p0]) rvJ (fun μ => fX12_unsigned p0 μ) := by
  refine kon_of (by decide) (fun _ => Nat.le_of_ble_eq_true rfl) (fun X r0 μ hXl hXn C E => ?_)
  have hN : ∀ i : Nat, i < 1 → i < xn X := fun i h => hXn.symm ▸ h
  show G X r0 0 0 μ 0 [(0, .int p0)] [] (fX12_unsigned p0 μ)
  unfold fX12_unsigned
  refine s_iload_n C dX12_unsigned_0 rfl 0 rfl ?_
  refine s_i2l C dX12_unsigned_1 ?_
  refine s_ldc2 (v := (4294967295 : Int64)) C q1346 dX12_unsigned_2 ?_
  refine s_land C dX12_unsigned_5 ?_
  exact s_lret C E dX12_unsigned_6
/-! PinEngines.rotatedPins(II)I -/
def fX12_rotatedPins (p0 : Int32) (p1 : Int32) (μ : Mem) : Option (Int32 × Mem) :=
  nm ((p0 &&& (65535 : Int32))) fun x1 =>
  some ((((x1 <<< (p1 &&& 31)) ||| ((x1.toUInt32 >>> (((16 : Int32) - p1).toUInt32 &&& Int32.toUInt32 31)).toInt32)) &&& (65535 : Int32)), μ)
set_option maxHeartbeats 4000000 in
set_option maxRecDepth 100000 in
theorem kX12_rotatedPins (l : Launch) (p0 : Int32) (p1 : Int32) : Kon l yX12_rotatedPins cX12_rotatedPins 3 (some .int) 0 0 0 0 (fun _ => [.int p0, .int p1]) rvI (fun μ => fX12_rotatedPins p0 p1 μ) := by
  refine kon_of (by decide) (fun _ => Nat.le_of_ble_eq_true rfl) (fun X r0 μ hXl hXn C E => ?_)
  have hN : ∀ i : Nat, i < 3 → i < xn X := fun i h => hXn.symm ▸ h
  show G X r0 0 0 μ 0 [(0, .int p0), (1, .int p1)] [] (fX12_rotatedPins p0 p1 μ)
  unfold fX12_rotatedPins
  refine s_iload_n C dX12_rotatedPins_0 rfl 0 rfl ?_
  refine s_ldcw (v := (65535 : Int32)) C q1139 dX12_rotatedPins_1 ?_
  refine s_iand C dX12_rotatedPins_4 ?_
  refine g_nmI (fun x1 => ?_)
  refine s_istore_n (L' := [(2, .int x1), (0, .int p0), (1, .int p1)]) C dX12_rotatedPins_5 rfl (hN 2 (by decide)) rfl ?_
  refine s_iload_n C dX12_rotatedPins_6 rfl 0 rfl ?_
  refine s_iload_n C dX12_rotatedPins_7 rfl 2 rfl ?_
  refine s_ishl C dX12_rotatedPins_8 ?_
  refine s_iload_n C dX12_rotatedPins_9 rfl 0 rfl ?_
  refine s_bipush (v := (16 : Int32)) C dX12_rotatedPins_10 (by decide) ?_
  refine s_iload_n C dX12_rotatedPins_12 rfl 2 rfl ?_
  refine s_isub C dX12_rotatedPins_13 ?_
  refine s_iushr C dX12_rotatedPins_14 ?_
  refine s_ior C dX12_rotatedPins_15 ?_
  refine s_ldcw (v := (65535 : Int32)) C q1139 dX12_rotatedPins_16 ?_
  refine s_iand C dX12_rotatedPins_19 ?_
  exact s_iret C E dX12_rotatedPins_20
/-! PinEnginesModel.thrown()I -/
def fX13_thrown (n0 : Nat) (μ : Mem) : Option (Int32 × Mem) :=
  some ((μ.1 26 n0 6), μ)
set_option maxHeartbeats 4000000 in
set_option maxRecDepth 100000 in
theorem kX13_thrown (l : Launch) (n0 : Nat) (g0 : n0 < 1) : Kon l yX13_thrown cX13_thrown 1 (some .int) 0 0 0 0 (fun ad => [.ref (ad 26 n0)]) rvI (fun μ => fX13_thrown n0 μ) := by
  refine kon_of (by decide) (fun _ => Nat.le_of_ble_eq_true rfl) (fun X r0 μ hXl hXn C E => ?_)
  have hN : ∀ i : Nat, i < 1 → i < xn X := fun i h => hXn.symm ▸ h
  show G X r0 0 0 μ 0 [(0, .ref (xa X 26 n0))] [] (fX13_thrown n0 μ)
  unfold fX13_thrown
  refine s_aload_n C dX13_thrown_0 rfl 0 rfl ?_
  refine s_getI C fgX13_231_26 g0 dX13_thrown_1 ?_
  exact s_iret C E dX13_thrown_4
/-! PinEnginesModel.raise(I)I -/
def fX13_raise (n0 : Nat) (p1 : Int32) (μ : Mem) : Option (Int32 × Mem) :=
  nm (wI μ 26 n0 6 p1) fun μ1 =>
  some ((0 : Int32), μ1)
set_option maxHeartbeats 4000000 in
set_option maxRecDepth 100000 in
theorem kX13_raise (l : Launch) (n0 : Nat) (g0 : n0 < 1) (p1 : Int32) : Kon l yX13_raise cX13_raise 2 (some .int) 0 0 0 0 (fun ad => [.ref (ad 26 n0), .int p1]) rvI (fun μ => fX13_raise n0 p1 μ) := by
  refine kon_of (by decide) (fun _ => Nat.le_of_ble_eq_true rfl) (fun X r0 μ hXl hXn C E => ?_)
  have hN : ∀ i : Nat, i < 2 → i < xn X := fun i h => hXn.symm ▸ h
  show G X r0 0 0 μ 0 [(0, .ref (xa X 26 n0)), (1, .int p1)] [] (fX13_raise n0 p1 μ)
  unfold fX13_raise
  refine s_aload_n C dX13_raise_0 rfl 0 rfl ?_
  refine s_iload_n C dX13_raise_1 rfl 1 rfl ?_
  refine s_putI C fpX13_231_26 g0 dX13_raise_2 ?_
  refine g_nmM (fun μ1 => ?_)
  refine s_iconst (v := (0 : Int32)) C dX13_raise_5 (by decide) ?_
  exact s_iret C E dX13_raise_6
/-! PinEnginesModel.inRange(III)Z -/
def fX13_inRange (p0 : Int32) (p1 : Int32) (p2 : Int32) (μ : Mem) : Option (Int32 × Mem) :=
  jn (fun (μ1 : Mem) (x2 : Int32) =>
    ckZ x2 (some (x2, μ1))
  ) fun j15 =>
  jn (fun (μ3 : Mem) =>
    j15 μ3 (0 : Int32)
  ) fun j14 =>
  if p0 < p1 then (
    j14 μ
  ) else (
    if p2 < p0 then (
      j14 μ
    ) else (
      j15 μ (1 : Int32)
    )
  )
set_option maxHeartbeats 4000000 in
set_option maxRecDepth 100000 in
theorem kX13_inRange (l : Launch) (p0 : Int32) (p1 : Int32) (p2 : Int32) : Kon l yX13_inRange cX13_inRange 3 (some .boolean) 0 0 0 0 (fun _ => [.int p0, .int p1, .int p2]) rvI (fun μ => fX13_inRange p0 p1 p2 μ) := by
  refine kon_of (by decide) (fun _ => Nat.le_of_ble_eq_true rfl) (fun X r0 μ hXl hXn C E => ?_)
  have hN : ∀ i : Nat, i < 3 → i < xn X := fun i h => hXn.symm ▸ h
  show G X r0 0 0 μ 0 [(0, .int p0), (1, .int p1), (2, .int p2)] [] (fX13_inRange p0 p1 p2 μ)
  unfold fX13_inRange
  refine g_jn (P := fun j15 => ∀ (μ1 : Mem) (x2 : Int32), G X r0 0 0 μ1 15 [] [.int x2] (j15 μ1 x2)) ?_ (fun j15 hj15 => ?_)
  · intro μ1 x2
    exact s_zret C E dX13_inRange_15
  refine g_jn (P := fun j14 => ∀ (μ3 : Mem), G X r0 0 0 μ3 14 [] [] (j14 μ3)) ?_ (fun j14 hj14 => ?_)
  · intro μ3
    refine s_iconst (v := (0 : Int32)) C dX13_inRange_14 (by decide) ?_
    exact g_sub [] rfl (hj15 μ3 (0 : Int32))
  refine s_iload_n C dX13_inRange_0 rfl 0 rfl ?_
  refine s_iload_n C dX13_inRange_1 rfl 1 rfl ?_
  refine s_icmp_lt C dX13_inRange_2 (by decide) (fun c4 => ?_) (fun c4 => ?_)
  ·
    exact g_sub [] rfl (hj14 μ)
  ·
    refine s_iload_n C dX13_inRange_5 rfl 0 rfl ?_
    refine s_iload_n C dX13_inRange_6 rfl 2 rfl ?_
    refine s_icmp_gt C dX13_inRange_7 (by decide) (fun c5 => ?_) (fun c5 => ?_)
    ·
      exact g_sub [] rfl (hj14 μ)
    ·
      refine s_iconst (v := (1 : Int32)) C dX13_inRange_10 (by decide) ?_
      refine s_goto C dX13_inRange_11 (by decide) ?_
      exact g_sub [] rfl (hj15 μ (1 : Int32))
/-! PinEnginesModel.clear([I)V -/
def fX13_clear (fu : Nat) (n0 : Nat) (μ : Mem) : Option (Unit × Mem) :=
  jn (lp (fun _ _ => none) fu (fun j2 (μ1 : Mem) (x2 : Int32) =>
    if (700 : Int32) ≤ x2 then (
      ckI (2 : Int32) (if n0 = 4 then 7000 else 700) <|
      nm (wI μ1 27 n0 (2 : Int32).toNatClampNeg (-1 : Int32)) fun μ4 =>
      some ((), μ4)
    ) else (
      ckI x2 (if n0 = 4 then 7000 else 700) <|
      nm (wI μ1 27 n0 x2.toNatClampNeg (0 : Int32)) fun μ5 =>
      nm (x2 + (1 : Int32)) fun x6 =>
      j2 μ5 x6
    )
  )) fun j2 =>
  j2 μ (0 : Int32)
set_option maxHeartbeats 4000000 in
set_option maxRecDepth 100000 in
theorem kX13_clear (l : Launch) (fu : Nat) (n0 : Nat) (g0 : n0 < 5) : Kon l yX13_clear cX13_clear 2 (none) 0 0 0 0 (fun ad => [.ref (ad 27 n0)]) rvV (fun μ => fX13_clear fu n0 μ) := by
  refine kon_of (by decide) (fun _ => Nat.le_of_ble_eq_true rfl) (fun X r0 μ hXl hXn C E => ?_)
  have hN : ∀ i : Nat, i < 2 → i < xn X := fun i h => hXn.symm ▸ h
  show G X r0 0 0 μ 0 [(0, .ref (xa X 27 n0))] [] (fX13_clear fu n0 μ)
  unfold fX13_clear
  refine g_jn (P := fun j2 => ∀ (μ1 : Mem) (x2 : Int32), G X r0 0 0 μ1 2 [(0, .ref (xa X 27 n0)), (1, .int x2)] [] (j2 μ1 x2)) (g_lp (fun _ _ => g_none) (fun j2 hj2 => ?_) _) (fun j2 hj2 => ?_)
  · intro μ1 x2
    refine s_iload_n C dX13_clear_2 rfl 1 rfl ?_
    refine s_sipush (v := (700 : Int32)) C dX13_clear_3 (by decide) ?_
    refine s_icmp_ge C dX13_clear_6 (by decide) (fun c3 => ?_) (fun c3 => ?_)
    ·
      refine s_aload_n C dX13_clear_19 rfl 0 rfl ?_
      refine s_iconst (v := (2 : Int32)) C dX13_clear_20 (by decide) ?_
      refine s_iconst (v := (-1 : Int32)) C dX13_clear_21 (by decide) ?_
      refine s_iast C ag27 g0 dX13_clear_22 ?_
      refine g_nmM (fun μ4 => ?_)
      exact s_vret C E dX13_clear_23
    ·
      refine s_aload_n C dX13_clear_9 rfl 0 rfl ?_
      refine s_iload_n C dX13_clear_10 rfl 1 rfl ?_
      refine s_iconst (v := (0 : Int32)) C dX13_clear_11 (by decide) ?_
      refine s_iast C ag27 g0 dX13_clear_12 ?_
      refine g_nmM (fun μ5 => ?_)
      refine g_nmQ (fun x6 ex6 => ?_)
      refine s_iinc (v := x6) (j := 1) (L' := [(1, .int x6), (0, .ref (xa X 27 n0))]) C dX13_clear_13 rfl (by rw [ex6]; rfl) (hN 1 (by decide)) rfl ?_
      refine s_goto C dX13_clear_16 (by decide) ?_
      exact g_sub [1, 0] rfl (hj2 μ5 x6)
  refine s_iconst (v := (0 : Int32)) C dX13_clear_0 (by decide) ?_
  refine s_istore_n (L' := [(1, .int (0 : Int32)), (0, .ref (xa X 27 n0))]) C dX13_clear_1 rfl (hN 1 (by decide)) rfl ?_
  exact g_sub [1, 0] rfl (hj2 μ (0 : Int32))
/-! PinEnginesModel.ofPin(II)I -/
def fX13_ofPin (n0 : Nat) (p1 : Int32) (p2 : Int32) (μ : Mem) : Option (Int32 × Mem) :=
  ckI (((4 : Int32) + ((6 : Int32) * p1)) + p2) (if 0 = 4 then 7000 else 700) <|
  some ((μ.1 27 0 (((4 : Int32) + ((6 : Int32) * p1)) + p2).toNatClampNeg), μ)
set_option maxHeartbeats 4000000 in
set_option maxRecDepth 100000 in
theorem kX13_ofPin (l : Launch) (n0 : Nat) (g0 : n0 < 1) (p1 : Int32) (p2 : Int32) : Kon l yX13_ofPin cX13_ofPin 3 (some .int) 0 0 0 0 (fun ad => [.ref (ad 26 n0), .int p1, .int p2]) rvI (fun μ => fX13_ofPin n0 p1 p2 μ) := by
  refine kon_of (by decide) (fun _ => Nat.le_of_ble_eq_true rfl) (fun X r0 μ hXl hXn C E => ?_)
  have hN : ∀ i : Nat, i < 3 → i < xn X := fun i h => hXn.symm ▸ h
  show G X r0 0 0 μ 0 [(0, .ref (xa X 26 n0)), (1, .int p1), (2, .int p2)] [] (fX13_ofPin n0 p1 p2 μ)
  unfold fX13_ofPin
  refine s_aload_n C dX13_ofPin_0 rfl 0 rfl ?_
  refine s_getF C fgX13_9_26 g0 dX13_ofPin_1 ?_
  refine s_iconst (v := (4 : Int32)) C dX13_ofPin_4 (by decide) ?_
  refine s_bipush (v := (6 : Int32)) C dX13_ofPin_5 (by decide) ?_
  refine s_iload_n C dX13_ofPin_7 rfl 1 rfl ?_
  refine s_imul C dX13_ofPin_8 ?_
  refine s_iadd C dX13_ofPin_9 ?_
  refine s_iload_n C dX13_ofPin_10 rfl 2 rfl ?_
  refine s_iadd C dX13_ofPin_11 ?_
  refine s_iald C ag27 (by decide) dX13_ofPin_12 ?_
  exact s_iret C E dX13_ofPin_13
/-! PinEnginesModel.putPin(III)V -/
def fX13_putPin (n0 : Nat) (p1 : Int32) (p2 : Int32) (p3 : Int32) (μ : Mem) : Option (Unit × Mem) :=
  ckI (((4 : Int32) + ((6 : Int32) * p1)) + p2) (if 0 = 4 then 7000 else 700) <|
  nm (wI μ 27 0 (((4 : Int32) + ((6 : Int32) * p1)) + p2).toNatClampNeg p3) fun μ1 =>
  some ((), μ1)
set_option maxHeartbeats 4000000 in
set_option maxRecDepth 100000 in
theorem kX13_putPin (l : Launch) (n0 : Nat) (g0 : n0 < 1) (p1 : Int32) (p2 : Int32) (p3 : Int32) : Kon l yX13_putPin cX13_putPin 4 (none) 0 0 0 0 (fun ad => [.ref (ad 26 n0), .int p1, .int p2, .int p3]) rvV (fun μ => fX13_putPin n0 p1 p2 p3 μ) := by
  refine kon_of (by decide) (fun _ => Nat.le_of_ble_eq_true rfl) (fun X r0 μ hXl hXn C E => ?_)
  have hN : ∀ i : Nat, i < 4 → i < xn X := fun i h => hXn.symm ▸ h
  show G X r0 0 0 μ 0 [(0, .ref (xa X 26 n0)), (1, .int p1), (2, .int p2), (3, .int p3)] [] (fX13_putPin n0 p1 p2 p3 μ)
  unfold fX13_putPin
  refine s_aload_n C dX13_putPin_0 rfl 0 rfl ?_
  refine s_getF C fgX13_9_26 g0 dX13_putPin_1 ?_
  refine s_iconst (v := (4 : Int32)) C dX13_putPin_4 (by decide) ?_
  refine s_bipush (v := (6 : Int32)) C dX13_putPin_5 (by decide) ?_
  refine s_iload_n C dX13_putPin_7 rfl 1 rfl ?_
  refine s_imul C dX13_putPin_8 ?_
  refine s_iadd C dX13_putPin_9 ?_
  refine s_iload_n C dX13_putPin_10 rfl 2 rfl ?_
  refine s_iadd C dX13_putPin_11 ?_
  refine s_iload_n C dX13_putPin_12 rfl 3 rfl ?_
  refine s_iast C ag27 (by decide) dX13_putPin_13 ?_
  refine g_nmM (fun μ1 => ?_)
  exact s_vret C E dX13_putPin_14
/-! PinEnginesModel.of(II)I -/
def fX13_of (n0 : Nat) (p1 : Int32) (p2 : Int32) (μ : Mem) : Option (Int32 × Mem) :=
  ckI (((560 : Int32) + ((35 : Int32) * p1)) + p2) (if 0 = 4 then 7000 else 700) <|
  some ((μ.1 27 0 (((560 : Int32) + ((35 : Int32) * p1)) + p2).toNatClampNeg), μ)
set_option maxHeartbeats 4000000 in
set_option maxRecDepth 100000 in
theorem kX13_of (l : Launch) (n0 : Nat) (g0 : n0 < 1) (p1 : Int32) (p2 : Int32) : Kon l yX13_of cX13_of 3 (some .int) 0 0 0 0 (fun ad => [.ref (ad 26 n0), .int p1, .int p2]) rvI (fun μ => fX13_of n0 p1 p2 μ) := by
  refine kon_of (by decide) (fun _ => Nat.le_of_ble_eq_true rfl) (fun X r0 μ hXl hXn C E => ?_)
  have hN : ∀ i : Nat, i < 3 → i < xn X := fun i h => hXn.symm ▸ h
  show G X r0 0 0 μ 0 [(0, .ref (xa X 26 n0)), (1, .int p1), (2, .int p2)] [] (fX13_of n0 p1 p2 μ)
  unfold fX13_of
  refine s_aload_n C dX13_of_0 rfl 0 rfl ?_
  refine s_getF C fgX13_9_26 g0 dX13_of_1 ?_
  refine s_sipush (v := (560 : Int32)) C dX13_of_4 (by decide) ?_
  refine s_bipush (v := (35 : Int32)) C dX13_of_7 (by decide) ?_
  refine s_iload_n C dX13_of_9 rfl 1 rfl ?_
  refine s_imul C dX13_of_10 ?_
  refine s_iadd C dX13_of_11 ?_
  refine s_iload_n C dX13_of_12 rfl 2 rfl ?_
  refine s_iadd C dX13_of_13 ?_
  refine s_iald C ag27 (by decide) dX13_of_14 ?_
  exact s_iret C E dX13_of_15
/-! PinEnginesModel.set(III)V -/
def fX13_set (n0 : Nat) (p1 : Int32) (p2 : Int32) (p3 : Int32) (μ : Mem) : Option (Unit × Mem) :=
  ckI (((560 : Int32) + ((35 : Int32) * p1)) + p2) (if 0 = 4 then 7000 else 700) <|
  nm (wI μ 27 0 (((560 : Int32) + ((35 : Int32) * p1)) + p2).toNatClampNeg p3) fun μ1 =>
  some ((), μ1)
set_option maxHeartbeats 4000000 in
set_option maxRecDepth 100000 in
theorem kX13_set (l : Launch) (n0 : Nat) (g0 : n0 < 1) (p1 : Int32) (p2 : Int32) (p3 : Int32) : Kon l yX13_set cX13_set 4 (none) 0 0 0 0 (fun ad => [.ref (ad 26 n0), .int p1, .int p2, .int p3]) rvV (fun μ => fX13_set n0 p1 p2 p3 μ) := by
  refine kon_of (by decide) (fun _ => Nat.le_of_ble_eq_true rfl) (fun X r0 μ hXl hXn C E => ?_)
  have hN : ∀ i : Nat, i < 4 → i < xn X := fun i h => hXn.symm ▸ h
  show G X r0 0 0 μ 0 [(0, .ref (xa X 26 n0)), (1, .int p1), (2, .int p2), (3, .int p3)] [] (fX13_set n0 p1 p2 p3 μ)
  unfold fX13_set
  refine s_aload_n C dX13_set_0 rfl 0 rfl ?_
  refine s_getF C fgX13_9_26 g0 dX13_set_1 ?_
  refine s_sipush (v := (560 : Int32)) C dX13_set_4 (by decide) ?_
  refine s_bipush (v := (35 : Int32)) C dX13_set_7 (by decide) ?_
  refine s_iload_n C dX13_set_9 rfl 1 rfl ?_
  refine s_imul C dX13_set_10 ?_
  refine s_iadd C dX13_set_11 ?_
  refine s_iload_n C dX13_set_12 rfl 2 rfl ?_
  refine s_iadd C dX13_set_13 ?_
  refine s_iload_n C dX13_set_14 rfl 3 rfl ?_
  refine s_iast C ag27 (by decide) dX13_set_15 ?_
  refine g_nmM (fun μ1 => ?_)
  exact s_vret C E dX13_set_16
/-! PinEnginesModel.add(III)V -/
def fX13_add (n0 : Nat) (p1 : Int32) (p2 : Int32) (p3 : Int32) (μ : Mem) : Option (Unit × Mem) :=
  ckI (((560 : Int32) + ((35 : Int32) * p1)) + p2) (if 0 = 4 then 7000 else 700) <|
  ckI (((560 : Int32) + ((35 : Int32) * p1)) + p2) (if 0 = 4 then 7000 else 700) <|
  nm (wI μ 27 0 (((560 : Int32) + ((35 : Int32) * p1)) + p2).toNatClampNeg ((μ.1 27 0 (((560 : Int32) + ((35 : Int32) * p1)) + p2).toNatClampNeg) + p3)) fun μ1 =>
  some ((), μ1)
set_option maxHeartbeats 4000000 in
set_option maxRecDepth 100000 in
theorem kX13_add (l : Launch) (n0 : Nat) (g0 : n0 < 1) (p1 : Int32) (p2 : Int32) (p3 : Int32) : Kon l yX13_add cX13_add 4 (none) 0 0 0 0 (fun ad => [.ref (ad 26 n0), .int p1, .int p2, .int p3]) rvV (fun μ => fX13_add n0 p1 p2 p3 μ) := by
  refine kon_of (by decide) (fun _ => Nat.le_of_ble_eq_true rfl) (fun X r0 μ hXl hXn C E => ?_)
  have hN : ∀ i : Nat, i < 4 → i < xn X := fun i h => hXn.symm ▸ h
  show G X r0 0 0 μ 0 [(0, .ref (xa X 26 n0)), (1, .int p1), (2, .int p2), (3, .int p3)] [] (fX13_add n0 p1 p2 p3 μ)
  unfold fX13_add
  refine s_aload_n C dX13_add_0 rfl 0 rfl ?_
  refine s_getF C fgX13_9_26 g0 dX13_add_1 ?_
  refine s_sipush (v := (560 : Int32)) C dX13_add_4 (by decide) ?_
  refine s_bipush (v := (35 : Int32)) C dX13_add_7 (by decide) ?_
  refine s_iload_n C dX13_add_9 rfl 1 rfl ?_
  refine s_imul C dX13_add_10 ?_
  refine s_iadd C dX13_add_11 ?_
  refine s_iload_n C dX13_add_12 rfl 2 rfl ?_
  refine s_iadd C dX13_add_13 ?_
  refine s_dup2 C dX13_add_14 rfl rfl ?_
  refine s_iald C ag27 (by decide) dX13_add_15 ?_
  refine s_iload_n C dX13_add_16 rfl 3 rfl ?_
  refine s_iadd C dX13_add_17 ?_
  refine s_iast C ag27 (by decide) dX13_add_18 ?_
  refine g_nmM (fun μ1 => ?_)
  exact s_vret C E dX13_add_19
/-! PinEnginesModel.note(II)V -/
def fX13_note (n0 : Nat) (p1 : Int32) (p2 : Int32) (μ : Mem) : Option (Unit × Mem) :=
  bnd (fX13_add n0 p1 ((29 : Int32) + p2) (1 : Int32) μ) fun _ μ1 =>
  some ((), μ1)
set_option maxHeartbeats 4000000 in
set_option maxRecDepth 100000 in
theorem kX13_note (l : Launch) (n0 : Nat) (g0 : n0 < 1) (p1 : Int32) (p2 : Int32) : Kon l yX13_note cX13_note 3 (none) 1 23 0 0 (fun ad => [.ref (ad 26 n0), .int p1, .int p2]) rvV (fun μ => fX13_note n0 p1 p2 μ) := by
  refine kon_of (by decide) (fun _ => Nat.le_of_ble_eq_true rfl) (fun X r0 μ hXl hXn C E => ?_)
  have hN : ∀ i : Nat, i < 3 → i < xn X := fun i h => hXn.symm ▸ h
  show G X r0 0 0 μ 0 [(0, .ref (xa X 26 n0)), (1, .int p1), (2, .int p2)] [] (fX13_note n0 p1 p2 μ)
  unfold fX13_note
  refine s_aload_n C dX13_note_0 rfl 0 rfl ?_
  refine s_iload_n C dX13_note_1 rfl 1 rfl ?_
  refine s_bipush (v := (29 : Int32)) C dX13_note_2 (by decide) ?_
  refine s_iload_n C dX13_note_4 rfl 2 rfl ?_
  refine s_iadd C dX13_note_5 ?_
  refine s_iconst (v := (1 : Int32)) C dX13_note_6 (by decide) ?_
  refine s_callV C E (kX13_add (xl X) n0 g0 p1 ((29 : Int32) + p2) (1 : Int32)) mmX13_add miX13_add q2387 rc26 g0 rfl rfl rfl (Nat.le_of_ble_eq_true rfl) ⟨Nat.le_of_ble_eq_true rfl, Nat.le_of_ble_eq_true rfl, Nat.le_of_ble_eq_true rfl, Nat.le_of_ble_eq_true rfl⟩ dX13_note_7 (fun _ μ1 => ?_)
  refine g_st (st' := []) rfl ?_
  exact s_vret C E dX13_note_10
/-! PinEnginesModel.setting(II)I -/
def fX13_setting (n0 : Nat) (p1 : Int32) (p2 : Int32) (μ : Mem) : Option (Int32 × Mem) :=
  ckI (((476 : Int32) + ((21 : Int32) * p1)) + p2) (if 0 = 4 then 7000 else 700) <|
  some ((μ.1 27 0 (((476 : Int32) + ((21 : Int32) * p1)) + p2).toNatClampNeg), μ)
set_option maxHeartbeats 4000000 in
set_option maxRecDepth 100000 in
theorem kX13_setting (l : Launch) (n0 : Nat) (g0 : n0 < 1) (p1 : Int32) (p2 : Int32) : Kon l yX13_setting cX13_setting 3 (some .int) 0 0 0 0 (fun ad => [.ref (ad 26 n0), .int p1, .int p2]) rvI (fun μ => fX13_setting n0 p1 p2 μ) := by
  refine kon_of (by decide) (fun _ => Nat.le_of_ble_eq_true rfl) (fun X r0 μ hXl hXn C E => ?_)
  have hN : ∀ i : Nat, i < 3 → i < xn X := fun i h => hXn.symm ▸ h
  show G X r0 0 0 μ 0 [(0, .ref (xa X 26 n0)), (1, .int p1), (2, .int p2)] [] (fX13_setting n0 p1 p2 μ)
  unfold fX13_setting
  refine s_aload_n C dX13_setting_0 rfl 0 rfl ?_
  refine s_getF C fgX13_9_26 g0 dX13_setting_1 ?_
  refine s_sipush (v := (476 : Int32)) C dX13_setting_4 (by decide) ?_
  refine s_bipush (v := (21 : Int32)) C dX13_setting_7 (by decide) ?_
  refine s_iload_n C dX13_setting_9 rfl 1 rfl ?_
  refine s_imul C dX13_setting_10 ?_
  refine s_iadd C dX13_setting_11 ?_
  refine s_iload_n C dX13_setting_12 rfl 2 rfl ?_
  refine s_iadd C dX13_setting_13 ?_
  refine s_iald C ag27 (by decide) dX13_setting_14 ?_
  exact s_iret C E dX13_setting_15
/-! PinEnginesModel.code(II)I -/
def fX13_code (n0 : Nat) (p1 : Int32) (p2 : Int32) (μ : Mem) : Option (Int32 × Mem) :=
  ckI (((284 : Int32) + ((6 : Int32) * p1)) + p2) (if 0 = 4 then 7000 else 700) <|
  some ((μ.1 27 0 (((284 : Int32) + ((6 : Int32) * p1)) + p2).toNatClampNeg), μ)
set_option maxHeartbeats 4000000 in
set_option maxRecDepth 100000 in
theorem kX13_code (l : Launch) (n0 : Nat) (g0 : n0 < 1) (p1 : Int32) (p2 : Int32) : Kon l yX13_code cX13_code 3 (some .int) 0 0 0 0 (fun ad => [.ref (ad 26 n0), .int p1, .int p2]) rvI (fun μ => fX13_code n0 p1 p2 μ) := by
  refine kon_of (by decide) (fun _ => Nat.le_of_ble_eq_true rfl) (fun X r0 μ hXl hXn C E => ?_)
  have hN : ∀ i : Nat, i < 3 → i < xn X := fun i h => hXn.symm ▸ h
  show G X r0 0 0 μ 0 [(0, .ref (xa X 26 n0)), (1, .int p1), (2, .int p2)] [] (fX13_code n0 p1 p2 μ)
  unfold fX13_code
  refine s_aload_n C dX13_code_0 rfl 0 rfl ?_
  refine s_getF C fgX13_9_26 g0 dX13_code_1 ?_
  refine s_sipush (v := (284 : Int32)) C dX13_code_4 (by decide) ?_
  refine s_bipush (v := (6 : Int32)) C dX13_code_7 (by decide) ?_
  refine s_iload_n C dX13_code_9 rfl 1 rfl ?_
  refine s_imul C dX13_code_10 ?_
  refine s_iadd C dX13_code_11 ?_
  refine s_iload_n C dX13_code_12 rfl 2 rfl ?_
  refine s_iadd C dX13_code_13 ?_
  refine s_iald C ag27 (by decide) dX13_code_14 ?_
  exact s_iret C E dX13_code_15
/-! PinEnginesModel.codeOf(II)I -/
def fX13_codeOf (n0 : Nat) (p1 : Int32) (p2 : Int32) (μ : Mem) : Option (Int32 × Mem) :=
  bnd (fX13_of n0 p1 (1 : Int32) μ) fun x2 μ1 =>
  bnd (fX13_code n0 x2 p2 μ1) fun x4 μ3 =>
  some (x4, μ3)
set_option maxHeartbeats 4000000 in
set_option maxRecDepth 100000 in
theorem kX13_codeOf (l : Launch) (n0 : Nat) (g0 : n0 < 1) (p1 : Int32) (p2 : Int32) : Kon l yX13_codeOf cX13_codeOf 3 (some .int) 1 22 0 0 (fun ad => [.ref (ad 26 n0), .int p1, .int p2]) rvI (fun μ => fX13_codeOf n0 p1 p2 μ) := by
  refine kon_of (by decide) (fun _ => Nat.le_of_ble_eq_true rfl) (fun X r0 μ hXl hXn C E => ?_)
  have hN : ∀ i : Nat, i < 3 → i < xn X := fun i h => hXn.symm ▸ h
  show G X r0 0 0 μ 0 [(0, .ref (xa X 26 n0)), (1, .int p1), (2, .int p2)] [] (fX13_codeOf n0 p1 p2 μ)
  unfold fX13_codeOf
  refine s_aload_n C dX13_codeOf_0 rfl 0 rfl ?_
  refine s_aload_n C dX13_codeOf_1 rfl 0 rfl ?_
  refine s_iload_n C dX13_codeOf_2 rfl 1 rfl ?_
  refine s_iconst (v := (1 : Int32)) C dX13_codeOf_3 (by decide) ?_
  refine s_callV C E (kX13_of (xl X) n0 g0 p1 (1 : Int32)) mmX13_of miX13_of q2307 rc26 g0 rfl rfl rfl (Nat.le_of_ble_eq_true rfl) ⟨Nat.le_of_ble_eq_true rfl, Nat.le_of_ble_eq_true rfl, Nat.le_of_ble_eq_true rfl, Nat.le_of_ble_eq_true rfl⟩ dX13_codeOf_4 (fun x2 μ1 => ?_)
  refine g_st (st' := [.int x2, .ref (xa X 26 n0)]) rfl ?_
  refine s_iload_n C dX13_codeOf_7 rfl 2 rfl ?_
  refine s_callV C E (kX13_code (xl X) n0 g0 x2 p2) mmX13_code miX13_code q2465 rc26 g0 rfl rfl rfl (Nat.le_of_ble_eq_true rfl) ⟨Nat.le_of_ble_eq_true rfl, Nat.le_of_ble_eq_true rfl, Nat.le_of_ble_eq_true rfl, Nat.le_of_ble_eq_true rfl⟩ dX13_codeOf_8 (fun x4 μ3 => ?_)
  refine g_st (st' := [.int x4]) rfl ?_
  exact s_iret C E dX13_codeOf_11
/-! PinEnginesModel.exists(I)Z -/
def fX13_exists (n0 : Nat) (p1 : Int32) (μ : Mem) : Option (Int32 × Mem) :=
  jn (fun (μ1 : Mem) (x2 : Int32) =>
    ckZ x2 (some (x2, μ1))
  ) fun j24 =>
  jn (fun (μ3 : Mem) =>
    j24 μ3 (0 : Int32)
  ) fun j23 =>
  bnd (fX13_inRange p1 (0 : Int32) (3 : Int32) μ) fun x5 μ4 =>
  if x5 = 0 then (
    j23 μ4
  ) else (
    bnd (fX13_setting n0 p1 (0 : Int32) μ4) fun x8 μ7 =>
    if ¬ x8 = (1 : Int32) then (
      j23 μ7
    ) else (
      j24 μ7 (1 : Int32)
    )
  )
set_option maxHeartbeats 4000000 in
set_option maxRecDepth 100000 in
theorem kX13_exists (l : Launch) (n0 : Nat) (g0 : n0 < 1) (p1 : Int32) : Kon l yX13_exists cX13_exists 2 (some .boolean) 1 22 0 0 (fun ad => [.ref (ad 26 n0), .int p1]) rvI (fun μ => fX13_exists n0 p1 μ) := by
  refine kon_of (by decide) (fun _ => Nat.le_of_ble_eq_true rfl) (fun X r0 μ hXl hXn C E => ?_)
  have hN : ∀ i : Nat, i < 2 → i < xn X := fun i h => hXn.symm ▸ h
  show G X r0 0 0 μ 0 [(0, .ref (xa X 26 n0)), (1, .int p1)] [] (fX13_exists n0 p1 μ)
  unfold fX13_exists
  refine g_jn (P := fun j24 => ∀ (μ1 : Mem) (x2 : Int32), G X r0 0 0 μ1 24 [] [.int x2] (j24 μ1 x2)) ?_ (fun j24 hj24 => ?_)
  · intro μ1 x2
    exact s_zret C E dX13_exists_24
  refine g_jn (P := fun j23 => ∀ (μ3 : Mem), G X r0 0 0 μ3 23 [] [] (j23 μ3)) ?_ (fun j23 hj23 => ?_)
  · intro μ3
    refine s_iconst (v := (0 : Int32)) C dX13_exists_23 (by decide) ?_
    exact g_sub [] rfl (hj24 μ3 (0 : Int32))
  refine s_iload_n C dX13_exists_0 rfl 1 rfl ?_
  refine s_iconst (v := (0 : Int32)) C dX13_exists_1 (by decide) ?_
  refine s_iconst (v := (3 : Int32)) C dX13_exists_2 (by decide) ?_
  refine s_callS C E (kX13_inRange (xl X) p1 (0 : Int32) (3 : Int32)) mmX13_inRange q2257 q2256 rfl rfl rfl rfl (Nat.le_of_ble_eq_true rfl) ⟨Nat.le_of_ble_eq_true rfl, Nat.le_of_ble_eq_true rfl, Nat.le_of_ble_eq_true rfl, Nat.le_of_ble_eq_true rfl⟩ dX13_exists_3 (fun x5 μ4 => ?_)
  refine g_st (st' := [.int x5]) rfl ?_
  refine s_if_eq C dX13_exists_6 (by decide) (fun c6 => ?_) (fun c6 => ?_)
  ·
    exact g_sub [] rfl (hj23 μ4)
  ·
    refine s_aload_n C dX13_exists_9 rfl 0 rfl ?_
    refine s_iload_n C dX13_exists_10 rfl 1 rfl ?_
    refine s_iconst (v := (0 : Int32)) C dX13_exists_11 (by decide) ?_
    refine s_callV C E (kX13_setting (xl X) n0 g0 p1 (0 : Int32)) mmX13_setting miX13_setting q2241 rc26 g0 rfl rfl rfl (Nat.le_of_ble_eq_true rfl) ⟨Nat.le_of_ble_eq_true rfl, Nat.le_of_ble_eq_true rfl, Nat.le_of_ble_eq_true rfl, Nat.le_of_ble_eq_true rfl⟩ dX13_exists_12 (fun x8 μ7 => ?_)
    refine g_st (st' := [.int x8]) rfl ?_
    refine s_iconst (v := (1 : Int32)) C dX13_exists_15 (by decide) ?_
    refine s_icmp_ne C dX13_exists_16 (by decide) (fun c9 => ?_) (fun c9 => ?_)
    ·
      exact g_sub [] rfl (hj23 μ7)
    ·
      refine s_iconst (v := (1 : Int32)) C dX13_exists_19 (by decide) ?_
      refine s_goto C dX13_exists_20 (by decide) ?_
      exact g_sub [] rfl (hj24 μ7 (1 : Int32))
/-! PinEnginesModel.isPin(I)Z -/
def fX13_isPin (p0 : Int32) (μ : Mem) : Option (Int32 × Mem) :=
  bnd (fX13_inRange p0 (0 : Int32) (15 : Int32) μ) fun x2 μ1 =>
  ckZ x2 (some (x2, μ1))
set_option maxHeartbeats 4000000 in
set_option maxRecDepth 100000 in
theorem kX13_isPin (l : Launch) (p0 : Int32) : Kon l yX13_isPin cX13_isPin 1 (some .boolean) 1 22 0 0 (fun _ => [.int p0]) rvI (fun μ => fX13_isPin p0 μ) := by
  refine kon_of (by decide) (fun _ => Nat.le_of_ble_eq_true rfl) (fun X r0 μ hXl hXn C E => ?_)
  have hN : ∀ i : Nat, i < 1 → i < xn X := fun i h => hXn.symm ▸ h
  show G X r0 0 0 μ 0 [(0, .int p0)] [] (fX13_isPin p0 μ)
  unfold fX13_isPin
  refine s_iload_n C dX13_isPin_0 rfl 0 rfl ?_
  refine s_iconst (v := (0 : Int32)) C dX13_isPin_1 (by decide) ?_
  refine s_bipush (v := (15 : Int32)) C dX13_isPin_2 (by decide) ?_
  refine s_callS C E (kX13_inRange (xl X) p0 (0 : Int32) (15 : Int32)) mmX13_inRange q2257 q2256 rfl rfl rfl rfl (Nat.le_of_ble_eq_true rfl) ⟨Nat.le_of_ble_eq_true rfl, Nat.le_of_ble_eq_true rfl, Nat.le_of_ble_eq_true rfl, Nat.le_of_ble_eq_true rfl⟩ dX13_isPin_4 (fun x2 μ1 => ?_)
  refine g_st (st' := [.int x2]) rfl ?_
  exact s_zret C E dX13_isPin_7
