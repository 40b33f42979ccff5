/-! PinEnginesModel.add(III)V -/
def fX13_add (n0 : Nat) (p1 : Int32) (p2 : Int32) (p3 : Int32) (μ : Mem) : Option (Unit × Mem) :=
  ckI (((560 : Int32) + ((35 : Int32) * p1)) + p2) (if 0 = 4 then 7000 else 700) <|
  ckI (((560 : Int32) + ((35 : Int32) * p1)) + p2) (if 0 = 4 then 7000 else 700) <|
  nm (wI μ 27 0 (((560 : Int32) + ((35 : Int32) * p1)) + p2).toNatClampNeg ((μ.1 27 0 (((560 : Int32) + ((35 : Int32) * p1)) + p2).toNatClampNeg) + p3)) fun μ1 =>
  some ((), μ1)
set_option maxHeartbeats 4000000 in
set_option maxRecDepth 100000 in
theorem kX13_add (l : Launch) (n0 : Nat) (g0 : n0 < 1) (p1 : Int32) (p2 : Int32) (p3 : Int32) : Kon 1 l yX13_add cX13_add 4 (none) 0 0 0 0 (fun ad => [.ref (ad 26 n0), .int p1, .int p2, .int p3]) rvV (fun μ => fX13_add n0 p1 p2 p3 μ) := by
  refine kon_of (by decide) (fun _ => Nat.le_of_ble_eq_true rfl) (fun X r0 μ hXl hXn V C E => ?_)
  have hN : ∀ i : Nat, i < 4 → i < xn X := fun i h => hXn.symm ▸ h
  have R0 := fen_rm E
  show G X r0 0 0 μ 0 [(0, .ref (xa X 26 n0)), (1, .int p1), (2, .int p2), (3, .int p3)] [] (fX13_add n0 p1 p2 p3 μ)
  unfold fX13_add
  refine s_aload_n C dX13_add_0 rfl 0 rfl ?_
  refine s_getF C (fgX13_9_26 (Nat.le_trans (by decide) V)) g0 dX13_add_1 ?_
  refine s_sipush (v := (560 : Int32)) C dX13_add_4 (by decide) ?_
  refine s_bipush (v := (35 : Int32)) C dX13_add_7 (by decide) ?_
  refine s_iload_n C dX13_add_9 rfl 1 rfl ?_
  refine s_imul C dX13_add_10 ?_
  refine s_iadd C dX13_add_11 ?_
  refine s_iload_n C dX13_add_12 rfl 2 rfl ?_
  refine s_iadd C dX13_add_13 ?_
  refine s_dup2 C dX13_add_14 rfl rfl ?_
  refine s_iald C (ag27 (Nat.le_trans (by decide) V)) (by decide) dX13_add_15 ?_
  refine s_iload_n C dX13_add_16 rfl 3 rfl ?_
  refine s_iadd C dX13_add_17 ?_
  refine s_iast C (ag27 (Nat.le_trans (by decide) V)) (by decide) dX13_add_18 ?_
  refine g_nmM (fun μ1 => ?_)
  exact s_vret C E dX13_add_19
/-! PinEnginesModel.note(II)V -/
def fX13_note (n0 : Nat) (p1 : Int32) (p2 : Int32) (μ : Mem) : Option (Unit × Mem) :=
  bnd (fX13_add n0 p1 ((29 : Int32) + p2) (1 : Int32) μ) fun _ μ1 =>
  some ((), μ1)
set_option maxHeartbeats 4000000 in
set_option maxRecDepth 100000 in
theorem kX13_note (l : Launch) (n0 : Nat) (g0 : n0 < 1) (p1 : Int32) (p2 : Int32) : Kon 1 l yX13_note cX13_note 3 (none) 1 23 0 0 (fun ad => [.ref (ad 26 n0), .int p1, .int p2]) rvV (fun μ => fX13_note n0 p1 p2 μ) := by
  refine kon_of (by decide) (fun _ => Nat.le_of_ble_eq_true rfl) (fun X r0 μ hXl hXn V C E => ?_)
  have hN : ∀ i : Nat, i < 3 → i < xn X := fun i h => hXn.symm ▸ h
  have R0 := fen_rm E
  show G X r0 0 0 μ 0 [(0, .ref (xa X 26 n0)), (1, .int p1), (2, .int p2)] [] (fX13_note n0 p1 p2 μ)
  unfold fX13_note
  refine s_aload_n C dX13_note_0 rfl 0 rfl ?_
  refine s_iload_n C dX13_note_1 rfl 1 rfl ?_
  refine s_bipush (v := (29 : Int32)) C dX13_note_2 (by decide) ?_
  refine s_iload_n C dX13_note_4 rfl 2 rfl ?_
  refine s_iadd C dX13_note_5 ?_
  refine s_iconst (v := (1 : Int32)) C dX13_note_6 (by decide) ?_
  refine s_callV C R0 (kX13_add (xl X) n0 g0 p1 ((29 : Int32) + p2) (1 : Int32)) (Nat.le_trans (by decide) V) mmX13_add miX13_add q2387 (rc26 (Nat.le_trans (by decide) V)) g0 rfl rfl rfl (Nat.le_of_ble_eq_true rfl) ⟨Nat.le_of_ble_eq_true rfl, Nat.le_of_ble_eq_true rfl, Nat.le_of_ble_eq_true rfl, Nat.le_of_ble_eq_true rfl⟩ dX13_note_7 (fun _ μ1 => ?_)
  refine g_st (st' := []) rfl ?_
  exact s_vret C E dX13_note_10
/-! PinEnginesModel.setting(II)I -/
def fX13_setting (n0 : Nat) (p1 : Int32) (p2 : Int32) (μ : Mem) : Option (Int32 × Mem) :=
  ckI (((476 : Int32) + ((21 : Int32) * p1)) + p2) (if 0 = 4 then 7000 else 700) <|
  some ((μ.1 27 0 (((476 : Int32) + ((21 : Int32) * p1)) + p2).toNatClampNeg), μ)
set_option maxHeartbeats 4000000 in
set_option maxRecDepth 100000 in
theorem kX13_setting (l : Launch) (n0 : Nat) (g0 : n0 < 1) (p1 : Int32) (p2 : Int32) : Kon 1 l yX13_setting cX13_setting 3 (some .int) 0 0 0 0 (fun ad => [.ref (ad 26 n0), .int p1, .int p2]) rvI (fun μ => fX13_setting n0 p1 p2 μ) := by
  refine kon_of (by decide) (fun _ => Nat.le_of_ble_eq_true rfl) (fun X r0 μ hXl hXn V C E => ?_)
  have hN : ∀ i : Nat, i < 3 → i < xn X := fun i h => hXn.symm ▸ h
  have R0 := fen_rm E
  show G X r0 0 0 μ 0 [(0, .ref (xa X 26 n0)), (1, .int p1), (2, .int p2)] [] (fX13_setting n0 p1 p2 μ)
  unfold fX13_setting
  refine s_aload_n C dX13_setting_0 rfl 0 rfl ?_
  refine s_getF C (fgX13_9_26 (Nat.le_trans (by decide) V)) g0 dX13_setting_1 ?_
  refine s_sipush (v := (476 : Int32)) C dX13_setting_4 (by decide) ?_
  refine s_bipush (v := (21 : Int32)) C dX13_setting_7 (by decide) ?_
  refine s_iload_n C dX13_setting_9 rfl 1 rfl ?_
  refine s_imul C dX13_setting_10 ?_
  refine s_iadd C dX13_setting_11 ?_
  refine s_iload_n C dX13_setting_12 rfl 2 rfl ?_
  refine s_iadd C dX13_setting_13 ?_
  refine s_iald C (ag27 (Nat.le_trans (by decide) V)) (by decide) dX13_setting_14 ?_
  exact s_iret C E dX13_setting_15
/-! PinEnginesModel.code(II)I -/
def fX13_code (n0 : Nat) (p1 : Int32) (p2 : Int32) (μ : Mem) : Option (Int32 × Mem) :=
  ckI (((284 : Int32) + ((6 : Int32) * p1)) + p2) (if 0 = 4 then 7000 else 700) <|
  some ((μ.1 27 0 (((284 : Int32) + ((6 : Int32) * p1)) + p2).toNatClampNeg), μ)
set_option maxHeartbeats 4000000 in
set_option maxRecDepth 100000 in
theorem kX13_code (l : Launch) (n0 : Nat) (g0 : n0 < 1) (p1 : Int32) (p2 : Int32) : Kon 1 l yX13_code cX13_code 3 (some .int) 0 0 0 0 (fun ad => [.ref (ad 26 n0), .int p1, .int p2]) rvI (fun μ => fX13_code n0 p1 p2 μ) := by
  refine kon_of (by decide) (fun _ => Nat.le_of_ble_eq_true rfl) (fun X r0 μ hXl hXn V C E => ?_)
  have hN : ∀ i : Nat, i < 3 → i < xn X := fun i h => hXn.symm ▸ h
  have R0 := fen_rm E
  show G X r0 0 0 μ 0 [(0, .ref (xa X 26 n0)), (1, .int p1), (2, .int p2)] [] (fX13_code n0 p1 p2 μ)
  unfold fX13_code
  refine s_aload_n C dX13_code_0 rfl 0 rfl ?_
  refine s_getF C (fgX13_9_26 (Nat.le_trans (by decide) V)) g0 dX13_code_1 ?_
  refine s_sipush (v := (284 : Int32)) C dX13_code_4 (by decide) ?_
  refine s_bipush (v := (6 : Int32)) C dX13_code_7 (by decide) ?_
  refine s_iload_n C dX13_code_9 rfl 1 rfl ?_
  refine s_imul C dX13_code_10 ?_
  refine s_iadd C dX13_code_11 ?_
  refine s_iload_n C dX13_code_12 rfl 2 rfl ?_
  refine s_iadd C dX13_code_13 ?_
  refine s_iald C (ag27 (Nat.le_trans (by decide) V)) (by decide) dX13_code_14 ?_
  exact s_iret C E dX13_code_15
/-! PinEnginesModel.codeOf(II)I -/
def fX13_codeOf (n0 : Nat) (p1 : Int32) (p2 : Int32) (μ : Mem) : Option (Int32 × Mem) :=
  bnd (fX13_of n0 p1 (1 : Int32) μ) fun x2 μ1 =>
  bnd (fX13_code n0 x2 p2 μ1) fun x4 μ3 =>
  some (x4, μ3)
set_option maxHeartbeats 4000000 in
set_option maxRecDepth 100000 in
theorem kX13_codeOf (l : Launch) (n0 : Nat) (g0 : n0 < 1) (p1 : Int32) (p2 : Int32) : Kon 1 l yX13_codeOf cX13_codeOf 3 (some .int) 1 22 0 0 (fun ad => [.ref (ad 26 n0), .int p1, .int p2]) rvI (fun μ => fX13_codeOf n0 p1 p2 μ) := by
  refine kon_of (by decide) (fun _ => Nat.le_of_ble_eq_true rfl) (fun X r0 μ hXl hXn V C E => ?_)
  have hN : ∀ i : Nat, i < 3 → i < xn X := fun i h => hXn.symm ▸ h
  have R0 := fen_rm E
  show G X r0 0 0 μ 0 [(0, .ref (xa X 26 n0)), (1, .int p1), (2, .int p2)] [] (fX13_codeOf n0 p1 p2 μ)
  unfold fX13_codeOf
  refine s_aload_n C dX13_codeOf_0 rfl 0 rfl ?_
  refine s_aload_n C dX13_codeOf_1 rfl 0 rfl ?_
  refine s_iload_n C dX13_codeOf_2 rfl 1 rfl ?_
  refine s_iconst (v := (1 : Int32)) C dX13_codeOf_3 (by decide) ?_
  refine s_callV C R0 (kX13_of (xl X) n0 g0 p1 (1 : Int32)) (Nat.le_trans (by decide) V) mmX13_of miX13_of q2307 (rc26 (Nat.le_trans (by decide) V)) g0 rfl rfl rfl (Nat.le_of_ble_eq_true rfl) ⟨Nat.le_of_ble_eq_true rfl, Nat.le_of_ble_eq_true rfl, Nat.le_of_ble_eq_true rfl, Nat.le_of_ble_eq_true rfl⟩ dX13_codeOf_4 (fun x2 μ1 => ?_)
  refine g_st (st' := [.int x2, .ref (xa X 26 n0)]) rfl ?_
  refine s_iload_n C dX13_codeOf_7 rfl 2 rfl ?_
  refine s_callV C R0 (kX13_code (xl X) n0 g0 x2 p2) (Nat.le_trans (by decide) V) mmX13_code miX13_code q2465 (rc26 (Nat.le_trans (by decide) V)) g0 rfl rfl rfl (Nat.le_of_ble_eq_true rfl) ⟨Nat.le_of_ble_eq_true rfl, Nat.le_of_ble_eq_true rfl, Nat.le_of_ble_eq_true rfl, Nat.le_of_ble_eq_true rfl⟩ dX13_codeOf_8 (fun x4 μ3 => ?_)
  refine g_st (st' := [.int x4]) rfl ?_
  exact s_iret C E dX13_codeOf_11
/-! PinEnginesModel.exists(I)Z -/
def fX13_exists (n0 : Nat) (p1 : Int32) (μ : Mem) : Option (Int32 × Mem) :=
  jn (fun (μ1 : Mem) (x2 : Int32) =>
    ckZ x2 (some (x2, μ1))
  ) fun j24 =>
  jn (fun (μ3 : Mem) =>
    j24 μ3 (0 : Int32)
  ) fun j23 =>
  bnd (fX13_inRange p1 (0 : Int32) (3 : Int32) μ) fun x5 μ4 =>
  if x5 = 0 then (
    j23 μ4
  ) else (
    bnd (fX13_setting n0 p1 (0 : Int32) μ4) fun x8 μ7 =>
    if ¬ x8 = (1 : Int32) then (
      j23 μ7
    ) else (
      j24 μ7 (1 : Int32)
    )
  )
set_option maxHeartbeats 4000000 in
set_option maxRecDepth 100000 in
theorem kX13_exists (l : Launch) (n0 : Nat) (g0 : n0 < 1) (p1 : Int32) : Kon 1 l yX13_exists cX13_exists 2 (some .boolean) 1 22 0 0 (fun ad => [.ref (ad 26 n0), .int p1]) rvI (fun μ => fX13_exists n0 p1 μ) := by
  refine kon_of (by decide) (fun _ => Nat.le_of_ble_eq_true rfl) (fun X r0 μ hXl hXn V C E => ?_)
  have hN : ∀ i : Nat, i < 2 → i < xn X := fun i h => hXn.symm ▸ h
  have R0 := fen_rm E
  show G X r0 0 0 μ 0 [(0, .ref (xa X 26 n0)), (1, .int p1)] [] (fX13_exists n0 p1 μ)
  unfold fX13_exists
  refine g_jn (P := fun j24 => ∀ (μ1 : Mem) (x2 : Int32), G X r0 0 0 μ1 24 [] [.int x2] (j24 μ1 x2)) ?_ (fun j24 hj24 => ?_)
  · intro μ1 x2
    exact s_zret C E dX13_exists_24
  refine g_jn (P := fun j23 => ∀ (μ3 : Mem), G X r0 0 0 μ3 23 [] [] (j23 μ3)) ?_ (fun j23 hj23 => ?_)
  · intro μ3
    refine s_iconst (v := (0 : Int32)) C dX13_exists_23 (by decide) ?_
    exact g_sub [] rfl (hj24 μ3 (0 : Int32))
  refine s_iload_n C dX13_exists_0 rfl 1 rfl ?_
  refine s_iconst (v := (0 : Int32)) C dX13_exists_1 (by decide) ?_
  refine s_iconst (v := (3 : Int32)) C dX13_exists_2 (by decide) ?_
  refine s_callS C R0 (kX13_inRange (xl X) p1 (0 : Int32) (3 : Int32)) (Nat.le_trans (by decide) V) mmX13_inRange q2257 q2256 rfl rfl rfl rfl (Nat.le_of_ble_eq_true rfl) ⟨Nat.le_of_ble_eq_true rfl, Nat.le_of_ble_eq_true rfl, Nat.le_of_ble_eq_true rfl, Nat.le_of_ble_eq_true rfl⟩ dX13_exists_3 (fun x5 μ4 => ?_)
  refine g_st (st' := [.int x5]) rfl ?_
  refine s_if_eq (tgt := 23) C dX13_exists_6 (by decide) (fun c6 => ?_) (fun c6 => ?_)
  ·
    exact g_sub [] rfl (hj23 μ4)
  ·
    refine s_aload_n C dX13_exists_9 rfl 0 rfl ?_
    refine s_iload_n C dX13_exists_10 rfl 1 rfl ?_
    refine s_iconst (v := (0 : Int32)) C dX13_exists_11 (by decide) ?_
    refine s_callV C R0 (kX13_setting (xl X) n0 g0 p1 (0 : Int32)) (Nat.le_trans (by decide) V) mmX13_setting miX13_setting q2241 (rc26 (Nat.le_trans (by decide) V)) g0 rfl rfl rfl (Nat.le_of_ble_eq_true rfl) ⟨Nat.le_of_ble_eq_true rfl, Nat.le_of_ble_eq_true rfl, Nat.le_of_ble_eq_true rfl, Nat.le_of_ble_eq_true rfl⟩ dX13_exists_12 (fun x8 μ7 => ?_)
    refine g_st (st' := [.int x8]) rfl ?_
    refine s_iconst (v := (1 : Int32)) C dX13_exists_15 (by decide) ?_
    refine s_icmp_ne (tgt := 23) C dX13_exists_16 (by decide) (fun c9 => ?_) (fun c9 => ?_)
    ·
      exact g_sub [] rfl (hj23 μ7)
    ·
      refine s_iconst (v := (1 : Int32)) C dX13_exists_19 (by decide) ?_
      refine s_goto (tgt := 24) C dX13_exists_20 (by decide) ?_
      exact g_sub [] rfl (hj24 μ7 (1 : Int32))
/-! PinEnginesModel.isPin(I)Z -/
def fX13_isPin (p0 : Int32) (μ : Mem) : Option (Int32 × Mem) :=
  bnd (fX13_inRange p0 (0 : Int32) (15 : Int32) μ) fun x2 μ1 =>
  ckZ x2 (some (x2, μ1))
set_option maxHeartbeats 4000000 in
set_option maxRecDepth 100000 in
theorem kX13_isPin (l : Launch) (p0 : Int32) : Kon 1 l yX13_isPin cX13_isPin 1 (some .boolean) 1 22 0 0 (fun _ => [.int p0]) rvI (fun μ => fX13_isPin p0 μ) := by
  refine kon_of (by decide) (fun _ => Nat.le_of_ble_eq_true rfl) (fun X r0 μ hXl hXn V C E => ?_)
  have hN : ∀ i : Nat, i < 1 → i < xn X := fun i h => hXn.symm ▸ h
  have R0 := fen_rm E
  show G X r0 0 0 μ 0 [(0, .int p0)] [] (fX13_isPin p0 μ)
  unfold fX13_isPin
  refine s_iload_n C dX13_isPin_0 rfl 0 rfl ?_
  refine s_iconst (v := (0 : Int32)) C dX13_isPin_1 (by decide) ?_
  refine s_bipush (v := (15 : Int32)) C dX13_isPin_2 (by decide) ?_
  refine s_callS C R0 (kX13_inRange (xl X) p0 (0 : Int32) (15 : Int32)) (Nat.le_trans (by decide) V) mmX13_inRange q2257 q2256 rfl rfl rfl rfl (Nat.le_of_ble_eq_true rfl) ⟨Nat.le_of_ble_eq_true rfl, Nat.le_of_ble_eq_true rfl, Nat.le_of_ble_eq_true rfl, Nat.le_of_ble_eq_true rfl⟩ dX13_isPin_4 (fun x2 μ1 => ?_)
  refine g_st (st' := [.int x2]) rfl ?_
  exact s_zret C E dX13_isPin_7
/-! PinEnginesModel.instructionCount()I -/
def fX13_instructionCount (n0 : Nat) (μ : Mem) : Option (Int32 × Mem) :=
  nm (wI μ 26 n0 6 (0 : Int32)) fun μ1 =>
  ckI (0 : Int32) (if 0 = 4 then 7000 else 700) <|
  some ((μ1.1 27 0 (0 : Int32).toNatClampNeg), μ1)
set_option maxHeartbeats 4000000 in
set_option maxRecDepth 100000 in
theorem kX13_instructionCount (l : Launch) (n0 : Nat) (g0 : n0 < 1) : Kon 1 l yX13_instructionCount cX13_instructionCount 1 (some .int) 0 0 0 0 (fun ad => [.ref (ad 26 n0)]) rvI (fun μ => fX13_instructionCount n0 μ) := by
  refine kon_of (by decide) (fun _ => Nat.le_of_ble_eq_true rfl) (fun X r0 μ hXl hXn V C E => ?_)
  have hN : ∀ i : Nat, i < 1 → i < xn X := fun i h => hXn.symm ▸ h
  have R0 := fen_rm E
  show G X r0 0 0 μ 0 [(0, .ref (xa X 26 n0))] [] (fX13_instructionCount n0 μ)
  unfold fX13_instructionCount
  refine s_aload_n C dX13_instructionCount_0 rfl 0 rfl ?_
  refine s_iconst (v := (0 : Int32)) C dX13_instructionCount_1 (by decide) ?_
  refine s_putI C (fpX13_231_26 (Nat.le_trans (by decide) V)) g0 dX13_instructionCount_2 ?_
  refine g_nmM (fun μ1 => ?_)
  refine s_aload_n C dX13_instructionCount_5 rfl 0 rfl ?_
  refine s_getF C (fgX13_9_26 (Nat.le_trans (by decide) V)) g0 dX13_instructionCount_6 ?_
  refine s_iconst (v := (0 : Int32)) C dX13_instructionCount_9 (by decide) ?_
  refine s_iald C (ag27 (Nat.le_trans (by decide) V)) (by decide) dX13_instructionCount_10 ?_
  exact s_iret C E dX13_instructionCount_11
/-! PinEnginesModel.engines()I -/
def fX13_engines (fu : Nat) (n0 : Nat) (μ : Mem) : Option (Int32 × Mem) :=
  jn (lp (fun _ _ _ => none) fu (fun j9 (μ1 : Mem) (x2 : Int32) (x3 : Int32) =>
    if (4 : Int32) ≤ x3 then (
      some (x2, μ1)
    ) else (
      bnd (fX13_setting n0 x3 (0 : Int32) μ1) fun x6 μ5 =>
      nm ((x2 ||| (x6 <<< (x3 &&& 31)))) fun x7 =>
      nm (x3 + (1 : Int32)) fun x8 =>
      j9 μ5 x7 x8
    )
  )) fun j9 =>
  nm (wI μ 26 n0 6 (0 : Int32)) fun μ9 =>
  j9 μ9 (0 : Int32) (0 : Int32)
set_option maxHeartbeats 4000000 in
set_option maxRecDepth 100000 in
theorem kX13_engines (l : Launch) (fu : Nat) (n0 : Nat) (g0 : n0 < 1) : Kon 1 l yX13_engines cX13_engines 3 (some .int) 1 22 0 0 (fun ad => [.ref (ad 26 n0)]) rvI (fun μ => fX13_engines fu n0 μ) := by
  refine kon_of (by decide) (fun _ => Nat.le_of_ble_eq_true rfl) (fun X r0 μ hXl hXn V C E => ?_)
  have hN : ∀ i : Nat, i < 3 → i < xn X := fun i h => hXn.symm ▸ h
  have R0 := fen_rm E
  show G X r0 0 0 μ 0 [(0, .ref (xa X 26 n0))] [] (fX13_engines fu n0 μ)
  unfold fX13_engines
  refine g_jl (P := fun j9 => ∀ (μ1 : Mem) (x2 : Int32) (x3 : Int32), G X r0 0 0 μ1 9 [(0, .ref (xa X 26 n0)), (1, .int x2), (2, .int x3)] [] (j9 μ1 x2 x3)) (fun _ _ _ => g_none) (fun j9 hj9 => ?_) (fun j9 hj9 => ?_)
  · intro μ1 x2 x3
    refine s_iload_n C dX13_engines_9 rfl 2 rfl ?_
    refine s_iconst (v := (4 : Int32)) C dX13_engines_10 (by decide) ?_
    refine s_icmp_ge (tgt := 31) C dX13_engines_11 (by decide) (fun c4 => ?_) (fun c4 => ?_)
    ·
      refine s_iload_n C dX13_engines_31 rfl 1 rfl ?_
      exact s_iret C E dX13_engines_32
    ·
      refine s_iload_n C dX13_engines_14 rfl 1 rfl ?_
      refine s_aload_n C dX13_engines_15 rfl 0 rfl ?_
      refine s_iload_n C dX13_engines_16 rfl 2 rfl ?_
      refine s_iconst (v := (0 : Int32)) C dX13_engines_17 (by decide) ?_
      refine s_callV C R0 (kX13_setting (xl X) n0 g0 x3 (0 : Int32)) (Nat.le_trans (by decide) V) mmX13_setting miX13_setting q2241 (rc26 (Nat.le_trans (by decide) V)) g0 rfl rfl rfl (Nat.le_of_ble_eq_true rfl) ⟨Nat.le_of_ble_eq_true rfl, Nat.le_of_ble_eq_true rfl, Nat.le_of_ble_eq_true rfl, Nat.le_of_ble_eq_true rfl⟩ dX13_engines_18 (fun x6 μ5 => ?_)
      refine g_st (st' := [.int x6, .int x2]) rfl ?_
      refine s_iload_n C dX13_engines_21 rfl 2 rfl ?_
      refine s_ishl C dX13_engines_22 ?_
      refine s_ior C dX13_engines_23 ?_
      refine g_nmI (fun x7 => ?_)
      refine s_istore_n (L' := [(1, .int x7), (0, .ref (xa X 26 n0)), (2, .int x3)]) C dX13_engines_24 rfl (hN 1 (by decide)) rfl ?_
      refine g_nmQ (fun x8 ex8 => ?_)
      refine s_iinc (v := x8) (j := 2) (L' := [(2, .int x8), (1, .int x7), (0, .ref (xa X 26 n0))]) C dX13_engines_25 rfl (by rw [ex8]; rfl) (hN 2 (by decide)) rfl ?_
      refine s_goto (tgt := 9) C dX13_engines_28 (by decide) ?_
      exact g_sub [2, 1, 0] rfl (hj9 μ5 x7 x8)
  refine s_aload_n C dX13_engines_0 rfl 0 rfl ?_
  refine s_iconst (v := (0 : Int32)) C dX13_engines_1 (by decide) ?_
  refine s_putI C (fpX13_231_26 (Nat.le_trans (by decide) V)) g0 dX13_engines_2 ?_
  refine g_nmM (fun μ9 => ?_)
  refine s_iconst (v := (0 : Int32)) C dX13_engines_5 (by decide) ?_
  refine s_istore_n (L' := [(1, .int (0 : Int32)), (0, .ref (xa X 26 n0))]) C dX13_engines_6 rfl (hN 1 (by decide)) rfl ?_
  refine s_iconst (v := (0 : Int32)) C dX13_engines_7 (by decide) ?_
  refine s_istore_n (L' := [(2, .int (0 : Int32)), (1, .int (0 : Int32)), (0, .ref (xa X 26 n0))]) C dX13_engines_8 rfl (hN 2 (by decide)) rfl ?_
  exact g_sub [2, 1, 0] rfl (hj9 μ9 (0 : Int32) (0 : Int32))
/-! PinEnginesModel.clock()I -/
def fX13_clock (n0 : Nat) (μ : Mem) : Option (Int32 × Mem) :=
  nm (wI μ 26 n0 6 (0 : Int32)) fun μ1 =>
  ckI (1 : Int32) (if 0 = 4 then 7000 else 700) <|
  some ((μ1.1 27 0 (1 : Int32).toNatClampNeg), μ1)
set_option maxHeartbeats 4000000 in
set_option maxRecDepth 100000 in
theorem kX13_clock (l : Launch) (n0 : Nat) (g0 : n0 < 1) : Kon 1 l yX13_clock cX13_clock 1 (some .int) 0 0 0 0 (fun ad => [.ref (ad 26 n0)]) rvI (fun μ => fX13_clock n0 μ) := by
  refine kon_of (by decide) (fun _ => Nat.le_of_ble_eq_true rfl) (fun X r0 μ hXl hXn V C E => ?_)
  have hN : ∀ i : Nat, i < 1 → i < xn X := fun i h => hXn.symm ▸ h
  have R0 := fen_rm E
  show G X r0 0 0 μ 0 [(0, .ref (xa X 26 n0))] [] (fX13_clock n0 μ)
  unfold fX13_clock
  refine s_aload_n C dX13_clock_0 rfl 0 rfl ?_
  refine s_iconst (v := (0 : Int32)) C dX13_clock_1 (by decide) ?_
  refine s_putI C (fpX13_231_26 (Nat.le_trans (by decide) V)) g0 dX13_clock_2 ?_
  refine g_nmM (fun μ1 => ?_)
  refine s_aload_n C dX13_clock_5 rfl 0 rfl ?_
  refine s_getF C (fgX13_9_26 (Nat.le_trans (by decide) V)) g0 dX13_clock_6 ?_
  refine s_iconst (v := (1 : Int32)) C dX13_clock_9 (by decide) ?_
  refine s_iald C (ag27 (Nat.le_trans (by decide) V)) (by decide) dX13_clock_10 ?_
  exact s_iret C E dX13_clock_11
/-! PinEnginesModel.levelOf(I)I -/
def fX13_levelOf (n0 : Nat) (p1 : Int32) (μ : Mem) : Option (Int32 × Mem) :=
  jn (fun (μ1 : Mem) (a2 : Nat) (x4 : Int32) (x5 : Int32) =>
    bnd (fX13_ofPin a2 x4 x5 μ1) fun x7 μ6 =>
    some (x7, μ6)
  ) fun j17 =>
  bnd (fX13_ofPin n0 p1 (1 : Int32) μ) fun x9 μ8 =>
  if ¬ x9 = (1 : Int32) then (
    j17 μ8 n0 p1 (2 : Int32)
  ) else (
    j17 μ8 n0 p1 (0 : Int32)
  )
set_option maxHeartbeats 4000000 in
set_option maxRecDepth 100000 in
theorem kX13_levelOf (l : Launch) (n0 : Nat) (g0 : n0 < 1) (p1 : Int32) : Kon 1 l yX13_levelOf cX13_levelOf 2 (some .int) 1 22 0 0 (fun ad => [.ref (ad 26 n0), .int p1]) rvI (fun μ => fX13_levelOf n0 p1 μ) := by
  refine kon_of (by decide) (fun _ => Nat.le_of_ble_eq_true rfl) (fun X r0 μ hXl hXn V C E => ?_)
  have hN : ∀ i : Nat, i < 2 → i < xn X := fun i h => hXn.symm ▸ h
  have R0 := fen_rm E
  show G X r0 0 0 μ 0 [(0, .ref (xa X 26 n0)), (1, .int p1)] [] (fX13_levelOf n0 p1 μ)
  unfold fX13_levelOf
  refine g_jn (P := fun j17 => ∀ (μ1 : Mem) (a2 : Nat) (x4 : Int32) (x5 : Int32), a2 < 1 → G X r0 0 0 μ1 17 [] [.int x5, .int x4, .ref (xa X 26 a2)] (j17 μ1 a2 x4 x5)) ?_ (fun j17 hj17 => ?_)
  · intro μ1 a2 x4 x5 b3
    refine s_callV C R0 (kX13_ofPin (xl X) a2 b3 x4 x5) (Nat.le_trans (by decide) V) mmX13_ofPin miX13_ofPin q2267 (rc26 (Nat.le_trans (by decide) V)) b3 rfl rfl rfl (Nat.le_of_ble_eq_true rfl) ⟨Nat.le_of_ble_eq_true rfl, Nat.le_of_ble_eq_true rfl, Nat.le_of_ble_eq_true rfl, Nat.le_of_ble_eq_true rfl⟩ dX13_levelOf_17 (fun x7 μ6 => ?_)
    refine g_st (st' := [.int x7]) rfl ?_
    exact s_iret C E dX13_levelOf_20
  refine s_aload_n C dX13_levelOf_0 rfl 0 rfl ?_
  refine s_iload_n C dX13_levelOf_1 rfl 1 rfl ?_
  refine s_aload_n C dX13_levelOf_2 rfl 0 rfl ?_
  refine s_iload_n C dX13_levelOf_3 rfl 1 rfl ?_
  refine s_iconst (v := (1 : Int32)) C dX13_levelOf_4 (by decide) ?_
  refine s_callV C R0 (kX13_ofPin (xl X) n0 g0 p1 (1 : Int32)) (Nat.le_trans (by decide) V) mmX13_ofPin miX13_ofPin q2267 (rc26 (Nat.le_trans (by decide) V)) g0 rfl rfl rfl (Nat.le_of_ble_eq_true rfl) ⟨Nat.le_of_ble_eq_true rfl, Nat.le_of_ble_eq_true rfl, Nat.le_of_ble_eq_true rfl, Nat.le_of_ble_eq_true rfl⟩ dX13_levelOf_5 (fun x9 μ8 => ?_)
  refine g_st (st' := [.int x9, .int p1, .ref (xa X 26 n0)]) rfl ?_
  refine s_iconst (v := (1 : Int32)) C dX13_levelOf_8 (by decide) ?_
  refine s_icmp_ne (tgt := 16) C dX13_levelOf_9 (by decide) (fun c10 => ?_) (fun c10 => ?_)
  ·
    refine s_iconst (v := (2 : Int32)) C dX13_levelOf_16 (by decide) ?_
    exact g_sub [] rfl (hj17 μ8 n0 p1 (2 : Int32) g0)
  ·
    refine s_iconst (v := (0 : Int32)) C dX13_levelOf_12 (by decide) ?_
    refine s_goto (tgt := 17) C dX13_levelOf_13 (by decide) ?_
    exact g_sub [] rfl (hj17 μ8 n0 p1 (0 : Int32) g0)
/-! PinEnginesModel.level(I)I -/
def fX13_level (n0 : Nat) (p1 : Int32) (μ : Mem) : Option (Int32 × Mem) :=
  nm (wI μ 26 n0 6 (0 : Int32)) fun μ1 =>
  bnd (fX13_isPin p1 μ1) fun x3 μ2 =>
  if ¬ x3 = 0 then (
    bnd (fX13_levelOf n0 p1 μ2) fun x6 μ5 =>
    some (x6, μ5)
  ) else (
    bnd (fX13_raise n0 (1 : Int32) μ2) fun x8 μ7 =>
    some (x8, μ7)
  )
set_option maxHeartbeats 4000000 in
set_option maxRecDepth 100000 in
theorem kX13_level (l : Launch) (n0 : Nat) (g0 : n0 < 1) (p1 : Int32) : Kon 1 l yX13_level cX13_level 2 (some .int) 2 43 0 0 (fun ad => [.ref (ad 26 n0), .int p1]) rvI (fun μ => fX13_level n0 p1 μ) := by
  refine kon_of (by decide) (fun _ => Nat.le_of_ble_eq_true rfl) (fun X r0 μ hXl hXn V C E => ?_)
  have hN : ∀ i : Nat, i < 2 → i < xn X := fun i h => hXn.symm ▸ h
  have R0 := fen_rm E
  show G X r0 0 0 μ 0 [(0, .ref (xa X 26 n0)), (1, .int p1)] [] (fX13_level n0 p1 μ)
  unfold fX13_level
  refine s_aload_n C dX13_level_0 rfl 0 rfl ?_
  refine s_iconst (v := (0 : Int32)) C dX13_level_1 (by decide) ?_
  refine s_putI C (fpX13_231_26 (Nat.le_trans (by decide) V)) g0 dX13_level_2 ?_
  refine g_nmM (fun μ1 => ?_)
  refine s_iload_n C dX13_level_5 rfl 1 rfl ?_
  refine s_callS C R0 (kX13_isPin (xl X) p1) (Nat.le_trans (by decide) V) mmX13_isPin q2254 q2253 rfl rfl rfl rfl (Nat.le_of_ble_eq_true rfl) ⟨Nat.le_of_ble_eq_true rfl, Nat.le_of_ble_eq_true rfl, Nat.le_of_ble_eq_true rfl, Nat.le_of_ble_eq_true rfl⟩ dX13_level_6 (fun x3 μ2 => ?_)
  refine g_st (st' := [.int x3]) rfl ?_
  refine s_if_ne (tgt := 18) C dX13_level_9 (by decide) (fun c4 => ?_) (fun c4 => ?_)
  ·
    refine s_aload_n C dX13_level_18 rfl 0 rfl ?_
    refine s_iload_n C dX13_level_19 rfl 1 rfl ?_
    refine s_callV C R0 (kX13_levelOf (xl X) n0 g0 p1) (Nat.le_trans (by decide) V) mmX13_levelOf miX13_levelOf q2263 (rc26 (Nat.le_trans (by decide) V)) g0 rfl rfl rfl (Nat.le_of_ble_eq_true rfl) ⟨Nat.le_of_ble_eq_true rfl, Nat.le_of_ble_eq_true rfl, Nat.le_of_ble_eq_true rfl, Nat.le_of_ble_eq_true rfl⟩ dX13_level_20 (fun x6 μ5 => ?_)
    refine g_st (st' := [.int x6]) rfl ?_
    exact s_iret C E dX13_level_23
  ·
    refine s_aload_n C dX13_level_12 rfl 0 rfl ?_
    refine s_iconst (v := (1 : Int32)) C dX13_level_13 (by decide) ?_
    refine s_callV C R0 (kX13_raise (xl X) n0 g0 (1 : Int32)) (Nat.le_trans (by decide) V) mmX13_raise miX13_raise q2259 (rc26 (Nat.le_trans (by decide) V)) g0 rfl rfl rfl (Nat.le_of_ble_eq_true rfl) ⟨Nat.le_of_ble_eq_true rfl, Nat.le_of_ble_eq_true rfl, Nat.le_of_ble_eq_true rfl, Nat.le_of_ble_eq_true rfl⟩ dX13_level_14 (fun x8 μ7 => ?_)
    refine g_st (st' := [.int x8]) rfl ?_
    exact s_iret C E dX13_level_17
/-! PinEnginesModel.tellPin(II)I -/
def fX13_tellPin (n0 : Nat) (p1 : Int32) (p2 : Int32) (μ : Mem) : Option (Int32 × Mem) :=
  nm (wI μ 26 n0 6 (0 : Int32)) fun μ1 =>
  bnd (fX13_isPin p1 μ1) fun x3 μ2 =>
  if ¬ x3 = 0 then (
    bnd (fX13_ofPin n0 p1 p2 μ2) fun x6 μ5 =>
    some (x6, μ5)
  ) else (
    bnd (fX13_raise n0 (1 : Int32) μ2) fun x8 μ7 =>
    some (x8, μ7)
  )
set_option maxHeartbeats 4000000 in
set_option maxRecDepth 100000 in
theorem kX13_tellPin (l : Launch) (n0 : Nat) (g0 : n0 < 1) (p1 : Int32) (p2 : Int32) : Kon 1 l yX13_tellPin cX13_tellPin 3 (some .int) 2 42 0 0 (fun ad => [.ref (ad 26 n0), .int p1, .int p2]) rvI (fun μ => fX13_tellPin n0 p1 p2 μ) := by
  refine kon_of (by decide) (fun _ => Nat.le_of_ble_eq_true rfl) (fun X r0 μ hXl hXn V C E => ?_)
  have hN : ∀ i : Nat, i < 3 → i < xn X := fun i h => hXn.symm ▸ h
  have R0 := fen_rm E
  show G X r0 0 0 μ 0 [(0, .ref (xa X 26 n0)), (1, .int p1), (2, .int p2)] [] (fX13_tellPin n0 p1 p2 μ)
  unfold fX13_tellPin
  refine s_aload_n C dX13_tellPin_0 rfl 0 rfl ?_
  refine s_iconst (v := (0 : Int32)) C dX13_tellPin_1 (by decide) ?_
  refine s_putI C (fpX13_231_26 (Nat.le_trans (by decide) V)) g0 dX13_tellPin_2 ?_
  refine g_nmM (fun μ1 => ?_)
  refine s_iload_n C dX13_tellPin_5 rfl 1 rfl ?_
  refine s_callS C R0 (kX13_isPin (xl X) p1) (Nat.le_trans (by decide) V) mmX13_isPin q2254 q2253 rfl rfl rfl rfl (Nat.le_of_ble_eq_true rfl) ⟨Nat.le_of_ble_eq_true rfl, Nat.le_of_ble_eq_true rfl, Nat.le_of_ble_eq_true rfl, Nat.le_of_ble_eq_true rfl⟩ dX13_tellPin_6 (fun x3 μ2 => ?_)
  refine g_st (st' := [.int x3]) rfl ?_
  refine s_if_ne (tgt := 18) C dX13_tellPin_9 (by decide) (fun c4 => ?_) (fun c4 => ?_)
  ·
    refine s_aload_n C dX13_tellPin_18 rfl 0 rfl ?_
    refine s_iload_n C dX13_tellPin_19 rfl 1 rfl ?_
    refine s_iload_n C dX13_tellPin_20 rfl 2 rfl ?_
    refine s_callV C R0 (kX13_ofPin (xl X) n0 g0 p1 p2) (Nat.le_trans (by decide) V) mmX13_ofPin miX13_ofPin q2267 (rc26 (Nat.le_trans (by decide) V)) g0 rfl rfl rfl (Nat.le_of_ble_eq_true rfl) ⟨Nat.le_of_ble_eq_true rfl, Nat.le_of_ble_eq_true rfl, Nat.le_of_ble_eq_true rfl, Nat.le_of_ble_eq_true rfl⟩ dX13_tellPin_21 (fun x6 μ5 => ?_)
    refine g_st (st' := [.int x6]) rfl ?_
    exact s_iret C E dX13_tellPin_24
  ·
    refine s_aload_n C dX13_tellPin_12 rfl 0 rfl ?_
    refine s_iconst (v := (1 : Int32)) C dX13_tellPin_13 (by decide) ?_
    refine s_callV C R0 (kX13_raise (xl X) n0 g0 (1 : Int32)) (Nat.le_trans (by decide) V) mmX13_raise miX13_raise q2259 (rc26 (Nat.le_trans (by decide) V)) g0 rfl rfl rfl (Nat.le_of_ble_eq_true rfl) ⟨Nat.le_of_ble_eq_true rfl, Nat.le_of_ble_eq_true rfl, Nat.le_of_ble_eq_true rfl, Nat.le_of_ble_eq_true rfl⟩ dX13_tellPin_14 (fun x8 μ7 => ?_)
    refine g_st (st' := [.int x8]) rfl ?_
    exact s_iret C E dX13_tellPin_17
/-! PinEnginesModel.latch(I)I -/
def fX13_latch (n0 : Nat) (p1 : Int32) (μ : Mem) : Option (Int32 × Mem) :=
  bnd (fX13_tellPin n0 p1 (0 : Int32) μ) fun x2 μ1 =>
  some (x2, μ1)
set_option maxHeartbeats 4000000 in
set_option maxRecDepth 100000 in
theorem kX13_latch (l : Launch) (n0 : Nat) (g0 : n0 < 1) (p1 : Int32) : Kon 1 l yX13_latch cX13_latch 2 (some .int) 3 64 0 0 (fun ad => [.ref (ad 26 n0), .int p1]) rvI (fun μ => fX13_latch n0 p1 μ) := by
  refine kon_of (by decide) (fun _ => Nat.le_of_ble_eq_true rfl) (fun X r0 μ hXl hXn V C E => ?_)
  have hN : ∀ i : Nat, i < 2 → i < xn X := fun i h => hXn.symm ▸ h
  have R0 := fen_rm E
  show G X r0 0 0 μ 0 [(0, .ref (xa X 26 n0)), (1, .int p1)] [] (fX13_latch n0 p1 μ)
  unfold fX13_latch
  refine s_aload_n C dX13_latch_0 rfl 0 rfl ?_
  refine s_iload_n C dX13_latch_1 rfl 1 rfl ?_
  refine s_iconst (v := (0 : Int32)) C dX13_latch_2 (by decide) ?_
  refine s_callV C R0 (kX13_tellPin (xl X) n0 g0 p1 (0 : Int32)) (Nat.le_trans (by decide) V) mmX13_tellPin miX13_tellPin q2275 (rc26 (Nat.le_trans (by decide) V)) g0 rfl rfl rfl (Nat.le_of_ble_eq_true rfl) ⟨Nat.le_of_ble_eq_true rfl, Nat.le_of_ble_eq_true rfl, Nat.le_of_ble_eq_true rfl, Nat.le_of_ble_eq_true rfl⟩ dX13_latch_3 (fun x2 μ1 => ?_)
  refine g_st (st' := [.int x2]) rfl ?_
  exact s_iret C E dX13_latch_6
/-! PinEnginesModel.isOutput(I)Z -/
def fX13_isOutput (n0 : Nat) (p1 : Int32) (μ : Mem) : Option (Int32 × Mem) :=
  jn (fun (μ1 : Mem) (x2 : Int32) =>
    ckZ x2 (some (x2, μ1))
  ) fun j15 =>
  bnd (fX13_tellPin n0 p1 (1 : Int32) μ) fun x4 μ3 =>
  if ¬ x4 = (1 : Int32) then (
    j15 μ3 (0 : Int32)
  ) else (
    j15 μ3 (1 : Int32)
  )
set_option maxHeartbeats 4000000 in
set_option maxRecDepth 100000 in
theorem kX13_isOutput (l : Launch) (n0 : Nat) (g0 : n0 < 1) (p1 : Int32) : Kon 1 l yX13_isOutput cX13_isOutput 2 (some .boolean) 3 64 0 0 (fun ad => [.ref (ad 26 n0), .int p1]) rvI (fun μ => fX13_isOutput n0 p1 μ) := by
  refine kon_of (by decide) (fun _ => Nat.le_of_ble_eq_true rfl) (fun X r0 μ hXl hXn V C E => ?_)
  have hN : ∀ i : Nat, i < 2 → i < xn X := fun i h => hXn.symm ▸ h
  have R0 := fen_rm E
  show G X r0 0 0 μ 0 [(0, .ref (xa X 26 n0)), (1, .int p1)] [] (fX13_isOutput n0 p1 μ)
  unfold fX13_isOutput
  refine g_jn (P := fun j15 => ∀ (μ1 : Mem) (x2 : Int32), G X r0 0 0 μ1 15 [] [.int x2] (j15 μ1 x2)) ?_ (fun j15 hj15 => ?_)
  · intro μ1 x2
    exact s_zret C E dX13_isOutput_15
  refine s_aload_n C dX13_isOutput_0 rfl 0 rfl ?_
  refine s_iload_n C dX13_isOutput_1 rfl 1 rfl ?_
  refine s_iconst (v := (1 : Int32)) C dX13_isOutput_2 (by decide) ?_
  refine s_callV C R0 (kX13_tellPin (xl X) n0 g0 p1 (1 : Int32)) (Nat.le_trans (by decide) V) mmX13_tellPin miX13_tellPin q2275 (rc26 (Nat.le_trans (by decide) V)) g0 rfl rfl rfl (Nat.le_of_ble_eq_true rfl) ⟨Nat.le_of_ble_eq_true rfl, Nat.le_of_ble_eq_true rfl, Nat.le_of_ble_eq_true rfl, Nat.le_of_ble_eq_true rfl⟩ dX13_isOutput_3 (fun x4 μ3 => ?_)
  refine g_st (st' := [.int x4]) rfl ?_
  refine s_iconst (v := (1 : Int32)) C dX13_isOutput_6 (by decide) ?_
  refine s_icmp_ne (tgt := 14) C dX13_isOutput_7 (by decide) (fun c5 => ?_) (fun c5 => ?_)
  ·
    refine s_iconst (v := (0 : Int32)) C dX13_isOutput_14 (by decide) ?_
    exact g_sub [] rfl (hj15 μ3 (0 : Int32))
  ·
    refine s_iconst (v := (1 : Int32)) C dX13_isOutput_10 (by decide) ?_
    refine s_goto (tgt := 15) C dX13_isOutput_11 (by decide) ?_
    exact g_sub [] rfl (hj15 μ3 (1 : Int32))
/-! PinEnginesModel.flag(I)I -/
def fX13_flag (n0 : Nat) (p1 : Int32) (μ : Mem) : Option (Int32 × Mem) :=
  nm (wI μ 26 n0 6 (0 : Int32)) fun μ1 =>
  bnd (fX13_inRange p1 (0 : Int32) (7 : Int32) μ1) fun x3 μ2 =>
  if ¬ x3 = 0 then (
    ckI ((100 : Int32) + p1) (if 0 = 4 then 7000 else 700) <|
    some ((μ2.1 27 0 ((100 : Int32) + p1).toNatClampNeg), μ2)
  ) else (
    bnd (fX13_raise n0 (1 : Int32) μ2) fun x6 μ5 =>
    some (x6, μ5)
  )
set_option maxHeartbeats 4000000 in
set_option maxRecDepth 100000 in
theorem kX13_flag (l : Launch) (n0 : Nat) (g0 : n0 < 1) (p1 : Int32) : Kon 1 l yX13_flag cX13_flag 2 (some .int) 1 22 0 0 (fun ad => [.ref (ad 26 n0), .int p1]) rvI (fun μ => fX13_flag n0 p1 μ) := by
  refine kon_of (by decide) (fun _ => Nat.le_of_ble_eq_true rfl) (fun X r0 μ hXl hXn V C E => ?_)
  have hN : ∀ i : Nat, i < 2 → i < xn X := fun i h => hXn.symm ▸ h
  have R0 := fen_rm E
  show G X r0 0 0 μ 0 [(0, .ref (xa X 26 n0)), (1, .int p1)] [] (fX13_flag n0 p1 μ)
  unfold fX13_flag
  refine s_aload_n C dX13_flag_0 rfl 0 rfl ?_
  refine s_iconst (v := (0 : Int32)) C dX13_flag_1 (by decide) ?_
  refine s_putI C (fpX13_231_26 (Nat.le_trans (by decide) V)) g0 dX13_flag_2 ?_
  refine g_nmM (fun μ1 => ?_)
  refine s_iload_n C dX13_flag_5 rfl 1 rfl ?_
  refine s_iconst (v := (0 : Int32)) C dX13_flag_6 (by decide) ?_
  refine s_bipush (v := (7 : Int32)) C dX13_flag_7 (by decide) ?_
  refine s_callS C R0 (kX13_inRange (xl X) p1 (0 : Int32) (7 : Int32)) (Nat.le_trans (by decide) V) mmX13_inRange q2257 q2256 rfl rfl rfl rfl (Nat.le_of_ble_eq_true rfl) ⟨Nat.le_of_ble_eq_true rfl, Nat.le_of_ble_eq_true rfl, Nat.le_of_ble_eq_true rfl, Nat.le_of_ble_eq_true rfl⟩ dX13_flag_9 (fun x3 μ2 => ?_)
  refine g_st (st' := [.int x3]) rfl ?_
  refine s_if_ne (tgt := 21) C dX13_flag_12 (by decide) (fun c4 => ?_) (fun c4 => ?_)
  ·
    refine s_aload_n C dX13_flag_21 rfl 0 rfl ?_
    refine s_getF C (fgX13_9_26 (Nat.le_trans (by decide) V)) g0 dX13_flag_22 ?_
    refine s_bipush (v := (100 : Int32)) C dX13_flag_25 (by decide) ?_
    refine s_iload_n C dX13_flag_27 rfl 1 rfl ?_
    refine s_iadd C dX13_flag_28 ?_
    refine s_iald C (ag27 (Nat.le_trans (by decide) V)) (by decide) dX13_flag_29 ?_
    exact s_iret C E dX13_flag_30
  ·
    refine s_aload_n C dX13_flag_15 rfl 0 rfl ?_
    refine s_iconst (v := (1 : Int32)) C dX13_flag_16 (by decide) ?_
    refine s_callV C R0 (kX13_raise (xl X) n0 g0 (1 : Int32)) (Nat.le_trans (by decide) V) mmX13_raise miX13_raise q2259 (rc26 (Nat.le_trans (by decide) V)) g0 rfl rfl rfl (Nat.le_of_ble_eq_true rfl) ⟨Nat.le_of_ble_eq_true rfl, Nat.le_of_ble_eq_true rfl, Nat.le_of_ble_eq_true rfl, Nat.le_of_ble_eq_true rfl⟩ dX13_flag_17 (fun x6 μ5 => ?_)
    refine g_st (st' := [.int x6]) rfl ?_
    exact s_iret C E dX13_flag_20
/-! PinEnginesModel.memory(I)I -/
def fX13_memory (n0 : Nat) (p1 : Int32) (μ : Mem) : Option (Int32 × Mem) :=
  nm (wI μ 26 n0 6 (0 : Int32)) fun μ1 =>
  bnd (fX13_inRange p1 (0 : Int32) (15 : Int32) μ1) fun x3 μ2 =>
  if ¬ x3 = 0 then (
    ckI ((108 : Int32) + p1) (if 0 = 4 then 7000 else 700) <|
    some ((μ2.1 27 0 ((108 : Int32) + p1).toNatClampNeg), μ2)
  ) else (
    bnd (fX13_raise n0 (1 : Int32) μ2) fun x6 μ5 =>
    some (x6, μ5)
  )
set_option maxHeartbeats 4000000 in
set_option maxRecDepth 100000 in
theorem kX13_memory (l : Launch) (n0 : Nat) (g0 : n0 < 1) (p1 : Int32) : Kon 1 l yX13_memory cX13_memory 2 (some .int) 1 22 0 0 (fun ad => [.ref (ad 26 n0), .int p1]) rvI (fun μ => fX13_memory n0 p1 μ) := by
  refine kon_of (by decide) (fun _ => Nat.le_of_ble_eq_true rfl) (fun X r0 μ hXl hXn V C E => ?_)
  have hN : ∀ i : Nat, i < 2 → i < xn X := fun i h => hXn.symm ▸ h
  have R0 := fen_rm E
  show G X r0 0 0 μ 0 [(0, .ref (xa X 26 n0)), (1, .int p1)] [] (fX13_memory n0 p1 μ)
  unfold fX13_memory
  refine s_aload_n C dX13_memory_0 rfl 0 rfl ?_
  refine s_iconst (v := (0 : Int32)) C dX13_memory_1 (by decide) ?_
  refine s_putI C (fpX13_231_26 (Nat.le_trans (by decide) V)) g0 dX13_memory_2 ?_
  refine g_nmM (fun μ1 => ?_)
  refine s_iload_n C dX13_memory_5 rfl 1 rfl ?_
  refine s_iconst (v := (0 : Int32)) C dX13_memory_6 (by decide) ?_
  refine s_bipush (v := (15 : Int32)) C dX13_memory_7 (by decide) ?_
  refine s_callS C R0 (kX13_inRange (xl X) p1 (0 : Int32) (15 : Int32)) (Nat.le_trans (by decide) V) mmX13_inRange q2257 q2256 rfl rfl rfl rfl (Nat.le_of_ble_eq_true rfl) ⟨Nat.le_of_ble_eq_true rfl, Nat.le_of_ble_eq_true rfl, Nat.le_of_ble_eq_true rfl, Nat.le_of_ble_eq_true rfl⟩ dX13_memory_9 (fun x3 μ2 => ?_)
  refine g_st (st' := [.int x3]) rfl ?_
  refine s_if_ne (tgt := 21) C dX13_memory_12 (by decide) (fun c4 => ?_) (fun c4 => ?_)
  ·
    refine s_aload_n C dX13_memory_21 rfl 0 rfl ?_
    refine s_getF C (fgX13_9_26 (Nat.le_trans (by decide) V)) g0 dX13_memory_22 ?_
    refine s_bipush (v := (108 : Int32)) C dX13_memory_25 (by decide) ?_
    refine s_iload_n C dX13_memory_27 rfl 1 rfl ?_
    refine s_iadd C dX13_memory_28 ?_
    refine s_iald C (ag27 (Nat.le_trans (by decide) V)) (by decide) dX13_memory_29 ?_
    exact s_iret C E dX13_memory_30
  ·
    refine s_aload_n C dX13_memory_15 rfl 0 rfl ?_
    refine s_iconst (v := (1 : Int32)) C dX13_memory_16 (by decide) ?_
    refine s_callV C R0 (kX13_raise (xl X) n0 g0 (1 : Int32)) (Nat.le_trans (by decide) V) mmX13_raise miX13_raise q2259 (rc26 (Nat.le_trans (by decide) V)) g0 rfl rfl rfl (Nat.le_of_ble_eq_true rfl) ⟨Nat.le_of_ble_eq_true rfl, Nat.le_of_ble_eq_true rfl, Nat.le_of_ble_eq_true rfl, Nat.le_of_ble_eq_true rfl⟩ dX13_memory_17 (fun x6 μ5 => ?_)
    refine g_st (st' := [.int x6]) rfl ?_
    exact s_iret C E dX13_memory_20
/-! PinEnginesModel.portOwner()I -/
def fX13_portOwner (n0 : Nat) (μ : Mem) : Option (Int32 × Mem) :=
  nm (wI μ 26 n0 6 (0 : Int32)) fun μ1 =>
  ckI (2 : Int32) (if 0 = 4 then 7000 else 700) <|
  some ((μ1.1 27 0 (2 : Int32).toNatClampNeg), μ1)
set_option maxHeartbeats 4000000 in
set_option maxRecDepth 100000 in
theorem kX13_portOwner (l : Launch) (n0 : Nat) (g0 : n0 < 1) : Kon 1 l yX13_portOwner cX13_portOwner 1 (some .int) 0 0 0 0 (fun ad => [.ref (ad 26 n0)]) rvI (fun μ => fX13_portOwner n0 μ) := by
  refine kon_of (by decide) (fun _ => Nat.le_of_ble_eq_true rfl) (fun X r0 μ hXl hXn V C E => ?_)
  have hN : ∀ i : Nat, i < 1 → i < xn X := fun i h => hXn.symm ▸ h
  have R0 := fen_rm E
  show G X r0 0 0 μ 0 [(0, .ref (xa X 26 n0))] [] (fX13_portOwner n0 μ)
  unfold fX13_portOwner
  refine s_aload_n C dX13_portOwner_0 rfl 0 rfl ?_
  refine s_iconst (v := (0 : Int32)) C dX13_portOwner_1 (by decide) ?_
  refine s_putI C (fpX13_231_26 (Nat.le_trans (by decide) V)) g0 dX13_portOwner_2 ?_
  refine g_nmM (fun μ1 => ?_)
  refine s_aload_n C dX13_portOwner_5 rfl 0 rfl ?_
  refine s_getF C (fgX13_9_26 (Nat.le_trans (by decide) V)) g0 dX13_portOwner_6 ?_
  refine s_iconst (v := (2 : Int32)) C dX13_portOwner_9 (by decide) ?_
  refine s_iald C (ag27 (Nat.le_trans (by decide) V)) (by decide) dX13_portOwner_10 ?_
  exact s_iret C E dX13_portOwner_11
/-! PinEnginesModel.tell(II)I -/
def fX13_tell (n0 : Nat) (p1 : Int32) (p2 : Int32) (μ : Mem) : Option (Int32 × Mem) :=
  nm (wI μ 26 n0 6 (0 : Int32)) fun μ1 =>
  bnd (fX13_exists n0 p1 μ1) fun x3 μ2 =>
  if ¬ x3 = 0 then (
    bnd (fX13_of n0 p1 p2 μ2) fun x6 μ5 =>
    some (x6, μ5)
  ) else (
    bnd (fX13_raise n0 (1 : Int32) μ2) fun x8 μ7 =>
    some (x8, μ7)
  )
set_option maxHeartbeats 4000000 in
set_option maxRecDepth 100000 in
theorem kX13_tell (l : Launch) (n0 : Nat) (g0 : n0 < 1) (p1 : Int32) (p2 : Int32) : Kon 1 l yX13_tell cX13_tell 3 (some .int) 2 43 0 0 (fun ad => [.ref (ad 26 n0), .int p1, .int p2]) rvI (fun μ => fX13_tell n0 p1 p2 μ) := by
  refine kon_of (by decide) (fun _ => Nat.le_of_ble_eq_true rfl) (fun X r0 μ hXl hXn V C E => ?_)
  have hN : ∀ i : Nat, i < 3 → i < xn X := fun i h => hXn.symm ▸ h
  have R0 := fen_rm E
  show G X r0 0 0 μ 0 [(0, .ref (xa X 26 n0)), (1, .int p1), (2, .int p2)] [] (fX13_tell n0 p1 p2 μ)
  unfold fX13_tell
  refine s_aload_n C dX13_tell_0 rfl 0 rfl ?_
  refine s_iconst (v := (0 : Int32)) C dX13_tell_1 (by decide) ?_
  refine s_putI C (fpX13_231_26 (Nat.le_trans (by decide) V)) g0 dX13_tell_2 ?_
  refine g_nmM (fun μ1 => ?_)
  refine s_aload_n C dX13_tell_5 rfl 0 rfl ?_
  refine s_iload_n C dX13_tell_6 rfl 1 rfl ?_
  refine s_callV C R0 (kX13_exists (xl X) n0 g0 p1) (Nat.le_trans (by decide) V) mmX13_exists miX13_exists q2303 (rc26 (Nat.le_trans (by decide) V)) g0 rfl rfl rfl (Nat.le_of_ble_eq_true rfl) ⟨Nat.le_of_ble_eq_true rfl, Nat.le_of_ble_eq_true rfl, Nat.le_of_ble_eq_true rfl, Nat.le_of_ble_eq_true rfl⟩ dX13_tell_7 (fun x3 μ2 => ?_)
  refine g_st (st' := [.int x3]) rfl ?_
  refine s_if_ne (tgt := 19) C dX13_tell_10 (by decide) (fun c4 => ?_) (fun c4 => ?_)
  ·
    refine s_aload_n C dX13_tell_19 rfl 0 rfl ?_
    refine s_iload_n C dX13_tell_20 rfl 1 rfl ?_
    refine s_iload_n C dX13_tell_21 rfl 2 rfl ?_
    refine s_callV C R0 (kX13_of (xl X) n0 g0 p1 p2) (Nat.le_trans (by decide) V) mmX13_of miX13_of q2307 (rc26 (Nat.le_trans (by decide) V)) g0 rfl rfl rfl (Nat.le_of_ble_eq_true rfl) ⟨Nat.le_of_ble_eq_true rfl, Nat.le_of_ble_eq_true rfl, Nat.le_of_ble_eq_true rfl, Nat.le_of_ble_eq_true rfl⟩ dX13_tell_22 (fun x6 μ5 => ?_)
    refine g_st (st' := [.int x6]) rfl ?_
    exact s_iret C E dX13_tell_25
  ·
    refine s_aload_n C dX13_tell_13 rfl 0 rfl ?_
    refine s_iconst (v := (1 : Int32)) C dX13_tell_14 (by decide) ?_
    refine s_callV C R0 (kX13_raise (xl X) n0 g0 (1 : Int32)) (Nat.le_trans (by decide) V) mmX13_raise miX13_raise q2259 (rc26 (Nat.le_trans (by decide) V)) g0 rfl rfl rfl (Nat.le_of_ble_eq_true rfl) ⟨Nat.le_of_ble_eq_true rfl, Nat.le_of_ble_eq_true rfl, Nat.le_of_ble_eq_true rfl, Nat.le_of_ble_eq_true rfl⟩ dX13_tell_15 (fun x8 μ7 => ?_)
    refine g_st (st' := [.int x8]) rfl ?_
    exact s_iret C E dX13_tell_18
/-! PinEnginesModel.pc(I)I -/
def fX13_pc (n0 : Nat) (p1 : Int32) (μ : Mem) : Option (Int32 × Mem) :=
  bnd (fX13_tell n0 p1 (1 : Int32) μ) fun x2 μ1 =>
  some (x2, μ1)
set_option maxHeartbeats 4000000 in
set_option maxRecDepth 100000 in
theorem kX13_pc (l : Launch) (n0 : Nat) (g0 : n0 < 1) (p1 : Int32) : Kon 1 l yX13_pc cX13_pc 2 (some .int) 3 65 0 0 (fun ad => [.ref (ad 26 n0), .int p1]) rvI (fun μ => fX13_pc n0 p1 μ) := by
  refine kon_of (by decide) (fun _ => Nat.le_of_ble_eq_true rfl) (fun X r0 μ hXl hXn V C E => ?_)
  have hN : ∀ i : Nat, i < 2 → i < xn X := fun i h => hXn.symm ▸ h
  have R0 := fen_rm E
  show G X r0 0 0 μ 0 [(0, .ref (xa X 26 n0)), (1, .int p1)] [] (fX13_pc n0 p1 μ)
  unfold fX13_pc
  refine s_aload_n C dX13_pc_0 rfl 0 rfl ?_
  refine s_iload_n C dX13_pc_1 rfl 1 rfl ?_
  refine s_iconst (v := (1 : Int32)) C dX13_pc_2 (by decide) ?_
  refine s_callV C R0 (kX13_tell (xl X) n0 g0 p1 (1 : Int32)) (Nat.le_trans (by decide) V) mmX13_tell miX13_tell q2299 (rc26 (Nat.le_trans (by decide) V)) g0 rfl rfl rfl (Nat.le_of_ble_eq_true rfl) ⟨Nat.le_of_ble_eq_true rfl, Nat.le_of_ble_eq_true rfl, Nat.le_of_ble_eq_true rfl, Nat.le_of_ble_eq_true rfl⟩ dX13_pc_3 (fun x2 μ1 => ?_)
  refine g_st (st' := [.int x2]) rfl ?_
  exact s_iret C E dX13_pc_6
/-! PinEnginesModel.register(II)I -/
def fX13_register (n0 : Nat) (p1 : Int32) (p2 : Int32) (μ : Mem) : Option (Int32 × Mem) :=
  jn (fun (μ1 : Mem) =>
    bnd (fX13_raise n0 (1 : Int32) μ1) fun x3 μ2 =>
    some (x3, μ2)
  ) fun j22 =>
  nm (wI μ 26 n0 6 (0 : Int32)) fun μ4 =>
  bnd (fX13_exists n0 p1 μ4) fun x6 μ5 =>
  if x6 = 0 then (
    j22 μ5
  ) else (
    bnd (fX13_inRange p2 (0 : Int32) (3 : Int32) μ5) fun x9 μ8 =>
    if ¬ x9 = 0 then (
      bnd (fX13_of n0 p1 ((2 : Int32) + p2) μ8) fun x12 μ11 =>
      some (x12, μ11)
    ) else (
      j22 μ8
    )
  )
set_option maxHeartbeats 4000000 in
set_option maxRecDepth 100000 in
theorem kX13_register (l : Launch) (n0 : Nat) (g0 : n0 < 1) (p1 : Int32) (p2 : Int32) : Kon 1 l yX13_register cX13_register 3 (some .int) 2 43 0 0 (fun ad => [.ref (ad 26 n0), .int p1, .int p2]) rvI (fun μ => fX13_register n0 p1 p2 μ) := by
  refine kon_of (by decide) (fun _ => Nat.le_of_ble_eq_true rfl) (fun X r0 μ hXl hXn V C E => ?_)
  have hN : ∀ i : Nat, i < 3 → i < xn X := fun i h => hXn.symm ▸ h
  have R0 := fen_rm E
  show G X r0 0 0 μ 0 [(0, .ref (xa X 26 n0)), (1, .int p1), (2, .int p2)] [] (fX13_register n0 p1 p2 μ)
  unfold fX13_register
  refine g_jn (P := fun j22 => ∀ (μ1 : Mem), G X r0 0 0 μ1 22 [(0, .ref (xa X 26 n0))] [] (j22 μ1)) ?_ (fun j22 hj22 => ?_)
  · intro μ1
    refine s_aload_n C dX13_register_22 rfl 0 rfl ?_
    refine s_iconst (v := (1 : Int32)) C dX13_register_23 (by decide) ?_
    refine s_callV C R0 (kX13_raise (xl X) n0 g0 (1 : Int32)) (Nat.le_trans (by decide) V) mmX13_raise miX13_raise q2259 (rc26 (Nat.le_trans (by decide) V)) g0 rfl rfl rfl (Nat.le_of_ble_eq_true rfl) ⟨Nat.le_of_ble_eq_true rfl, Nat.le_of_ble_eq_true rfl, Nat.le_of_ble_eq_true rfl, Nat.le_of_ble_eq_true rfl⟩ dX13_register_24 (fun x3 μ2 => ?_)
    refine g_st (st' := [.int x3]) rfl ?_
    exact s_iret C E dX13_register_27
  refine s_aload_n C dX13_register_0 rfl 0 rfl ?_
  refine s_iconst (v := (0 : Int32)) C dX13_register_1 (by decide) ?_
  refine s_putI C (fpX13_231_26 (Nat.le_trans (by decide) V)) g0 dX13_register_2 ?_
  refine g_nmM (fun μ4 => ?_)
  refine s_aload_n C dX13_register_5 rfl 0 rfl ?_
  refine s_iload_n C dX13_register_6 rfl 1 rfl ?_
  refine s_callV C R0 (kX13_exists (xl X) n0 g0 p1) (Nat.le_trans (by decide) V) mmX13_exists miX13_exists q2303 (rc26 (Nat.le_trans (by decide) V)) g0 rfl rfl rfl (Nat.le_of_ble_eq_true rfl) ⟨Nat.le_of_ble_eq_true rfl, Nat.le_of_ble_eq_true rfl, Nat.le_of_ble_eq_true rfl, Nat.le_of_ble_eq_true rfl⟩ dX13_register_7 (fun x6 μ5 => ?_)
  refine g_st (st' := [.int x6]) rfl ?_
  refine s_if_eq (tgt := 22) C dX13_register_10 (by decide) (fun c7 => ?_) (fun c7 => ?_)
  ·
    exact g_sub [0] rfl (hj22 μ5)
  ·
    refine s_iload_n C dX13_register_13 rfl 2 rfl ?_
    refine s_iconst (v := (0 : Int32)) C dX13_register_14 (by decide) ?_
    refine s_iconst (v := (3 : Int32)) C dX13_register_15 (by decide) ?_
    refine s_callS C R0 (kX13_inRange (xl X) p2 (0 : Int32) (3 : Int32)) (Nat.le_trans (by decide) V) mmX13_inRange q2257 q2256 rfl rfl rfl rfl (Nat.le_of_ble_eq_true rfl) ⟨Nat.le_of_ble_eq_true rfl, Nat.le_of_ble_eq_true rfl, Nat.le_of_ble_eq_true rfl, Nat.le_of_ble_eq_true rfl⟩ dX13_register_16 (fun x9 μ8 => ?_)
    refine g_st (st' := [.int x9]) rfl ?_
    refine s_if_ne (tgt := 28) C dX13_register_19 (by decide) (fun c10 => ?_) (fun c10 => ?_)
    ·
      refine s_aload_n C dX13_register_28 rfl 0 rfl ?_
      refine s_iload_n C dX13_register_29 rfl 1 rfl ?_
      refine s_iconst (v := (2 : Int32)) C dX13_register_30 (by decide) ?_
      refine s_iload_n C dX13_register_31 rfl 2 rfl ?_
      refine s_iadd C dX13_register_32 ?_
      refine s_callV C R0 (kX13_of (xl X) n0 g0 p1 ((2 : Int32) + p2)) (Nat.le_trans (by decide) V) mmX13_of miX13_of q2307 (rc26 (Nat.le_trans (by decide) V)) g0 rfl rfl rfl (Nat.le_of_ble_eq_true rfl) ⟨Nat.le_of_ble_eq_true rfl, Nat.le_of_ble_eq_true rfl, Nat.le_of_ble_eq_true rfl, Nat.le_of_ble_eq_true rfl⟩ dX13_register_33 (fun x12 μ11 => ?_)
      refine g_st (st' := [.int x12]) rfl ?_
      exact s_iret C E dX13_register_36
    ·
      exact g_sub [0] rfl (hj22 μ8)
/-! PinEnginesModel.fill(I)I -/
def fX13_fill (n0 : Nat) (p1 : Int32) (μ : Mem) : Option (Int32 × Mem) :=
  bnd (fX13_tell n0 p1 (6 : Int32) μ) fun x2 μ1 =>
  some (x2, μ1)
set_option maxHeartbeats 4000000 in
set_option maxRecDepth 100000 in
theorem kX13_fill (l : Launch) (n0 : Nat) (g0 : n0 < 1) (p1 : Int32) : Kon 1 l yX13_fill cX13_fill 2 (some .int) 3 65 0 0 (fun ad => [.ref (ad 26 n0), .int p1]) rvI (fun μ => fX13_fill n0 p1 μ) := by
  refine kon_of (by decide) (fun _ => Nat.le_of_ble_eq_true rfl) (fun X r0 μ hXl hXn V C E => ?_)
  have hN : ∀ i : Nat, i < 2 → i < xn X := fun i h => hXn.symm ▸ h
  have R0 := fen_rm E
  show G X r0 0 0 μ 0 [(0, .ref (xa X 26 n0)), (1, .int p1)] [] (fX13_fill n0 p1 μ)
  unfold fX13_fill
  refine s_aload_n C dX13_fill_0 rfl 0 rfl ?_
  refine s_iload_n C dX13_fill_1 rfl 1 rfl ?_
  refine s_bipush (v := (6 : Int32)) C dX13_fill_2 (by decide) ?_
  refine s_callV C R0 (kX13_tell (xl X) n0 g0 p1 (6 : Int32)) (Nat.le_trans (by decide) V) mmX13_tell miX13_tell q2299 (rc26 (Nat.le_trans (by decide) V)) g0 rfl rfl rfl (Nat.le_of_ble_eq_true rfl) ⟨Nat.le_of_ble_eq_true rfl, Nat.le_of_ble_eq_true rfl, Nat.le_of_ble_eq_true rfl, Nat.le_of_ble_eq_true rfl⟩ dX13_fill_4 (fun x2 μ1 => ?_)
  refine g_st (st' := [.int x2]) rfl ?_
  exact s_iret C E dX13_fill_7
/-! PinEnginesModel.spent(I)I -/
def fX13_spent (n0 : Nat) (p1 : Int32) (μ : Mem) : Option (Int32 × Mem) :=
  bnd (fX13_tell n0 p1 (7 : Int32) μ) fun x2 μ1 =>
  some (x2, μ1)
set_option maxHeartbeats 4000000 in
set_option maxRecDepth 100000 in
theorem kX13_spent (l : Launch) (n0 : Nat) (g0 : n0 < 1) (p1 : Int32) : Kon 1 l yX13_spent cX13_spent 2 (some .int) 3 65 0 0 (fun ad => [.ref (ad 26 n0), .int p1]) rvI (fun μ => fX13_spent n0 p1 μ) := by
  refine kon_of (by decide) (fun _ => Nat.le_of_ble_eq_true rfl) (fun X r0 μ hXl hXn V C E => ?_)
  have hN : ∀ i : Nat, i < 2 → i < xn X := fun i h => hXn.symm ▸ h
  have R0 := fen_rm E
  show G X r0 0 0 μ 0 [(0, .ref (xa X 26 n0)), (1, .int p1)] [] (fX13_spent n0 p1 μ)
  unfold fX13_spent
  refine s_aload_n C dX13_spent_0 rfl 0 rfl ?_
  refine s_iload_n C dX13_spent_1 rfl 1 rfl ?_
  refine s_bipush (v := (7 : Int32)) C dX13_spent_2 (by decide) ?_
  refine s_callV C R0 (kX13_tell (xl X) n0 g0 p1 (7 : Int32)) (Nat.le_trans (by decide) V) mmX13_tell miX13_tell q2299 (rc26 (Nat.le_trans (by decide) V)) g0 rfl rfl rfl (Nat.le_of_ble_eq_true rfl) ⟨Nat.le_of_ble_eq_true rfl, Nat.le_of_ble_eq_true rfl, Nat.le_of_ble_eq_true rfl, Nat.le_of_ble_eq_true rfl⟩ dX13_spent_4 (fun x2 μ1 => ?_)
  refine g_st (st' := [.int x2]) rfl ?_
  exact s_iret C E dX13_spent_7
/-! PinEnginesModel.delayLeft(I)I -/
def fX13_delayLeft (n0 : Nat) (p1 : Int32) (μ : Mem) : Option (Int32 × Mem) :=
  bnd (fX13_tell n0 p1 (8 : Int32) μ) fun x2 μ1 =>
  some (x2, μ1)
set_option maxHeartbeats 4000000 in
set_option maxRecDepth 100000 in
theorem kX13_delayLeft (l : Launch) (n0 : Nat) (g0 : n0 < 1) (p1 : Int32) : Kon 1 l yX13_delayLeft cX13_delayLeft 2 (some .int) 3 65 0 0 (fun ad => [.ref (ad 26 n0), .int p1]) rvI (fun μ => fX13_delayLeft n0 p1 μ) := by
  refine kon_of (by decide) (fun _ => Nat.le_of_ble_eq_true rfl) (fun X r0 μ hXl hXn V C E => ?_)
  have hN : ∀ i : Nat, i < 2 → i < xn X := fun i h => hXn.symm ▸ h
  have R0 := fen_rm E
  show G X r0 0 0 μ 0 [(0, .ref (xa X 26 n0)), (1, .int p1)] [] (fX13_delayLeft n0 p1 μ)
  unfold fX13_delayLeft
  refine s_aload_n C dX13_delayLeft_0 rfl 0 rfl ?_
  refine s_iload_n C dX13_delayLeft_1 rfl 1 rfl ?_
  refine s_bipush (v := (8 : Int32)) C dX13_delayLeft_2 (by decide) ?_
  refine s_callV C R0 (kX13_tell (xl X) n0 g0 p1 (8 : Int32)) (Nat.le_trans (by decide) V) mmX13_tell miX13_tell q2299 (rc26 (Nat.le_trans (by decide) V)) g0 rfl rfl rfl (Nat.le_of_ble_eq_true rfl) ⟨Nat.le_of_ble_eq_true rfl, Nat.le_of_ble_eq_true rfl, Nat.le_of_ble_eq_true rfl, Nat.le_of_ble_eq_true rfl⟩ dX13_delayLeft_4 (fun x2 μ1 => ?_)
  refine g_st (st' := [.int x2]) rfl ?_
  exact s_iret C E dX13_delayLeft_7
