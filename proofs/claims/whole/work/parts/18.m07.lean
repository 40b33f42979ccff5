/-! PinEnginesModel.enter()V -/
def fX13_enter (fu : Nat) (n0 : Nat) (μ : Mem) : Option (Unit × Mem) :=
  jn (fun (μ1 : Mem) (a2 : Nat) (x4 : Int32) =>
    bnd (fX13_check a2 x4 (3 : Int32) μ1) fun _ μ5 =>
    nm (wI μ5 26 n0 29 ((μ5.1 26 n0 29) + (1 : Int32))) fun μ6 =>
    bnd (fX13_advance fu n0 μ6) fun _ μ7 =>
    some ((), μ7)
  ) fun j15 =>
  if (6 : Int32) ≤ (μ.1 26 n0 29) then (
    j15 μ n0 (0 : Int32)
  ) else (
    j15 μ n0 (1 : Int32)
  )
set_option maxHeartbeats 4000000 in
set_option maxRecDepth 100000 in
theorem kX13_enter (l : Launch) (fu : Nat) (n0 : Nat) (g0 : n0 < 1) : Kon 1 l yX13_enter cX13_enter 1 (none) 4 82 0 0 (fun ad => [.ref (ad 26 n0)]) rvV (fun μ => fX13_enter fu n0 μ) := by
  refine kon_of (by decide) (fun _ => Nat.le_of_ble_eq_true rfl) (fun X r0 μ hXl hXn V C E => ?_)
  have hN : ∀ i : Nat, i < 1 → i < xn X := fun i h => hXn.symm ▸ h
  have R0 := fen_rm E
  show G X r0 0 0 μ 0 [(0, .ref (xa X 26 n0))] [] (fX13_enter fu n0 μ)
  unfold fX13_enter
  refine g_jn (P := fun j15 => ∀ (μ1 : Mem) (a2 : Nat) (x4 : Int32), a2 < 1 → G X r0 0 0 μ1 15 [(0, .ref (xa X 26 n0))] [.int x4, .ref (xa X 26 a2)] (j15 μ1 a2 x4)) ?_ (fun j15 hj15 => ?_)
  · intro μ1 a2 x4 b3
    refine s_iconst (v := (3 : Int32)) C dX13_enter_15 (by decide) ?_
    refine s_callV C R0 (kX13_check (xl X) a2 b3 x4 (3 : Int32)) (Nat.le_trans (by decide) V) mmX13_check miX13_check q2680 (rc26 (Nat.le_trans (by decide) V)) b3 rfl rfl rfl (Nat.le_of_ble_eq_true rfl) ⟨Nat.le_of_ble_eq_true rfl, Nat.le_of_ble_eq_true rfl, Nat.le_of_ble_eq_true rfl, Nat.le_of_ble_eq_true rfl⟩ dX13_enter_16 (fun _ μ5 => ?_)
    refine g_st (st' := []) rfl ?_
    refine s_aload_n C dX13_enter_19 rfl 0 rfl ?_
    refine s_dup C dX13_enter_20 rfl ?_
    refine s_getI C (fgX13_493_26 (Nat.le_trans (by decide) V)) g0 dX13_enter_21 ?_
    refine s_iconst (v := (1 : Int32)) C dX13_enter_24 (by decide) ?_
    refine s_iadd C dX13_enter_25 ?_
    refine s_putI C (fpX13_493_26 (Nat.le_trans (by decide) V)) g0 dX13_enter_26 ?_
    refine g_nmM (fun μ6 => ?_)
    refine s_aload_n C dX13_enter_29 rfl 0 rfl ?_
    refine s_callV C R0 (kX13_advance (xl X) fu n0 g0) (Nat.le_trans (by decide) V) mmX13_advance miX13_advance q2692 (rc26 (Nat.le_trans (by decide) V)) g0 rfl rfl rfl (Nat.le_of_ble_eq_true rfl) ⟨Nat.le_of_ble_eq_true rfl, Nat.le_of_ble_eq_true rfl, Nat.le_of_ble_eq_true rfl, Nat.le_of_ble_eq_true rfl⟩ dX13_enter_30 (fun _ μ7 => ?_)
    refine g_st (st' := []) rfl ?_
    exact s_vret C E dX13_enter_33
  refine s_aload_n C dX13_enter_0 rfl 0 rfl ?_
  refine s_aload_n C dX13_enter_1 rfl 0 rfl ?_
  refine s_getI C (fgX13_493_26 (Nat.le_trans (by decide) V)) g0 dX13_enter_2 ?_
  refine s_bipush (v := (6 : Int32)) C dX13_enter_5 (by decide) ?_
  refine s_icmp_ge (tgt := 14) C dX13_enter_7 (by decide) (fun c8 => ?_) (fun c8 => ?_)
  ·
    refine s_iconst (v := (0 : Int32)) C dX13_enter_14 (by decide) ?_
    exact g_sub [0] rfl (hj15 μ n0 (0 : Int32) g0)
  ·
    refine s_iconst (v := (1 : Int32)) C dX13_enter_10 (by decide) ?_
    refine s_goto (tgt := 15) C dX13_enter_11 (by decide) ?_
    exact g_sub [0] rfl (hj15 μ n0 (1 : Int32) g0)
/-! PinEnginesModel.compileValue()V -/
def fX13_compileValue (fu : Nat) (n0 : Nat) (μ : Mem) : Option (Unit × Mem) :=
  jn (fun (μ1 : Mem) =>
    bnd (fX13_number fu n0 (0 : Int32) (99999 : Int32) μ1) fun x3 μ2 =>
    bnd (fX13_emit n0 x3 μ2) fun _ μ4 =>
    some ((), μ4)
  ) fun j15 =>
  if ¬ (μ.1 26 n0 26) = 0 then (
    j15 μ
  ) else (
    if ¬ (μ.1 26 n0 25) = (2 : Int32) then (
      jn (fun (μ7 : Mem) (x8 : Int32) (a9 : Nat) (x11 : Int32) =>
        bnd (fX13_check a9 x11 (1 : Int32) μ7) fun _ μ12 =>
        bnd (fX13_emit n0 ((-1 : Int32) - x8) μ12) fun _ μ13 =>
        bnd (fX13_advance fu n0 μ13) fun _ μ14 =>
        some ((), μ14)
      ) fun j48 =>
      bnd (fX13_indexIn fu n0 4 μ) fun x16 μ15 =>
      if x16 = (-1 : Int32) then (
        j48 μ15 x16 n0 (0 : Int32)
      ) else (
        j48 μ15 x16 n0 (1 : Int32)
      )
    ) else (
      j15 μ
    )
  )
set_option maxHeartbeats 4000000 in
set_option maxRecDepth 100000 in
theorem kX13_compileValue (l : Launch) (fu : Nat) (n0 : Nat) (g0 : n0 < 1) : Kon 1 l yX13_compileValue cX13_compileValue 2 (none) 6 130 0 0 (fun ad => [.ref (ad 26 n0)]) rvV (fun μ => fX13_compileValue fu n0 μ) := by
  refine kon_of (by decide) (fun _ => Nat.le_of_ble_eq_true rfl) (fun X r0 μ hXl hXn V C E => ?_)
  have hN : ∀ i : Nat, i < 2 → i < xn X := fun i h => hXn.symm ▸ h
  have R0 := fen_rm E
  show G X r0 0 0 μ 0 [(0, .ref (xa X 26 n0))] [] (fX13_compileValue fu n0 μ)
  unfold fX13_compileValue
  refine g_jn (P := fun j15 => ∀ (μ1 : Mem), G X r0 0 0 μ1 15 [(0, .ref (xa X 26 n0))] [] (j15 μ1)) ?_ (fun j15 hj15 => ?_)
  · intro μ1
    refine s_aload_n C dX13_compileValue_15 rfl 0 rfl ?_
    refine s_aload_n C dX13_compileValue_16 rfl 0 rfl ?_
    refine s_iconst (v := (0 : Int32)) C dX13_compileValue_17 (by decide) ?_
    refine s_ldcw (v := (99999 : Int32)) C q2868 dX13_compileValue_18 ?_
    refine s_callV C R0 (kX13_number (xl X) fu n0 g0 (0 : Int32) (99999 : Int32)) (Nat.le_trans (by decide) V) mmX13_number miX13_number q2720 (rc26 (Nat.le_trans (by decide) V)) g0 rfl rfl rfl (Nat.le_of_ble_eq_true rfl) ⟨Nat.le_of_ble_eq_true rfl, Nat.le_of_ble_eq_true rfl, Nat.le_of_ble_eq_true rfl, Nat.le_of_ble_eq_true rfl⟩ dX13_compileValue_21 (fun x3 μ2 => ?_)
    refine g_st (st' := [.int x3, .ref (xa X 26 n0)]) rfl ?_
    refine s_callV C R0 (kX13_emit (xl X) n0 g0 x3) (Nat.le_trans (by decide) V) mmX13_emit miX13_emit q2860 (rc26 (Nat.le_trans (by decide) V)) g0 rfl rfl rfl (Nat.le_of_ble_eq_true rfl) ⟨Nat.le_of_ble_eq_true rfl, Nat.le_of_ble_eq_true rfl, Nat.le_of_ble_eq_true rfl, Nat.le_of_ble_eq_true rfl⟩ dX13_compileValue_24 (fun _ μ4 => ?_)
    refine g_st (st' := []) rfl ?_
    exact s_vret C E dX13_compileValue_27
  refine s_aload_n C dX13_compileValue_0 rfl 0 rfl ?_
  refine s_getI C (fgX13_490_26 (Nat.le_trans (by decide) V)) g0 dX13_compileValue_1 ?_
  refine s_if_ne (tgt := 15) C dX13_compileValue_4 (by decide) (fun c5 => ?_) (fun c5 => ?_)
  ·
    exact g_sub [0] rfl (hj15 μ)
  ·
    refine s_aload_n C dX13_compileValue_7 rfl 0 rfl ?_
    refine s_getI C (fgX13_481_26 (Nat.le_trans (by decide) V)) g0 dX13_compileValue_8 ?_
    refine s_iconst (v := (2 : Int32)) C dX13_compileValue_11 (by decide) ?_
    refine s_icmp_ne (tgt := 28) C dX13_compileValue_12 (by decide) (fun c6 => ?_) (fun c6 => ?_)
    ·
      refine g_jn (P := fun j48 => ∀ (μ7 : Mem) (x8 : Int32) (a9 : Nat) (x11 : Int32), a9 < 1 → G X r0 0 0 μ7 48 [(0, .ref (xa X 26 n0)), (1, .int x8)] [.int x11, .ref (xa X 26 a9)] (j48 μ7 x8 a9 x11)) ?_ (fun j48 hj48 => ?_)
      · intro μ7 x8 a9 x11 b10
        refine s_iconst (v := (1 : Int32)) C dX13_compileValue_48 (by decide) ?_
        refine s_callV C R0 (kX13_check (xl X) a9 b10 x11 (1 : Int32)) (Nat.le_trans (by decide) V) mmX13_check miX13_check q2680 (rc26 (Nat.le_trans (by decide) V)) b10 rfl rfl rfl (Nat.le_of_ble_eq_true rfl) ⟨Nat.le_of_ble_eq_true rfl, Nat.le_of_ble_eq_true rfl, Nat.le_of_ble_eq_true rfl, Nat.le_of_ble_eq_true rfl⟩ dX13_compileValue_49 (fun _ μ12 => ?_)
        refine g_st (st' := []) rfl ?_
        refine s_aload_n C dX13_compileValue_52 rfl 0 rfl ?_
        refine s_iconst (v := (-1 : Int32)) C dX13_compileValue_53 (by decide) ?_
        refine s_iload_n C dX13_compileValue_54 rfl 1 rfl ?_
        refine s_isub C dX13_compileValue_55 ?_
        refine s_callV C R0 (kX13_emit (xl X) n0 g0 ((-1 : Int32) - x8)) (Nat.le_trans (by decide) V) mmX13_emit miX13_emit q2860 (rc26 (Nat.le_trans (by decide) V)) g0 rfl rfl rfl (Nat.le_of_ble_eq_true rfl) ⟨Nat.le_of_ble_eq_true rfl, Nat.le_of_ble_eq_true rfl, Nat.le_of_ble_eq_true rfl, Nat.le_of_ble_eq_true rfl⟩ dX13_compileValue_56 (fun _ μ13 => ?_)
        refine g_st (st' := []) rfl ?_
        refine s_aload_n C dX13_compileValue_59 rfl 0 rfl ?_
        refine s_callV C R0 (kX13_advance (xl X) fu n0 g0) (Nat.le_trans (by decide) V) mmX13_advance miX13_advance q2692 (rc26 (Nat.le_trans (by decide) V)) g0 rfl rfl rfl (Nat.le_of_ble_eq_true rfl) ⟨Nat.le_of_ble_eq_true rfl, Nat.le_of_ble_eq_true rfl, Nat.le_of_ble_eq_true rfl, Nat.le_of_ble_eq_true rfl⟩ dX13_compileValue_60 (fun _ μ14 => ?_)
        refine g_st (st' := []) rfl ?_
        exact s_vret C E dX13_compileValue_63
      refine s_aload_n C dX13_compileValue_28 rfl 0 rfl ?_
      refine s_aload_n C dX13_compileValue_29 rfl 0 rfl ?_
      refine s_getF C (fgX13_216_26 (Nat.le_trans (by decide) V)) g0 dX13_compileValue_30 ?_
      refine s_callV C R0 (kX13_indexIn (xl X) fu n0 g0 4 (by decide)) (Nat.le_trans (by decide) V) mmX13_indexIn miX13_indexIn q2708 (rc26 (Nat.le_trans (by decide) V)) g0 rfl rfl rfl (Nat.le_of_ble_eq_true rfl) ⟨Nat.le_of_ble_eq_true rfl, Nat.le_of_ble_eq_true rfl, Nat.le_of_ble_eq_true rfl, Nat.le_of_ble_eq_true rfl⟩ dX13_compileValue_33 (fun x16 μ15 => ?_)
      refine g_st (st' := [.int x16]) rfl ?_
      refine s_istore_n (L' := [(1, .int x16), (0, .ref (xa X 26 n0))]) C dX13_compileValue_36 rfl (hN 1 (by decide)) rfl ?_
      refine s_aload_n C dX13_compileValue_37 rfl 1 rfl ?_
      refine s_iload_n C dX13_compileValue_38 rfl 0 rfl ?_
      refine s_iconst (v := (-1 : Int32)) C dX13_compileValue_39 (by decide) ?_
      refine s_icmp_eq (tgt := 47) C dX13_compileValue_40 (by decide) (fun c17 => ?_) (fun c17 => ?_)
      ·
        refine s_iconst (v := (0 : Int32)) C dX13_compileValue_47 (by decide) ?_
        exact g_sub [1, 0] rfl (hj48 μ15 x16 n0 (0 : Int32) g0)
      ·
        refine s_iconst (v := (1 : Int32)) C dX13_compileValue_43 (by decide) ?_
        refine s_goto (tgt := 48) C dX13_compileValue_44 (by decide) ?_
        exact g_sub [1, 0] rfl (hj48 μ15 x16 n0 (1 : Int32) g0)
    ·
      exact g_sub [0] rfl (hj15 μ)
/-! PinEnginesModel.operate(III)I -/
def fX13_operate (p0 : Int32) (p1 : Int32) (p2 : Int32) (μ : Mem) : Option (Int32 × Mem) :=
  jn (fun (μ1 : Mem) =>
    some ((p1 ||| p2), μ1)
  ) fun j73 =>
  if p0 = (-24 : Int32) then (
    some ((p1 &&& p2), μ)
  ) else (
  if p0 = (-23 : Int32) then (
    j73 μ
  ) else (
  if p0 = (-22 : Int32) then (
    jn (fun (μ5 : Mem) (x6 : Int32) =>
      some (x6, μ5)
    ) fun j68 =>
    if p1 ≤ p2 then (
      j68 μ (0 : Int32)
    ) else (
      j68 μ (1 : Int32)
    )
  ) else (
  if p0 = (-21 : Int32) then (
    jn (fun (μ9 : Mem) (x10 : Int32) =>
      some (x10, μ9)
    ) fun j57 =>
    if ¬ p1 = p2 then (
      j57 μ (0 : Int32)
    ) else (
      j57 μ (1 : Int32)
    )
  ) else (
  if p0 = (-20 : Int32) then (
    jn (fun (μ13 : Mem) (x14 : Int32) =>
      some (x14, μ13)
    ) fun j46 =>
    if p2 ≤ p1 then (
      j46 μ (0 : Int32)
    ) else (
      j46 μ (1 : Int32)
    )
  ) else (
  j73 μ
  )))))
set_option maxHeartbeats 4000000 in
set_option maxRecDepth 100000 in
theorem kX13_operate (l : Launch) (p0 : Int32) (p1 : Int32) (p2 : Int32) : Kon 1 l yX13_operate cX13_operate 3 (some .int) 0 0 0 0 (fun _ => [.int p0, .int p1, .int p2]) rvI (fun μ => fX13_operate p0 p1 p2 μ) := by
  refine kon_of (by decide) (fun _ => Nat.le_of_ble_eq_true rfl) (fun X r0 μ hXl hXn V C E => ?_)
  have hN : ∀ i : Nat, i < 3 → i < xn X := fun i h => hXn.symm ▸ h
  have R0 := fen_rm E
  show G X r0 0 0 μ 0 [(0, .int p0), (1, .int p1), (2, .int p2)] [] (fX13_operate p0 p1 p2 μ)
  unfold fX13_operate
  refine g_jn (P := fun j73 => ∀ (μ1 : Mem), G X r0 0 0 μ1 73 [(1, .int p1), (2, .int p2)] [] (j73 μ1)) ?_ (fun j73 hj73 => ?_)
  · intro μ1
    refine s_iload_n C dX13_operate_73 rfl 0 rfl ?_
    refine s_iload_n C dX13_operate_74 rfl 1 rfl ?_
    refine s_ior C dX13_operate_75 ?_
    exact s_iret C E dX13_operate_76
  refine s_iload_n C dX13_operate_0 rfl 0 rfl ?_
  refine g_cases (v := (-24 : Int32)) (fun c2 => ?_) (fun c2 => ?_)
  ·
    refine s_tin (tgt := 69) C dX13_operate_1 c2 (by decide) (by decide) rfl (by decide) ?_
    refine s_iload_n C dX13_operate_69 rfl 1 rfl ?_
    refine s_iload_n C dX13_operate_70 rfl 2 rfl ?_
    refine s_iand C dX13_operate_71 ?_
    exact s_iret C E dX13_operate_72
  ·
    refine g_cases (v := (-23 : Int32)) (fun c3 => ?_) (fun c3 => ?_)
    ·
      refine s_tin (tgt := 73) C dX13_operate_1 c3 (by decide) (by decide) rfl (by decide) ?_
      exact g_sub [1, 2] rfl (hj73 μ)
    ·
      refine g_cases (v := (-22 : Int32)) (fun c4 => ?_) (fun c4 => ?_)
      ·
        refine s_tin (tgt := 58) C dX13_operate_1 c4 (by decide) (by decide) rfl (by decide) ?_
        refine g_jn (P := fun j68 => ∀ (μ5 : Mem) (x6 : Int32), G X r0 0 0 μ5 68 [] [.int x6] (j68 μ5 x6)) ?_ (fun j68 hj68 => ?_)
        · intro μ5 x6
          exact s_iret C E dX13_operate_68
        refine s_iload_n C dX13_operate_58 rfl 1 rfl ?_
        refine s_iload_n C dX13_operate_59 rfl 2 rfl ?_
        refine s_icmp_le (tgt := 67) C dX13_operate_60 (by decide) (fun c7 => ?_) (fun c7 => ?_)
        ·
          refine s_iconst (v := (0 : Int32)) C dX13_operate_67 (by decide) ?_
          exact g_sub [] rfl (hj68 μ (0 : Int32))
        ·
          refine s_iconst (v := (1 : Int32)) C dX13_operate_63 (by decide) ?_
          refine s_goto (tgt := 68) C dX13_operate_64 (by decide) ?_
          exact g_sub [] rfl (hj68 μ (1 : Int32))
      ·
        refine g_cases (v := (-21 : Int32)) (fun c8 => ?_) (fun c8 => ?_)
        ·
          refine s_tin (tgt := 47) C dX13_operate_1 c8 (by decide) (by decide) rfl (by decide) ?_
          refine g_jn (P := fun j57 => ∀ (μ9 : Mem) (x10 : Int32), G X r0 0 0 μ9 57 [] [.int x10] (j57 μ9 x10)) ?_ (fun j57 hj57 => ?_)
          · intro μ9 x10
            exact s_iret C E dX13_operate_57
          refine s_iload_n C dX13_operate_47 rfl 1 rfl ?_
          refine s_iload_n C dX13_operate_48 rfl 2 rfl ?_
          refine s_icmp_ne (tgt := 56) C dX13_operate_49 (by decide) (fun c11 => ?_) (fun c11 => ?_)
          ·
            refine s_iconst (v := (0 : Int32)) C dX13_operate_56 (by decide) ?_
            exact g_sub [] rfl (hj57 μ (0 : Int32))
          ·
            refine s_iconst (v := (1 : Int32)) C dX13_operate_52 (by decide) ?_
            refine s_goto (tgt := 57) C dX13_operate_53 (by decide) ?_
            exact g_sub [] rfl (hj57 μ (1 : Int32))
        ·
          refine g_cases (v := (-20 : Int32)) (fun c12 => ?_) (fun c12 => ?_)
          ·
            refine s_tin (tgt := 36) C dX13_operate_1 c12 (by decide) (by decide) rfl (by decide) ?_
            refine g_jn (P := fun j46 => ∀ (μ13 : Mem) (x14 : Int32), G X r0 0 0 μ13 46 [] [.int x14] (j46 μ13 x14)) ?_ (fun j46 hj46 => ?_)
            · intro μ13 x14
              exact s_iret C E dX13_operate_46
            refine s_iload_n C dX13_operate_36 rfl 1 rfl ?_
            refine s_iload_n C dX13_operate_37 rfl 2 rfl ?_
            refine s_icmp_ge (tgt := 45) C dX13_operate_38 (by decide) (fun c15 => ?_) (fun c15 => ?_)
            ·
              refine s_iconst (v := (0 : Int32)) C dX13_operate_45 (by decide) ?_
              exact g_sub [] rfl (hj46 μ (0 : Int32))
            ·
              refine s_iconst (v := (1 : Int32)) C dX13_operate_41 (by decide) ?_
              refine s_goto (tgt := 46) C dX13_operate_42 (by decide) ?_
              exact g_sub [] rfl (hj46 μ (1 : Int32))
          ·
            refine s_tout (tgt := 73) C dX13_operate_1 (by have := ine (i := -24) (by decide) c2; have := ine (i := -23) (by decide) c3; have := ine (i := -22) (by decide) c4; have := ine (i := -21) (by decide) c8; have := ine (i := -20) (by decide) c12; omega) (by decide) ?_
            exact g_sub [1, 2] rfl (hj73 μ)
/-! PinEnginesModel.property(II)I -/
def fX13_property (n0 : Nat) (p1 : Int32) (p2 : Int32) (μ : Mem) : Option (Int32 × Mem) :=
  jn (fun (μ1 : Mem) (x2 : Int32) =>
    some (x2, μ1)
  ) fun j19 =>
  if ¬ p2 = 0 then (
    ckI p2 (mil.getD 14 0) <|
    bnd (fX13_of n0 p1 (μ.1 28 14 p2.toNatClampNeg) μ) fun x5 μ4 =>
    j19 μ4 x5
  ) else (
    j19 μ p1
  )
set_option maxHeartbeats 4000000 in
set_option maxRecDepth 100000 in
theorem kX13_property (l : Launch) (n0 : Nat) (g0 : n0 < 1) (p1 : Int32) (p2 : Int32) : Kon 1 l yX13_property cX13_property 3 (some .int) 1 22 0 0 (fun ad => [.ref (ad 26 n0), .int p1, .int p2]) rvI (fun μ => fX13_property n0 p1 p2 μ) := by
  refine kon_of (by decide) (fun _ => Nat.le_of_ble_eq_true rfl) (fun X r0 μ hXl hXn V C E => ?_)
  have hN : ∀ i : Nat, i < 3 → i < xn X := fun i h => hXn.symm ▸ h
  have R0 := fen_rm E
  show G X r0 0 0 μ 0 [(0, .ref (xa X 26 n0)), (1, .int p1), (2, .int p2)] [] (fX13_property n0 p1 p2 μ)
  unfold fX13_property
  refine g_jn (P := fun j19 => ∀ (μ1 : Mem) (x2 : Int32), G X r0 0 0 μ1 19 [] [.int x2] (j19 μ1 x2)) ?_ (fun j19 hj19 => ?_)
  · intro μ1 x2
    exact s_iret C E dX13_property_19
  refine s_iload_n C dX13_property_0 rfl 2 rfl ?_
  refine s_if_ne (tgt := 8) C dX13_property_1 (by decide) (fun c3 => ?_) (fun c3 => ?_)
  ·
    refine s_aload_n C dX13_property_8 rfl 0 rfl ?_
    refine s_iload_n C dX13_property_9 rfl 1 rfl ?_
    refine s_aload_n C dX13_property_10 rfl 0 rfl ?_
    refine s_getF C (fgX13_219_26 (Nat.le_trans (by decide) V)) g0 dX13_property_11 ?_
    refine s_iload_n C dX13_property_14 rfl 2 rfl ?_
    refine s_iald C (ag28 (Nat.le_trans (by decide) V)) (by decide) dX13_property_15 ?_
    refine s_callV C R0 (kX13_of (xl X) n0 g0 p1 (μ.1 28 14 p2.toNatClampNeg)) (Nat.le_trans (by decide) V) mmX13_of miX13_of q2307 (rc26 (Nat.le_trans (by decide) V)) g0 rfl rfl rfl (Nat.le_of_ble_eq_true rfl) ⟨Nat.le_of_ble_eq_true rfl, Nat.le_of_ble_eq_true rfl, Nat.le_of_ble_eq_true rfl, Nat.le_of_ble_eq_true rfl⟩ dX13_property_16 (fun x5 μ4 => ?_)
    refine g_st (st' := [.int x5]) rfl ?_
    exact g_sub [] rfl (hj19 μ4 x5)
  ·
    refine s_iload_n C dX13_property_4 rfl 1 rfl ?_
    refine s_goto (tgt := 19) C dX13_property_5 (by decide) ?_
    exact g_sub [] rfl (hj19 μ p1)
/-! PinEnginesModel.holdsFor(I)Z -/
def fX13_holdsFor (fu : Nat) (n0 : Nat) (p1 : Int32) (μ : Mem) : Option (Int32 × Mem) :=
  jn (lp (fun _ _ _ => none) fu (fun j4 (μ1 : Mem) (x2 : Int32) (x3 : Int32) =>
    if (μ1.1 26 n0 46) ≤ x3 then (
      jn (fun (μ5 : Mem) (x6 : Int32) =>
        ckZ x6 (some (x6, μ5))
      ) fun j137 =>
      ckI (0 : Int32) (mil.getD 16 0) <|
      if ¬ (μ1.1 28 16 (0 : Int32).toNatClampNeg) = (1 : Int32) then (
        j137 μ1 (0 : Int32)
      ) else (
        j137 μ1 (1 : Int32)
      )
    ) else (
      jn (fun (μ8 : Mem) (x9 : Int32) (x10 : Int32) =>
        nm (x10 + (1 : Int32)) fun x11 =>
        j4 μ8 x9 x11
      ) fun j116 =>
      ckI x3 (mil.getD 15 0) <|
      nm ((μ1.1 28 15 x3.toNatClampNeg)) fun x12 =>
      if ¬ x12 = (-23 : Int32) then (
        if x12 ≤ (-20 : Int32) then (
          nm (x2 + (-1 : Int32)) fun x15 =>
          ckI (x15 - (1 : Int32)) (mil.getD 16 0) <|
          ckI x15 (mil.getD 16 0) <|
          bnd (fX13_operate x12 (μ1.1 28 16 (x15 - (1 : Int32)).toNatClampNeg) (μ1.1 28 16 x15.toNatClampNeg) μ1) fun x17 μ16 =>
          ckI (x15 - (1 : Int32)) (mil.getD 16 0) <|
          nm (wI μ16 28 16 (x15 - (1 : Int32)).toNatClampNeg x17) fun μ18 =>
          j116 μ18 x15 x3
        ) else (
          jn (fun (μ19 : Mem) (x20 : Int32) (a21 : Nat) (x23 : Int32) (x24 : Int32) =>
            ckI x23 (mil.getD a21 0) <|
            nm (wI μ19 28 a21 x23.toNatClampNeg x24) fun μ25 =>
            nm (x20 + (1 : Int32)) fun x26 =>
            j116 μ25 x26 x3
          ) fun j79 =>
          if x12 < 0 then (
            bnd (fX13_property n0 p1 ((-1 : Int32) - x12) μ1) fun x29 μ28 =>
            j79 μ28 x2 16 x2 x29
          ) else (
            j79 μ1 x2 16 x2 x12
          )
        )
      ) else (
        ckI (x2 - (1 : Int32)) (mil.getD 16 0) <|
        ckI (x2 - (1 : Int32)) (mil.getD 16 0) <|
        nm (wI μ1 28 16 (x2 - (1 : Int32)).toNatClampNeg ((1 : Int32) - (μ1.1 28 16 (x2 - (1 : Int32)).toNatClampNeg))) fun μ30 =>
        j116 μ30 x2 x3
      )
    )
  )) fun j4 =>
  j4 μ (0 : Int32) (0 : Int32)
set_option maxHeartbeats 4000000 in
set_option maxRecDepth 100000 in
theorem kX13_holdsFor (l : Launch) (fu : Nat) (n0 : Nat) (g0 : n0 < 1) (p1 : Int32) : Kon 1 l yX13_holdsFor cX13_holdsFor 5 (some .boolean) 2 44 0 0 (fun ad => [.ref (ad 26 n0), .int p1]) rvI (fun μ => fX13_holdsFor fu n0 p1 μ) := by
  refine kon_of (by decide) (fun _ => Nat.le_of_ble_eq_true rfl) (fun X r0 μ hXl hXn V C E => ?_)
  have hN : ∀ i : Nat, i < 5 → i < xn X := fun i h => hXn.symm ▸ h
  have R0 := fen_rm E
  show G X r0 0 0 μ 0 [(0, .ref (xa X 26 n0)), (1, .int p1)] [] (fX13_holdsFor fu n0 p1 μ)
  unfold fX13_holdsFor
  refine g_jl (P := fun j4 => ∀ (μ1 : Mem) (x2 : Int32) (x3 : Int32), G X r0 0 0 μ1 4 [(0, .ref (xa X 26 n0)), (1, .int p1), (2, .int x2), (3, .int x3)] [] (j4 μ1 x2 x3)) (fun _ _ _ => g_none) (fun j4 hj4 => ?_) (fun j4 hj4 => ?_)
  · intro μ1 x2 x3
    refine s_iload_n C dX13_holdsFor_4 rfl 3 rfl ?_
    refine s_aload_n C dX13_holdsFor_5 rfl 0 rfl ?_
    refine s_getI C (fgX13_651_26 (Nat.le_trans (by decide) V)) g0 dX13_holdsFor_6 ?_
    refine s_icmp_ge (tgt := 122) C dX13_holdsFor_9 (by decide) (fun c4 => ?_) (fun c4 => ?_)
    ·
      refine g_jn (P := fun j137 => ∀ (μ5 : Mem) (x6 : Int32), G X r0 0 0 μ5 137 [] [.int x6] (j137 μ5 x6)) ?_ (fun j137 hj137 => ?_)
      · intro μ5 x6
        exact s_zret C E dX13_holdsFor_137
      refine s_aload_n C dX13_holdsFor_122 rfl 0 rfl ?_
      refine s_getF C (fgX13_225_26 (Nat.le_trans (by decide) V)) g0 dX13_holdsFor_123 ?_
      refine s_iconst (v := (0 : Int32)) C dX13_holdsFor_126 (by decide) ?_
      refine s_iald C (ag28 (Nat.le_trans (by decide) V)) (by decide) dX13_holdsFor_127 ?_
      refine s_iconst (v := (1 : Int32)) C dX13_holdsFor_128 (by decide) ?_
      refine s_icmp_ne (tgt := 136) C dX13_holdsFor_129 (by decide) (fun c7 => ?_) (fun c7 => ?_)
      ·
        refine s_iconst (v := (0 : Int32)) C dX13_holdsFor_136 (by decide) ?_
        exact g_sub [] rfl (hj137 μ1 (0 : Int32))
      ·
        refine s_iconst (v := (1 : Int32)) C dX13_holdsFor_132 (by decide) ?_
        refine s_goto (tgt := 137) C dX13_holdsFor_133 (by decide) ?_
        exact g_sub [] rfl (hj137 μ1 (1 : Int32))
    ·
      refine g_jn (P := fun j116 => ∀ (μ8 : Mem) (x9 : Int32) (x10 : Int32), G X r0 0 0 μ8 116 [(0, .ref (xa X 26 n0)), (1, .int p1), (2, .int x9), (3, .int x10)] [] (j116 μ8 x9 x10)) ?_ (fun j116 hj116 => ?_)
      · intro μ8 x9 x10
        refine g_nmQ (fun x11 ex11 => ?_)
        refine s_iinc (v := x11) (j := 3) (L' := [(3, .int x11), (0, .ref (xa X 26 n0)), (1, .int p1), (2, .int x9)]) C dX13_holdsFor_116 rfl (by rw [ex11]; rfl) (hN 3 (by decide)) rfl ?_
        refine s_goto (tgt := 4) C dX13_holdsFor_119 (by decide) ?_
        exact g_sub [1, 2, 3, 0] rfl (hj4 μ8 x9 x11)
      refine s_aload_n C dX13_holdsFor_12 rfl 0 rfl ?_
      refine s_getF C (fgX13_222_26 (Nat.le_trans (by decide) V)) g0 dX13_holdsFor_13 ?_
      refine s_iload_n C dX13_holdsFor_16 rfl 3 rfl ?_
      refine s_iald C (ag28 (Nat.le_trans (by decide) V)) (by decide) dX13_holdsFor_17 ?_
      refine g_nmI (fun x12 => ?_)
      refine s_istore (L' := [(4, .int x12), (0, .ref (xa X 26 n0)), (1, .int p1), (2, .int x2), (3, .int x3)]) C dX13_holdsFor_18 (hN 4 (by decide)) rfl ?_
      refine s_iload C dX13_holdsFor_20 0 rfl ?_
      refine s_bipush (v := (-23 : Int32)) C dX13_holdsFor_22 (by decide) ?_
      refine s_icmp_ne (tgt := 48) C dX13_holdsFor_24 (by decide) (fun c13 => ?_) (fun c13 => ?_)
      ·
        refine s_iload C dX13_holdsFor_48 0 rfl ?_
        refine s_bipush (v := (-20 : Int32)) C dX13_holdsFor_50 (by decide) ?_
        refine s_icmp_le (tgt := 86) C dX13_holdsFor_52 (by decide) (fun c14 => ?_) (fun c14 => ?_)
        ·
          refine g_nmQ (fun x15 ex15 => ?_)
          refine s_iinc (v := x15) (j := 3) (L' := [(2, .int x15), (4, .int x12), (0, .ref (xa X 26 n0)), (1, .int p1), (3, .int x3)]) C dX13_holdsFor_86 rfl (by rw [ex15]; rfl) (hN 2 (by decide)) rfl ?_
          refine s_aload_n C dX13_holdsFor_89 rfl 2 rfl ?_
          refine s_getF C (fgX13_225_26 (Nat.le_trans (by decide) V)) g0 dX13_holdsFor_90 ?_
          refine s_iload_n C dX13_holdsFor_93 rfl 0 rfl ?_
          refine s_iconst (v := (1 : Int32)) C dX13_holdsFor_94 (by decide) ?_
          refine s_isub C dX13_holdsFor_95 ?_
          refine s_iload C dX13_holdsFor_96 1 rfl ?_
          refine s_aload_n C dX13_holdsFor_98 rfl 2 rfl ?_
          refine s_getF C (fgX13_225_26 (Nat.le_trans (by decide) V)) g0 dX13_holdsFor_99 ?_
          refine s_iload_n C dX13_holdsFor_102 rfl 0 rfl ?_
          refine s_iconst (v := (1 : Int32)) C dX13_holdsFor_103 (by decide) ?_
          refine s_isub C dX13_holdsFor_104 ?_
          refine s_iald C (ag28 (Nat.le_trans (by decide) V)) (by decide) dX13_holdsFor_105 ?_
          refine s_aload_n C dX13_holdsFor_106 rfl 2 rfl ?_
          refine s_getF C (fgX13_225_26 (Nat.le_trans (by decide) V)) g0 dX13_holdsFor_107 ?_
          refine s_iload_n C dX13_holdsFor_110 rfl 0 rfl ?_
          refine s_iald C (ag28 (Nat.le_trans (by decide) V)) (by decide) dX13_holdsFor_111 ?_
          refine s_callS C R0 (kX13_operate (xl X) x12 (μ1.1 28 16 (x15 - (1 : Int32)).toNatClampNeg) (μ1.1 28 16 x15.toNatClampNeg)) (Nat.le_trans (by decide) V) mmX13_operate q2879 q2878 rfl rfl rfl rfl (Nat.le_of_ble_eq_true rfl) ⟨Nat.le_of_ble_eq_true rfl, Nat.le_of_ble_eq_true rfl, Nat.le_of_ble_eq_true rfl, Nat.le_of_ble_eq_true rfl⟩ dX13_holdsFor_112 (fun x17 μ16 => ?_)
          refine g_st (st' := [.int x17, .int (x15 - (1 : Int32)), .ref (xa X 28 16)]) rfl ?_
          refine s_iast C (ag28 (Nat.le_trans (by decide) V)) (by decide) dX13_holdsFor_115 ?_
          refine g_nmM (fun μ18 => ?_)
          exact g_sub [2, 3, 0, 4] rfl (hj116 μ18 x15 x3)
        ·
          refine g_jn (P := fun j79 => ∀ (μ19 : Mem) (x20 : Int32) (a21 : Nat) (x23 : Int32) (x24 : Int32), a21 < 17 → G X r0 0 0 μ19 79 [(0, .ref (xa X 26 n0)), (1, .int p1), (2, .int x20), (3, .int x3)] [.int x24, .int x23, .ref (xa X 28 a21)] (j79 μ19 x20 a21 x23 x24)) ?_ (fun j79 hj79 => ?_)
          · intro μ19 x20 a21 x23 x24 b22
            refine s_iast C (ag28 (Nat.le_trans (by decide) V)) b22 dX13_holdsFor_79 ?_
            refine g_nmM (fun μ25 => ?_)
            refine g_nmQ (fun x26 ex26 => ?_)
            refine s_iinc (v := x26) (j := 2) (L' := [(2, .int x26), (0, .ref (xa X 26 n0)), (1, .int p1), (3, .int x3)]) C dX13_holdsFor_80 rfl (by rw [ex26]; rfl) (hN 2 (by decide)) rfl ?_
            refine s_goto (tgt := 116) C dX13_holdsFor_83 (by decide) ?_
            exact g_sub [1, 2, 0, 3] rfl (hj116 μ25 x26 x3)
          refine s_aload_n C dX13_holdsFor_55 rfl 1 rfl ?_
          refine s_getF C (fgX13_225_26 (Nat.le_trans (by decide) V)) g0 dX13_holdsFor_56 ?_
          refine s_iload_n C dX13_holdsFor_59 rfl 3 rfl ?_
          refine s_iload C dX13_holdsFor_60 0 rfl ?_
          refine s_if_lt (tgt := 70) C dX13_holdsFor_62 (by decide) (fun c27 => ?_) (fun c27 => ?_)
          ·
            refine s_aload_n C dX13_holdsFor_70 rfl 1 rfl ?_
            refine s_iload_n C dX13_holdsFor_71 rfl 2 rfl ?_
            refine s_iconst (v := (-1 : Int32)) C dX13_holdsFor_72 (by decide) ?_
            refine s_iload C dX13_holdsFor_73 0 rfl ?_
            refine s_isub C dX13_holdsFor_75 ?_
            refine s_callV C R0 (kX13_property (xl X) n0 g0 p1 ((-1 : Int32) - x12)) (Nat.le_trans (by decide) V) mmX13_property miX13_property q2874 (rc26 (Nat.le_trans (by decide) V)) g0 rfl rfl rfl (Nat.le_of_ble_eq_true rfl) ⟨Nat.le_of_ble_eq_true rfl, Nat.le_of_ble_eq_true rfl, Nat.le_of_ble_eq_true rfl, Nat.le_of_ble_eq_true rfl⟩ dX13_holdsFor_76 (fun x29 μ28 => ?_)
            refine g_st (st' := [.int x29, .int x2, .ref (xa X 28 16)]) rfl ?_
            exact g_sub [1, 2, 3, 4] rfl (hj79 μ28 x2 16 x2 x29 (by decide))
          ·
            refine s_iload C dX13_holdsFor_65 0 rfl ?_
            refine s_goto (tgt := 79) C dX13_holdsFor_67 (by decide) ?_
            exact g_sub [1, 2, 3, 4] rfl (hj79 μ1 x2 16 x2 x12 (by decide))
      ·
        refine s_aload_n C dX13_holdsFor_27 rfl 1 rfl ?_
        refine s_getF C (fgX13_225_26 (Nat.le_trans (by decide) V)) g0 dX13_holdsFor_28 ?_
        refine s_iload_n C dX13_holdsFor_31 rfl 3 rfl ?_
        refine s_iconst (v := (1 : Int32)) C dX13_holdsFor_32 (by decide) ?_
        refine s_isub C dX13_holdsFor_33 ?_
        refine s_iconst (v := (1 : Int32)) C dX13_holdsFor_34 (by decide) ?_
        refine s_aload_n C dX13_holdsFor_35 rfl 1 rfl ?_
        refine s_getF C (fgX13_225_26 (Nat.le_trans (by decide) V)) g0 dX13_holdsFor_36 ?_
        refine s_iload_n C dX13_holdsFor_39 rfl 3 rfl ?_
        refine s_iconst (v := (1 : Int32)) C dX13_holdsFor_40 (by decide) ?_
        refine s_isub C dX13_holdsFor_41 ?_
        refine s_iald C (ag28 (Nat.le_trans (by decide) V)) (by decide) dX13_holdsFor_42 ?_
        refine s_isub C dX13_holdsFor_43 ?_
        refine s_iast C (ag28 (Nat.le_trans (by decide) V)) (by decide) dX13_holdsFor_44 ?_
        refine g_nmM (fun μ30 => ?_)
        refine s_goto (tgt := 116) C dX13_holdsFor_45 (by decide) ?_
        exact g_sub [1, 2, 3, 4] rfl (hj116 μ30 x2 x3)
  refine s_iconst (v := (0 : Int32)) C dX13_holdsFor_0 (by decide) ?_
  refine s_istore_n (L' := [(2, .int (0 : Int32)), (0, .ref (xa X 26 n0)), (1, .int p1)]) C dX13_holdsFor_1 rfl (hN 2 (by decide)) rfl ?_
  refine s_iconst (v := (0 : Int32)) C dX13_holdsFor_2 (by decide) ?_
  refine s_istore_n (L' := [(3, .int (0 : Int32)), (2, .int (0 : Int32)), (0, .ref (xa X 26 n0)), (1, .int p1)]) C dX13_holdsFor_3 rfl (hN 3 (by decide)) rfl ?_
  exact g_sub [2, 3, 1, 0] rfl (hj4 μ (0 : Int32) (0 : Int32))
/-! PinEngines$Engine.countCycle(LPinEngines$Setup;)Z -/
def fX1_countCycle (n0 : Nat) (n1 : Nat) (μ : Mem) : Option (Int32 × Mem) :=
  if ¬ (μ.1 18 n0 10) = 0 then (
    nm (wI μ 18 n0 9 ((μ.1 18 n0 9) + (256 : Int32))) fun μ2 =>
    if (μ2.1 8 n1 4) ≤ (μ2.1 18 n0 9) then (
      nm (wI μ2 18 n0 9 ((μ2.1 18 n0 9) - (μ2.1 8 n1 4))) fun μ4 =>
      ckZ (1 : Int32) (some ((1 : Int32), μ4))
    ) else (
      ckZ (0 : Int32) (some ((0 : Int32), μ2))
    )
  ) else (
    ckZ (0 : Int32) (some ((0 : Int32), μ))
  )
set_option maxHeartbeats 4000000 in
set_option maxRecDepth 100000 in
theorem kX1_countCycle (l : Launch) (n0 : Nat) (g0 : n0 < 52) (n1 : Nat) (g1 : n1 < 8) : Kon 0 l yX1_countCycle cX1_countCycle 2 (some .boolean) 0 0 0 0 (fun ad => [.ref (ad 18 n0), .ref (ad 8 n1)]) rvI (fun μ => fX1_countCycle n0 n1 μ) := by
  refine kon_of (by decide) (fun _ => Nat.le_of_ble_eq_true rfl) (fun X r0 μ hXl hXn V C E => ?_)
  have hN : ∀ i : Nat, i < 2 → i < xn X := fun i h => hXn.symm ▸ h
  have R0 := fen_rm E
  show G X r0 0 0 μ 0 [(0, .ref (xa X 18 n0)), (1, .ref (xa X 8 n1))] [] (fX1_countCycle n0 n1 μ)
  unfold fX1_countCycle
  refine s_aload_n C dX1_countCycle_0 rfl 0 rfl ?_
  refine s_getI C (fgX1_29_18 _) g0 dX1_countCycle_1 ?_
  refine s_if_ne (tgt := 9) C dX1_countCycle_4 (by decide) (fun c1 => ?_) (fun c1 => ?_)
  ·
    refine s_aload_n C dX1_countCycle_9 rfl 0 rfl ?_
    refine s_dup C dX1_countCycle_10 rfl ?_
    refine s_getI C (fgX1_69_18 _) g0 dX1_countCycle_11 ?_
    refine s_sipush (v := (256 : Int32)) C dX1_countCycle_14 (by decide) ?_
    refine s_iadd C dX1_countCycle_17 ?_
    refine s_putI C (fpX1_69_18 _) g0 dX1_countCycle_18 ?_
    refine g_nmM (fun μ2 => ?_)
    refine s_aload_n C dX1_countCycle_21 rfl 0 rfl ?_
    refine s_getI C (fgX1_69_18 _) g0 dX1_countCycle_22 ?_
    refine s_aload_n C dX1_countCycle_25 rfl 1 rfl ?_
    refine s_getI C (fgX1_66_8 _) g1 dX1_countCycle_26 ?_
    refine s_icmp_ge (tgt := 34) C dX1_countCycle_29 (by decide) (fun c3 => ?_) (fun c3 => ?_)
    ·
      refine s_aload_n C dX1_countCycle_34 rfl 0 rfl ?_
      refine s_dup C dX1_countCycle_35 rfl ?_
      refine s_getI C (fgX1_69_18 _) g0 dX1_countCycle_36 ?_
      refine s_aload_n C dX1_countCycle_39 rfl 1 rfl ?_
      refine s_getI C (fgX1_66_8 _) g1 dX1_countCycle_40 ?_
      refine s_isub C dX1_countCycle_43 ?_
      refine s_putI C (fpX1_69_18 _) g0 dX1_countCycle_44 ?_
      refine g_nmM (fun μ4 => ?_)
      refine s_iconst (v := (1 : Int32)) C dX1_countCycle_47 (by decide) ?_
      exact s_zret C E dX1_countCycle_48
    ·
      refine s_iconst (v := (0 : Int32)) C dX1_countCycle_32 (by decide) ?_
      exact s_zret C E dX1_countCycle_33
  ·
    refine s_iconst (v := (0 : Int32)) C dX1_countCycle_7 (by decide) ?_
    exact s_zret C E dX1_countCycle_8
/-! PinEngines$Engine.setIsr(II)V -/
def fX1_setIsr (n0 : Nat) (p1 : Int32) (p2 : Int32) (μ : Mem) : Option (Unit × Mem) :=
  nm (wI μ 18 n0 3 p1) fun μ1 =>
  nm (wI μ1 18 n0 5 p2) fun μ2 =>
  some ((), μ2)
set_option maxHeartbeats 4000000 in
set_option maxRecDepth 100000 in
theorem kX1_setIsr (l : Launch) (n0 : Nat) (g0 : n0 < 52) (p1 : Int32) (p2 : Int32) : Kon 0 l yX1_setIsr cX1_setIsr 3 (none) 0 0 0 0 (fun ad => [.ref (ad 18 n0), .int p1, .int p2]) rvV (fun μ => fX1_setIsr n0 p1 p2 μ) := by
  refine kon_of (by decide) (fun _ => Nat.le_of_ble_eq_true rfl) (fun X r0 μ hXl hXn V C E => ?_)
  have hN : ∀ i : Nat, i < 3 → i < xn X := fun i h => hXn.symm ▸ h
  have R0 := fen_rm E
  show G X r0 0 0 μ 0 [(0, .ref (xa X 18 n0)), (1, .int p1), (2, .int p2)] [] (fX1_setIsr n0 p1 p2 μ)
  unfold fX1_setIsr
  refine s_aload_n C dX1_setIsr_0 rfl 0 rfl ?_
  refine s_iload_n C dX1_setIsr_1 rfl 1 rfl ?_
  refine s_putI C (fpX1_48_18 _) g0 dX1_setIsr_2 ?_
  refine g_nmM (fun μ1 => ?_)
  refine s_aload_n C dX1_setIsr_5 rfl 0 rfl ?_
  refine s_iload_n C dX1_setIsr_6 rfl 2 rfl ?_
  refine s_putI C (fpX1_54_18 _) g0 dX1_setIsr_7 ?_
  refine g_nmM (fun μ2 => ?_)
  exact s_vret C E dX1_setIsr_10
/-! PinEngines$Engine.setOsr(I)V -/
def fX1_setOsr (n0 : Nat) (p1 : Int32) (μ : Mem) : Option (Unit × Mem) :=
  nm (wI μ 18 n0 4 p1) fun μ1 =>
  nm (wI μ1 18 n0 6 (0 : Int32)) fun μ2 =>
  some ((), μ2)
set_option maxHeartbeats 4000000 in
set_option maxRecDepth 100000 in
theorem kX1_setOsr (l : Launch) (n0 : Nat) (g0 : n0 < 52) (p1 : Int32) : Kon 0 l yX1_setOsr cX1_setOsr 2 (none) 0 0 0 0 (fun ad => [.ref (ad 18 n0), .int p1]) rvV (fun μ => fX1_setOsr n0 p1 μ) := by
  refine kon_of (by decide) (fun _ => Nat.le_of_ble_eq_true rfl) (fun X r0 μ hXl hXn V C E => ?_)
  have hN : ∀ i : Nat, i < 2 → i < xn X := fun i h => hXn.symm ▸ h
  have R0 := fen_rm E
  show G X r0 0 0 μ 0 [(0, .ref (xa X 18 n0)), (1, .int p1)] [] (fX1_setOsr n0 p1 μ)
  unfold fX1_setOsr
  refine s_aload_n C dX1_setOsr_0 rfl 0 rfl ?_
  refine s_iload_n C dX1_setOsr_1 rfl 1 rfl ?_
  refine s_putI C (fpX1_51_18 _) g0 dX1_setOsr_2 ?_
  refine g_nmM (fun μ1 => ?_)
  refine s_aload_n C dX1_setOsr_5 rfl 0 rfl ?_
  refine s_iconst (v := (0 : Int32)) C dX1_setOsr_6 (by decide) ?_
  refine s_putI C (fpX1_57_18 _) g0 dX1_setOsr_7 ?_
  refine g_nmM (fun μ2 => ?_)
  exact s_vret C E dX1_setOsr_10
/-! PinEngines$Instruction.clearTo(LPinEngines$Symbol;)V -/
def fX2_clearTo (n0 : Nat) (n1 : Nat) (μ : Mem) : Option (Unit × Mem) :=
  nm (wR μ 9 n0 0 n1) fun μ1 =>
  nm (wI μ1 9 n0 1 (-1 : Int32)) fun μ2 =>
  nm (wR μ2 9 n0 2 0) fun μ3 =>
  nm (wR μ3 9 n0 3 0) fun μ4 =>
  nm (wR μ4 9 n0 4 0) fun μ5 =>
  nm (wI μ5 9 n0 5 (-1 : Int32)) fun μ6 =>
  nm (wI μ6 9 n0 6 (-1 : Int32)) fun μ7 =>
  nm (wI μ7 9 n0 7 (0 : Int32)) fun μ8 =>
  some ((), μ8)
set_option maxHeartbeats 4000000 in
set_option maxRecDepth 100000 in
theorem kX2_clearTo (l : Launch) (n0 : Nat) (g0 : n0 < 66) (n1 : Nat) (g1 : n1 < 74) : Kon 0 l yX2_clearTo cX2_clearTo 2 (none) 0 0 0 0 (fun ad => [.ref (ad 9 n0), .ref (ad 50 n1)]) rvV (fun μ => fX2_clearTo n0 n1 μ) := by
  refine kon_of (by decide) (fun _ => Nat.le_of_ble_eq_true rfl) (fun X r0 μ hXl hXn V C E => ?_)
  have hN : ∀ i : Nat, i < 2 → i < xn X := fun i h => hXn.symm ▸ h
  have R0 := fen_rm E
  show G X r0 0 0 μ 0 [(0, .ref (xa X 9 n0)), (1, .ref (xa X 50 n1))] [] (fX2_clearTo n0 n1 μ)
  unfold fX2_clearTo
  refine s_aload_n C dX2_clearTo_0 rfl 0 rfl ?_
  refine s_aload_n C dX2_clearTo_1 rfl 1 rfl ?_
  refine s_putM C (fpX2_15_9 _) g0 dX2_clearTo_2 ?_
  refine g_nmM (fun μ1 => ?_)
  refine s_aload_n C dX2_clearTo_5 rfl 0 rfl ?_
  refine s_iconst (v := (-1 : Int32)) C dX2_clearTo_6 (by decide) ?_
  refine s_putI C (fpX2_20_9 _) g0 dX2_clearTo_7 ?_
  refine g_nmM (fun μ2 => ?_)
  refine s_aload_n C dX2_clearTo_10 rfl 0 rfl ?_
  refine s_gsym (i := 0) C (by decide) rfl q254 dX2_clearTo_11 ?_
  refine s_putM C (fpX2_24_9 _) g0 dX2_clearTo_14 ?_
  refine g_nmM (fun μ3 => ?_)
  refine s_aload_n C dX2_clearTo_17 rfl 0 rfl ?_
  refine s_gsym (i := 0) C (by decide) rfl q254 dX2_clearTo_18 ?_
  refine s_putM C (fpX2_27_9 _) g0 dX2_clearTo_21 ?_
  refine g_nmM (fun μ4 => ?_)
  refine s_aload_n C dX2_clearTo_24 rfl 0 rfl ?_
  refine s_gsym (i := 0) C (by decide) rfl q254 dX2_clearTo_25 ?_
  refine s_putM C (fpX2_30_9 _) g0 dX2_clearTo_28 ?_
  refine g_nmM (fun μ5 => ?_)
  refine s_aload_n C dX2_clearTo_31 rfl 0 rfl ?_
  refine s_iconst (v := (-1 : Int32)) C dX2_clearTo_32 (by decide) ?_
  refine s_putI C (fpX2_33_9 _) g0 dX2_clearTo_33 ?_
  refine g_nmM (fun μ6 => ?_)
  refine s_aload_n C dX2_clearTo_36 rfl 0 rfl ?_
  refine s_iconst (v := (-1 : Int32)) C dX2_clearTo_37 (by decide) ?_
  refine s_putI C (fpX2_36_9 _) g0 dX2_clearTo_38 ?_
  refine g_nmM (fun μ7 => ?_)
  refine s_aload_n C dX2_clearTo_41 rfl 0 rfl ?_
  refine s_iconst (v := (0 : Int32)) C dX2_clearTo_42 (by decide) ?_
  refine s_putI C (fpX2_39_9 _) g0 dX2_clearTo_43 ?_
  refine g_nmM (fun μ8 => ?_)
  exact s_vret C E dX2_clearTo_46
/-! PinEngines$Instruction.usesPort()Z -/
def fX2_usesPort (n0 : Nat) (μ : Mem) : Option (Int32 × Mem) :=
  jn (fun (μ1 : Mem) (x2 : Int32) =>
    ckZ x2 (some (x2, μ1))
  ) fun j25 =>
  jn (fun (μ3 : Mem) =>
    j25 μ3 (1 : Int32)
  ) fun j20 =>
  nm (μ.2.1 9 n0 0) fun a4 =>
  ckB a4 74 <|
  if a4 = 41 then (
    j20 μ
  ) else (
    nm (μ.2.1 9 n0 0) fun a7 =>
    ckB a7 74 <|
    if ¬ a7 = 42 then (
      j25 μ (0 : Int32)
    ) else (
      j20 μ
    )
  )
set_option maxHeartbeats 4000000 in
set_option maxRecDepth 100000 in
theorem kX2_usesPort (l : Launch) (n0 : Nat) (g0 : n0 < 66) : Kon 0 l yX2_usesPort cX2_usesPort 1 (some .boolean) 0 0 0 0 (fun ad => [.ref (ad 9 n0)]) rvI (fun μ => fX2_usesPort n0 μ) := by
  refine kon_of (by decide) (fun _ => Nat.le_of_ble_eq_true rfl) (fun X r0 μ hXl hXn V C E => ?_)
  have hN : ∀ i : Nat, i < 1 → i < xn X := fun i h => hXn.symm ▸ h
  have R0 := fen_rm E
  show G X r0 0 0 μ 0 [(0, .ref (xa X 9 n0))] [] (fX2_usesPort n0 μ)
  unfold fX2_usesPort
  refine g_jn (P := fun j25 => ∀ (μ1 : Mem) (x2 : Int32), G X r0 0 0 μ1 25 [] [.int x2] (j25 μ1 x2)) ?_ (fun j25 hj25 => ?_)
  · intro μ1 x2
    exact s_zret C E dX2_usesPort_25
  refine g_jn (P := fun j20 => ∀ (μ3 : Mem), G X r0 0 0 μ3 20 [] [] (j20 μ3)) ?_ (fun j20 hj20 => ?_)
  · intro μ3
    refine s_iconst (v := (1 : Int32)) C dX2_usesPort_20 (by decide) ?_
    refine s_goto (tgt := 25) C dX2_usesPort_21 (by decide) ?_
    exact g_sub [] rfl (hj25 μ3 (1 : Int32))
  refine s_aload_n C dX2_usesPort_0 rfl 0 rfl ?_
  refine s_getM C (fgX2_15_9 _) g0 dX2_usesPort_1 ?_
  refine g_nmA (fun a4 => ?_)
  refine g_ckB (fun b5 => ?_)
  refine s_gsym (i := 41) C (by decide) rfl q1506 dX2_usesPort_4 ?_
  refine s_acmp_eq (tgt := 20) C b5 (by decide) dX2_usesPort_7 (by decide) (fun c6 => ?_) (fun c6 => ?_)
  ·
    exact g_sub [] rfl (hj20 μ)
  ·
    refine s_aload_n C dX2_usesPort_10 rfl 0 rfl ?_
    refine s_getM C (fgX2_15_9 _) g0 dX2_usesPort_11 ?_
    refine g_nmA (fun a7 => ?_)
    refine g_ckB (fun b8 => ?_)
    refine s_gsym (i := 42) C (by decide) rfl q1508 dX2_usesPort_14 ?_
    refine s_acmp_ne (tgt := 24) C b8 (by decide) dX2_usesPort_17 (by decide) (fun c9 => ?_) (fun c9 => ?_)
    ·
      refine s_iconst (v := (0 : Int32)) C dX2_usesPort_24 (by decide) ?_
      exact g_sub [] rfl (hj25 μ (0 : Int32))
    ·
      exact g_sub [] rfl (hj20 μ)
/-! PinEngines$Machine.levels()I -/
def fX3_levels (n0 : Nat) (μ : Mem) : Option (Int32 × Mem) :=
  some ((((μ.1 12 n0 1) &&& (μ.1 12 n0 2)) ||| ((μ.1 12 n0 3) &&& ((μ.1 12 n0 2) ^^^ (-1 : Int32)))), μ)
set_option maxHeartbeats 4000000 in
set_option maxRecDepth 100000 in
theorem kX3_levels (l : Launch) (n0 : Nat) (g0 : n0 < 13) : Kon 0 l yX3_levels cX3_levels 1 (some .int) 0 0 0 0 (fun ad => [.ref (ad 12 n0)]) rvI (fun μ => fX3_levels n0 μ) := by
  refine kon_of (by decide) (fun _ => Nat.le_of_ble_eq_true rfl) (fun X r0 μ hXl hXn V C E => ?_)
  have hN : ∀ i : Nat, i < 1 → i < xn X := fun i h => hXn.symm ▸ h
  have R0 := fen_rm E
  show G X r0 0 0 μ 0 [(0, .ref (xa X 12 n0))] [] (fX3_levels n0 μ)
  unfold fX3_levels
  refine s_aload_n C dX3_levels_0 rfl 0 rfl ?_
  refine s_getI C (fgX3_38_12 _) g0 dX3_levels_1 ?_
  refine s_aload_n C dX3_levels_4 rfl 0 rfl ?_
  refine s_getI C (fgX3_41_12 _) g0 dX3_levels_5 ?_
  refine s_iand C dX3_levels_8 ?_
  refine s_aload_n C dX3_levels_9 rfl 0 rfl ?_
  refine s_getI C (fgX3_49_12 _) g0 dX3_levels_10 ?_
  refine s_aload_n C dX3_levels_13 rfl 0 rfl ?_
  refine s_getI C (fgX3_41_12 _) g0 dX3_levels_14 ?_
  refine s_iconst (v := (-1 : Int32)) C dX3_levels_17 (by decide) ?_
  refine s_ixor C dX3_levels_18 ?_
  refine s_iand C dX3_levels_19 ?_
  refine s_ior C dX3_levels_20 ?_
  exact s_iret C E dX3_levels_21
/-! PinEngines$Machine.writeLatches(II)V -/
def fX3_writeLatches (n0 : Nat) (p1 : Int32) (p2 : Int32) (μ : Mem) : Option (Unit × Mem) :=
  nm (wI μ 12 n0 1 (((μ.1 12 n0 1) &&& (p1 ^^^ (-1 : Int32))) ||| (p2 &&& p1))) fun μ1 =>
  some ((), μ1)
set_option maxHeartbeats 4000000 in
set_option maxRecDepth 100000 in
theorem kX3_writeLatches (l : Launch) (n0 : Nat) (g0 : n0 < 13) (p1 : Int32) (p2 : Int32) : Kon 0 l yX3_writeLatches cX3_writeLatches 3 (none) 0 0 0 0 (fun ad => [.ref (ad 12 n0), .int p1, .int p2]) rvV (fun μ => fX3_writeLatches n0 p1 p2 μ) := by
  refine kon_of (by decide) (fun _ => Nat.le_of_ble_eq_true rfl) (fun X r0 μ hXl hXn V C E => ?_)
  have hN : ∀ i : Nat, i < 3 → i < xn X := fun i h => hXn.symm ▸ h
  have R0 := fen_rm E
  show G X r0 0 0 μ 0 [(0, .ref (xa X 12 n0)), (1, .int p1), (2, .int p2)] [] (fX3_writeLatches n0 p1 p2 μ)
  unfold fX3_writeLatches
  refine s_aload_n C dX3_writeLatches_0 rfl 0 rfl ?_
  refine s_aload_n C dX3_writeLatches_1 rfl 0 rfl ?_
  refine s_getI C (fgX3_38_12 _) g0 dX3_writeLatches_2 ?_
  refine s_iload_n C dX3_writeLatches_5 rfl 1 rfl ?_
  refine s_iconst (v := (-1 : Int32)) C dX3_writeLatches_6 (by decide) ?_
  refine s_ixor C dX3_writeLatches_7 ?_
  refine s_iand C dX3_writeLatches_8 ?_
  refine s_iload_n C dX3_writeLatches_9 rfl 2 rfl ?_
  refine s_iload_n C dX3_writeLatches_10 rfl 1 rfl ?_
  refine s_iand C dX3_writeLatches_11 ?_
  refine s_ior C dX3_writeLatches_12 ?_
  refine s_putI C (fpX3_38_12 _) g0 dX3_writeLatches_13 ?_
  refine g_nmM (fun μ1 => ?_)
  exact s_vret C E dX3_writeLatches_16
/-! PinEngines$Machine.writeOutputs(II)V -/
def fX3_writeOutputs (n0 : Nat) (p1 : Int32) (p2 : Int32) (μ : Mem) : Option (Unit × Mem) :=
  nm (wI μ 12 n0 2 (((μ.1 12 n0 2) &&& (p1 ^^^ (-1 : Int32))) ||| (p2 &&& p1))) fun μ1 =>
  some ((), μ1)
set_option maxHeartbeats 4000000 in
set_option maxRecDepth 100000 in
theorem kX3_writeOutputs (l : Launch) (n0 : Nat) (g0 : n0 < 13) (p1 : Int32) (p2 : Int32) : Kon 0 l yX3_writeOutputs cX3_writeOutputs 3 (none) 0 0 0 0 (fun ad => [.ref (ad 12 n0), .int p1, .int p2]) rvV (fun μ => fX3_writeOutputs n0 p1 p2 μ) := by
  refine kon_of (by decide) (fun _ => Nat.le_of_ble_eq_true rfl) (fun X r0 μ hXl hXn V C E => ?_)
  have hN : ∀ i : Nat, i < 3 → i < xn X := fun i h => hXn.symm ▸ h
  have R0 := fen_rm E
  show G X r0 0 0 μ 0 [(0, .ref (xa X 12 n0)), (1, .int p1), (2, .int p2)] [] (fX3_writeOutputs n0 p1 p2 μ)
  unfold fX3_writeOutputs
  refine s_aload_n C dX3_writeOutputs_0 rfl 0 rfl ?_
  refine s_aload_n C dX3_writeOutputs_1 rfl 0 rfl ?_
  refine s_getI C (fgX3_41_12 _) g0 dX3_writeOutputs_2 ?_
  refine s_iload_n C dX3_writeOutputs_5 rfl 1 rfl ?_
  refine s_iconst (v := (-1 : Int32)) C dX3_writeOutputs_6 (by decide) ?_
  refine s_ixor C dX3_writeOutputs_7 ?_
  refine s_iand C dX3_writeOutputs_8 ?_
  refine s_iload_n C dX3_writeOutputs_9 rfl 2 rfl ?_
  refine s_iload_n C dX3_writeOutputs_10 rfl 1 rfl ?_
  refine s_iand C dX3_writeOutputs_11 ?_
  refine s_ior C dX3_writeOutputs_12 ?_
  refine s_putI C (fpX3_41_12 _) g0 dX3_writeOutputs_13 ?_
  refine g_nmM (fun μ1 => ?_)
  exact s_vret C E dX3_writeOutputs_16
/-! PinEngines$Machine.driveOutside(II)V -/
def fX3_driveOutside (n0 : Nat) (p1 : Int32) (p2 : Int32) (μ : Mem) : Option (Unit × Mem) :=
  nm (wI μ 12 n0 3 (((μ.1 12 n0 3) &&& (((1 : Int32) <<< (p1 &&& 31)) ^^^ (-1 : Int32))) ||| (p2 <<< (p1 &&& 31)))) fun μ1 =>
  some ((), μ1)
set_option maxHeartbeats 4000000 in
set_option maxRecDepth 100000 in
theorem kX3_driveOutside (l : Launch) (n0 : Nat) (g0 : n0 < 13) (p1 : Int32) (p2 : Int32) : Kon 0 l yX3_driveOutside cX3_driveOutside 3 (none) 0 0 0 0 (fun ad => [.ref (ad 12 n0), .int p1, .int p2]) rvV (fun μ => fX3_driveOutside n0 p1 p2 μ) := by
  refine kon_of (by decide) (fun _ => Nat.le_of_ble_eq_true rfl) (fun X r0 μ hXl hXn V C E => ?_)
  have hN : ∀ i : Nat, i < 3 → i < xn X := fun i h => hXn.symm ▸ h
  have R0 := fen_rm E
  show G X r0 0 0 μ 0 [(0, .ref (xa X 12 n0)), (1, .int p1), (2, .int p2)] [] (fX3_driveOutside n0 p1 p2 μ)
  unfold fX3_driveOutside
  refine s_aload_n C dX3_driveOutside_0 rfl 0 rfl ?_
  refine s_aload_n C dX3_driveOutside_1 rfl 0 rfl ?_
  refine s_getI C (fgX3_49_12 _) g0 dX3_driveOutside_2 ?_
  refine s_iconst (v := (1 : Int32)) C dX3_driveOutside_5 (by decide) ?_
  refine s_iload_n C dX3_driveOutside_6 rfl 1 rfl ?_
  refine s_ishl C dX3_driveOutside_7 ?_
  refine s_iconst (v := (-1 : Int32)) C dX3_driveOutside_8 (by decide) ?_
  refine s_ixor C dX3_driveOutside_9 ?_
  refine s_iand C dX3_driveOutside_10 ?_
  refine s_iload_n C dX3_driveOutside_11 rfl 2 rfl ?_
  refine s_iload_n C dX3_driveOutside_12 rfl 1 rfl ?_
  refine s_ishl C dX3_driveOutside_13 ?_
  refine s_ior C dX3_driveOutside_14 ?_
  refine s_putI C (fpX3_49_12 _) g0 dX3_driveOutside_15 ?_
  refine g_nmM (fun μ1 => ?_)
  exact s_vret C E dX3_driveOutside_18
/-! PinEngines$Machine.addScheduled(III)V -/
def fX3_addScheduled (n0 : Nat) (p1 : Int32) (p2 : Int32) (p3 : Int32) (μ : Mem) : Option (Unit × Mem) :=
  jn (fun (μ1 : Mem) =>
    some ((), μ1)
  ) fun j37 =>
  if (32 : Int32) ≤ (μ.1 12 n0 8) then (
    j37 μ
  ) else (
    ckI (μ.1 12 n0 8) (32) <|
    nm (wI μ 15 n0 (μ.1 12 n0 8).toNatClampNeg (((p1 <<< ((5 : Int32) &&& 31)) ||| (p2 <<< ((1 : Int32) &&& 31))) ||| p3)) fun μ3 =>
    nm (wI μ3 12 n0 8 ((μ3.1 12 n0 8) + (1 : Int32))) fun μ4 =>
    j37 μ4
  )
set_option maxHeartbeats 4000000 in
set_option maxRecDepth 100000 in
theorem kX3_addScheduled (l : Launch) (n0 : Nat) (g0 : n0 < 13) (p1 : Int32) (p2 : Int32) (p3 : Int32) : Kon 0 l yX3_addScheduled cX3_addScheduled 4 (none) 0 0 0 0 (fun ad => [.ref (ad 12 n0), .int p1, .int p2, .int p3]) rvV (fun μ => fX3_addScheduled n0 p1 p2 p3 μ) := by
  refine kon_of (by decide) (fun _ => Nat.le_of_ble_eq_true rfl) (fun X r0 μ hXl hXn V C E => ?_)
  have hN : ∀ i : Nat, i < 4 → i < xn X := fun i h => hXn.symm ▸ h
  have R0 := fen_rm E
  show G X r0 0 0 μ 0 [(0, .ref (xa X 12 n0)), (1, .int p1), (2, .int p2), (3, .int p3)] [] (fX3_addScheduled n0 p1 p2 p3 μ)
  unfold fX3_addScheduled
  refine g_jn (P := fun j37 => ∀ (μ1 : Mem), G X r0 0 0 μ1 37 [] [] (j37 μ1)) ?_ (fun j37 hj37 => ?_)
  · intro μ1
    exact s_vret C E dX3_addScheduled_37
  refine s_aload_n C dX3_addScheduled_0 rfl 0 rfl ?_
  refine s_getI C (fgX3_64_12 _) g0 dX3_addScheduled_1 ?_
  refine s_bipush (v := (32 : Int32)) C dX3_addScheduled_4 (by decide) ?_
  refine s_icmp_ge (tgt := 37) C dX3_addScheduled_6 (by decide) (fun c2 => ?_) (fun c2 => ?_)
  ·
    exact g_sub [] rfl (hj37 μ)
  ·
    refine s_aload_n C dX3_addScheduled_9 rfl 0 rfl ?_
    refine s_getF C (fgX3_21_12 _) g0 dX3_addScheduled_10 ?_
    refine s_aload_n C dX3_addScheduled_13 rfl 0 rfl ?_
    refine s_getI C (fgX3_64_12 _) g0 dX3_addScheduled_14 ?_
    refine s_iload_n C dX3_addScheduled_17 rfl 1 rfl ?_
    refine s_iconst (v := (5 : Int32)) C dX3_addScheduled_18 (by decide) ?_
    refine s_ishl C dX3_addScheduled_19 ?_
    refine s_iload_n C dX3_addScheduled_20 rfl 2 rfl ?_
    refine s_iconst (v := (1 : Int32)) C dX3_addScheduled_21 (by decide) ?_
    refine s_ishl C dX3_addScheduled_22 ?_
    refine s_ior C dX3_addScheduled_23 ?_
    refine s_iload_n C dX3_addScheduled_24 rfl 3 rfl ?_
    refine s_ior C dX3_addScheduled_25 ?_
    refine s_iast C (ag15 _) g0 dX3_addScheduled_26 ?_
    refine g_nmM (fun μ3 => ?_)
    refine s_aload_n C dX3_addScheduled_27 rfl 0 rfl ?_
    refine s_dup C dX3_addScheduled_28 rfl ?_
    refine s_getI C (fgX3_64_12 _) g0 dX3_addScheduled_29 ?_
    refine s_iconst (v := (1 : Int32)) C dX3_addScheduled_32 (by decide) ?_
    refine s_iadd C dX3_addScheduled_33 ?_
    refine s_putI C (fpX3_64_12 _) g0 dX3_addScheduled_34 ?_
    refine g_nmM (fun μ4 => ?_)
    exact g_sub [] rfl (hj37 μ4)
/-! PinEngines$Machine.applyScheduled()V -/
def fX3_applyScheduled (fu : Nat) (n0 : Nat) (μ : Mem) : Option (Unit × Mem) :=
  jn (lp (fun _ _ _ => none) fu (fun j4 (μ1 : Mem) (x2 : Int32) (x3 : Int32) =>
    if (μ1.1 12 n0 8) ≤ x3 then (
      nm (wI μ1 12 n0 8 x2) fun μ5 =>
      some ((), μ5)
    ) else (
      jn (fun (μ6 : Mem) (x7 : Int32) (x8 : Int32) =>
        nm (x8 + (1 : Int32)) fun x9 =>
        j4 μ6 x7 x9
      ) fun j55 =>
      ckI x3 (32) <|
      nm ((μ1.1 15 n0 x3.toNatClampNeg)) fun x10 =>
      if ¬ (x10 >>> ((5 : Int32) &&& 31)) = (μ1.1 12 n0 0) then (
        ckI x2 (32) <|
        nm (wI μ1 15 n0 x2.toNatClampNeg x10) fun μ12 =>
        nm (x2 + (1 : Int32)) fun x13 =>
        j55 μ12 x13 x3
      ) else (
        bnd (fX3_driveOutside n0 ((x10 >>> ((1 : Int32) &&& 31)) &&& (15 : Int32)) (x10 &&& (1 : Int32)) μ1) fun _ μ14 =>
        j55 μ14 x2 x3
      )
    )
  )) fun j4 =>
  j4 μ (0 : Int32) (0 : Int32)
set_option maxHeartbeats 4000000 in
set_option maxRecDepth 100000 in
theorem kX3_applyScheduled (l : Launch) (fu : Nat) (n0 : Nat) (g0 : n0 < 13) : Kon 0 l yX3_applyScheduled cX3_applyScheduled 4 (none) 1 22 0 0 (fun ad => [.ref (ad 12 n0)]) rvV (fun μ => fX3_applyScheduled fu n0 μ) := by
  refine kon_of (by decide) (fun _ => Nat.le_of_ble_eq_true rfl) (fun X r0 μ hXl hXn V C E => ?_)
  have hN : ∀ i : Nat, i < 4 → i < xn X := fun i h => hXn.symm ▸ h
  have R0 := fen_rm E
  show G X r0 0 0 μ 0 [(0, .ref (xa X 12 n0))] [] (fX3_applyScheduled fu n0 μ)
  unfold fX3_applyScheduled
  refine g_jl (P := fun j4 => ∀ (μ1 : Mem) (x2 : Int32) (x3 : Int32), G X r0 0 0 μ1 4 [(0, .ref (xa X 12 n0)), (1, .int x2), (2, .int x3)] [] (j4 μ1 x2 x3)) (fun _ _ _ => g_none) (fun j4 hj4 => ?_) (fun j4 hj4 => ?_)
  · intro μ1 x2 x3
    refine s_iload_n C dX3_applyScheduled_4 rfl 2 rfl ?_
    refine s_aload_n C dX3_applyScheduled_5 rfl 0 rfl ?_
    refine s_getI C (fgX3_64_12 _) g0 dX3_applyScheduled_6 ?_
    refine s_icmp_ge (tgt := 61) C dX3_applyScheduled_9 (by decide) (fun c4 => ?_) (fun c4 => ?_)
    ·
      refine s_aload_n C dX3_applyScheduled_61 rfl 0 rfl ?_
      refine s_iload_n C dX3_applyScheduled_62 rfl 1 rfl ?_
      refine s_putI C (fpX3_64_12 _) g0 dX3_applyScheduled_63 ?_
      refine g_nmM (fun μ5 => ?_)
      exact s_vret C E dX3_applyScheduled_66
    ·
      refine g_jn (P := fun j55 => ∀ (μ6 : Mem) (x7 : Int32) (x8 : Int32), G X r0 0 0 μ6 55 [(0, .ref (xa X 12 n0)), (1, .int x7), (2, .int x8)] [] (j55 μ6 x7 x8)) ?_ (fun j55 hj55 => ?_)
      · intro μ6 x7 x8
        refine g_nmQ (fun x9 ex9 => ?_)
        refine s_iinc (v := x9) (j := 2) (L' := [(2, .int x9), (0, .ref (xa X 12 n0)), (1, .int x7)]) C dX3_applyScheduled_55 rfl (by rw [ex9]; rfl) (hN 2 (by decide)) rfl ?_
        refine s_goto (tgt := 4) C dX3_applyScheduled_58 (by decide) ?_
        exact g_sub [1, 2, 0] rfl (hj4 μ6 x7 x9)
      refine s_aload_n C dX3_applyScheduled_12 rfl 0 rfl ?_
      refine s_getF C (fgX3_21_12 _) g0 dX3_applyScheduled_13 ?_
      refine s_iload_n C dX3_applyScheduled_16 rfl 2 rfl ?_
      refine s_iald C (ag15 _) g0 dX3_applyScheduled_17 ?_
      refine g_nmI (fun x10 => ?_)
      refine s_istore_n (L' := [(3, .int x10), (0, .ref (xa X 12 n0)), (1, .int x2), (2, .int x3)]) C dX3_applyScheduled_18 rfl (hN 3 (by decide)) rfl ?_
      refine s_iload_n C dX3_applyScheduled_19 rfl 0 rfl ?_
      refine s_iconst (v := (5 : Int32)) C dX3_applyScheduled_20 (by decide) ?_
      refine s_ishr C dX3_applyScheduled_21 ?_
      refine s_aload_n C dX3_applyScheduled_22 rfl 1 rfl ?_
      refine s_getI C (fgX3_34_12 _) g0 dX3_applyScheduled_23 ?_
      refine s_icmp_ne (tgt := 45) C dX3_applyScheduled_26 (by decide) (fun c11 => ?_) (fun c11 => ?_)
      ·
        refine s_aload_n C dX3_applyScheduled_45 rfl 1 rfl ?_
        refine s_getF C (fgX3_21_12 _) g0 dX3_applyScheduled_46 ?_
        refine s_iload_n C dX3_applyScheduled_49 rfl 2 rfl ?_
        refine s_iload_n C dX3_applyScheduled_50 rfl 0 rfl ?_
        refine s_iast C (ag15 _) g0 dX3_applyScheduled_51 ?_
        refine g_nmM (fun μ12 => ?_)
        refine g_nmQ (fun x13 ex13 => ?_)
        refine s_iinc (v := x13) (j := 2) (L' := [(1, .int x13), (3, .int x10), (0, .ref (xa X 12 n0)), (2, .int x3)]) C dX3_applyScheduled_52 rfl (by rw [ex13]; rfl) (hN 1 (by decide)) rfl ?_
        exact g_sub [2, 0, 3] rfl (hj55 μ12 x13 x3)
      ·
        refine s_aload_n C dX3_applyScheduled_29 rfl 1 rfl ?_
        refine s_iload_n C dX3_applyScheduled_30 rfl 0 rfl ?_
        refine s_iconst (v := (1 : Int32)) C dX3_applyScheduled_31 (by decide) ?_
        refine s_ishr C dX3_applyScheduled_32 ?_
        refine s_bipush (v := (15 : Int32)) C dX3_applyScheduled_33 (by decide) ?_
        refine s_iand C dX3_applyScheduled_35 ?_
        refine s_iload_n C dX3_applyScheduled_36 rfl 0 rfl ?_
        refine s_iconst (v := (1 : Int32)) C dX3_applyScheduled_37 (by decide) ?_
        refine s_iand C dX3_applyScheduled_38 ?_
        refine s_callV C R0 (kX3_driveOutside (xl X) n0 g0 ((x10 >>> ((1 : Int32) &&& 31)) &&& (15 : Int32)) (x10 &&& (1 : Int32))) (Nat.le_trans (by decide) V) mmX3_driveOutside miX3_driveOutside q1480 (rc12 _) g0 rfl rfl rfl (Nat.le_of_ble_eq_true rfl) ⟨Nat.le_of_ble_eq_true rfl, Nat.le_of_ble_eq_true rfl, Nat.le_of_ble_eq_true rfl, Nat.le_of_ble_eq_true rfl⟩ dX3_applyScheduled_39 (fun _ μ14 => ?_)
        refine g_st (st' := []) rfl ?_
        refine s_goto (tgt := 55) C dX3_applyScheduled_42 (by decide) ?_
        exact g_sub [1, 2, 3] rfl (hj55 μ14 x2 x3)
  refine s_iconst (v := (0 : Int32)) C dX3_applyScheduled_0 (by decide) ?_
  refine s_istore_n (L' := [(1, .int (0 : Int32)), (0, .ref (xa X 12 n0))]) C dX3_applyScheduled_1 rfl (hN 1 (by decide)) rfl ?_
  refine s_iconst (v := (0 : Int32)) C dX3_applyScheduled_2 (by decide) ?_
  refine s_istore_n (L' := [(2, .int (0 : Int32)), (1, .int (0 : Int32)), (0, .ref (xa X 12 n0))]) C dX3_applyScheduled_3 rfl (hN 2 (by decide)) rfl ?_
  exact g_sub [2, 1, 0] rfl (hj4 μ (0 : Int32) (0 : Int32))
/-! PinEngines$Machine.endCycle()V -/
def fX3_endCycle (fu : Nat) (n0 : Nat) (μ : Mem) : Option (Unit × Mem) :=
  jn (lp (fun _ _ _ _ => none) fu (fun j14 (μ1 : Mem) (x2 : Int32) (x3 : Int32) (x4 : Int32) =>
    jn (fun (μ5 : Mem) =>
      nm (wI μ5 12 n0 10 x2) fun μ6 =>
      ckD (64 : Int32) <|
      ckI ((μ6.1 12 n0 0) - (μ6.1 12 n0 0) / (64 : Int32) * (64 : Int32)) (64) <|
      nm (wI μ6 16 n0 ((μ6.1 12 n0 0) - (μ6.1 12 n0 0) / (64 : Int32) * (64 : Int32)).toNatClampNeg x2) fun μ7 =>
      nm (wI μ7 12 n0 0 ((μ7.1 12 n0 0) + (1 : Int32))) fun μ8 =>
      some ((), μ8)
    ) fun j81 =>
    if (16 : Int32) ≤ x4 then (
      j81 μ1
    ) else (
      if (x3 >>> (x4 &&& 31)) = 0 then (
        j81 μ1
      ) else (
        jn (fun (μ11 : Mem) (x12 : Int32) =>
          nm (x12 + (1 : Int32)) fun x13 =>
          j14 μ11 x2 x3 x13
        ) fun j75 =>
        if ¬ ((x3 >>> (x4 &&& 31)) &&& (1 : Int32)) = (1 : Int32) then (
          j75 μ1 x4
        ) else (
          jn (fun (μ15 : Mem) (a16 : Nat) (x18 : Int32) (x19 : Int32) (x20 : Int32) =>
            ckI x18 (16) <|
            nm (wI μ15 17 a16 x18.toNatClampNeg (x19 + x20)) fun μ21 =>
            j75 μ21 x4
          ) fun j73 =>
          ckI x4 (16) <|
          ckI x4 (16) <|
          nm (wI μ1 17 (2 * n0) x4.toNatClampNeg ((μ1.1 17 (2 * n0) x4.toNatClampNeg) + (1 : Int32))) fun μ23 =>
          ckI x4 (16) <|
          if ¬ ((x2 >>> (x4 &&& 31)) &&& (1 : Int32)) = (1 : Int32) then (
            j73 μ23 (2 * n0 + 1) x4 (μ23.1 17 (2 * n0 + 1) x4.toNatClampNeg) (μ23.1 12 n0 0)
          ) else (
            j73 μ23 (2 * n0 + 1) x4 (μ23.1 17 (2 * n0 + 1) x4.toNatClampNeg) (-(μ23.1 12 n0 0))
          )
        )
      )
    )
  )) fun j14 =>
  bnd (fX3_levels n0 μ) fun x27 μ26 =>
  nm ((x27 ^^^ (μ26.1 12 n0 10))) fun x28 =>
  j14 μ26 x27 x28 (0 : Int32)
set_option maxHeartbeats 4000000 in
set_option maxRecDepth 100000 in
theorem kX3_endCycle (l : Launch) (fu : Nat) (n0 : Nat) (g0 : n0 < 13) : Kon 0 l yX3_endCycle cX3_endCycle 4 (none) 1 20 0 0 (fun ad => [.ref (ad 12 n0)]) rvV (fun μ => fX3_endCycle fu n0 μ) := by
  refine kon_of (by decide) (fun _ => Nat.le_of_ble_eq_true rfl) (fun X r0 μ hXl hXn V C E => ?_)
  have hN : ∀ i : Nat, i < 4 → i < xn X := fun i h => hXn.symm ▸ h
  have R0 := fen_rm E
  show G X r0 0 0 μ 0 [(0, .ref (xa X 12 n0))] [] (fX3_endCycle fu n0 μ)
  unfold fX3_endCycle
  refine g_jl (P := fun j14 => ∀ (μ1 : Mem) (x2 : Int32) (x3 : Int32) (x4 : Int32), G X r0 0 0 μ1 14 [(0, .ref (xa X 12 n0)), (1, .int x2), (2, .int x3), (3, .int x4)] [] (j14 μ1 x2 x3 x4)) (fun _ _ _ _ => g_none) (fun j14 hj14 => ?_) (fun j14 hj14 => ?_)
  · intro μ1 x2 x3 x4
    refine g_jn (P := fun j81 => ∀ (μ5 : Mem), G X r0 0 0 μ5 81 [(0, .ref (xa X 12 n0)), (1, .int x2)] [] (j81 μ5)) ?_ (fun j81 hj81 => ?_)
    · intro μ5
      refine s_aload_n C dX3_endCycle_81 rfl 0 rfl ?_
      refine s_iload_n C dX3_endCycle_82 rfl 1 rfl ?_
      refine s_putI C (fpX3_71_12 _) g0 dX3_endCycle_83 ?_
      refine g_nmM (fun μ6 => ?_)
      refine s_aload_n C dX3_endCycle_86 rfl 0 rfl ?_
      refine s_getF C (fgX3_24_12 _) g0 dX3_endCycle_87 ?_
      refine s_aload_n C dX3_endCycle_90 rfl 0 rfl ?_
      refine s_getI C (fgX3_34_12 _) g0 dX3_endCycle_91 ?_
      refine s_bipush (v := (64 : Int32)) C dX3_endCycle_94 (by decide) ?_
      refine s_irem C dX3_endCycle_96 ?_
      refine s_iload_n C dX3_endCycle_97 rfl 1 rfl ?_
      refine s_iast C (ag16 _) g0 dX3_endCycle_98 ?_
      refine g_nmM (fun μ7 => ?_)
      refine s_aload_n C dX3_endCycle_99 rfl 0 rfl ?_
      refine s_dup C dX3_endCycle_100 rfl ?_
      refine s_getI C (fgX3_34_12 _) g0 dX3_endCycle_101 ?_
      refine s_iconst (v := (1 : Int32)) C dX3_endCycle_104 (by decide) ?_
      refine s_iadd C dX3_endCycle_105 ?_
      refine s_putI C (fpX3_34_12 _) g0 dX3_endCycle_106 ?_
      refine g_nmM (fun μ8 => ?_)
      exact s_vret C E dX3_endCycle_109
    refine s_iload_n C dX3_endCycle_14 rfl 3 rfl ?_
    refine s_bipush (v := (16 : Int32)) C dX3_endCycle_15 (by decide) ?_
    refine s_icmp_ge (tgt := 81) C dX3_endCycle_17 (by decide) (fun c9 => ?_) (fun c9 => ?_)
    ·
      exact g_sub [0, 1] rfl (hj81 μ1)
    ·
      refine s_iload_n C dX3_endCycle_20 rfl 2 rfl ?_
      refine s_iload_n C dX3_endCycle_21 rfl 3 rfl ?_
      refine s_ishr C dX3_endCycle_22 ?_
      refine s_if_eq (tgt := 81) C dX3_endCycle_23 (by decide) (fun c10 => ?_) (fun c10 => ?_)
      ·
        exact g_sub [0, 1] rfl (hj81 μ1)
      ·
        refine g_jn (P := fun j75 => ∀ (μ11 : Mem) (x12 : Int32), G X r0 0 0 μ11 75 [(0, .ref (xa X 12 n0)), (1, .int x2), (2, .int x3), (3, .int x12)] [] (j75 μ11 x12)) ?_ (fun j75 hj75 => ?_)
        · intro μ11 x12
          refine g_nmQ (fun x13 ex13 => ?_)
          refine s_iinc (v := x13) (j := 3) (L' := [(3, .int x13), (0, .ref (xa X 12 n0)), (1, .int x2), (2, .int x3)]) C dX3_endCycle_75 rfl (by rw [ex13]; rfl) (hN 3 (by decide)) rfl ?_
          refine s_goto (tgt := 14) C dX3_endCycle_78 (by decide) ?_
          exact g_sub [1, 2, 3, 0] rfl (hj14 μ11 x2 x3 x13)
        refine s_iload_n C dX3_endCycle_26 rfl 2 rfl ?_
        refine s_iload_n C dX3_endCycle_27 rfl 3 rfl ?_
        refine s_ishr C dX3_endCycle_28 ?_
        refine s_iconst (v := (1 : Int32)) C dX3_endCycle_29 (by decide) ?_
        refine s_iand C dX3_endCycle_30 ?_
        refine s_iconst (v := (1 : Int32)) C dX3_endCycle_31 (by decide) ?_
        refine s_icmp_ne (tgt := 75) C dX3_endCycle_32 (by decide) (fun c14 => ?_) (fun c14 => ?_)
        ·
          exact g_sub [0, 1, 2, 3] rfl (hj75 μ1 x4)
        ·
          refine g_jn (P := fun j73 => ∀ (μ15 : Mem) (a16 : Nat) (x18 : Int32) (x19 : Int32) (x20 : Int32), a16 < 26 → G X r0 0 0 μ15 73 [(0, .ref (xa X 12 n0)), (1, .int x2), (2, .int x3), (3, .int x4)] [.int x20, .int x19, .int x18, .ref (xa X 17 a16)] (j73 μ15 a16 x18 x19 x20)) ?_ (fun j73 hj73 => ?_)
          · intro μ15 a16 x18 x19 x20 b17
            refine s_iadd C dX3_endCycle_73 ?_
            refine s_iast C (ag17 _) b17 dX3_endCycle_74 ?_
            refine g_nmM (fun μ21 => ?_)
            exact g_sub [0, 1, 2, 3] rfl (hj75 μ21 x4)
          refine s_aload_n C dX3_endCycle_35 rfl 0 rfl ?_
          refine s_getF C (fgX3_27_12 _) g0 dX3_endCycle_36 ?_
          have b22 : 2 * n0 < 26 := by omega
          refine s_iload_n C dX3_endCycle_39 rfl 3 rfl ?_
          refine s_dup2 C dX3_endCycle_40 rfl rfl ?_
          refine s_iald C (ag17 _) b22 dX3_endCycle_41 ?_
          refine s_iconst (v := (1 : Int32)) C dX3_endCycle_42 (by decide) ?_
          refine s_iadd C dX3_endCycle_43 ?_
          refine s_iast C (ag17 _) b22 dX3_endCycle_44 ?_
          refine g_nmM (fun μ23 => ?_)
          refine s_aload_n C dX3_endCycle_45 rfl 0 rfl ?_
          refine s_getF C (fgX3_30_12 _) g0 dX3_endCycle_46 ?_
          have b24 : 2 * n0 + 1 < 26 := by omega
          refine s_iload_n C dX3_endCycle_49 rfl 3 rfl ?_
          refine s_dup2 C dX3_endCycle_50 rfl rfl ?_
          refine s_iald C (ag17 _) b24 dX3_endCycle_51 ?_
          refine s_iload_n C dX3_endCycle_52 rfl 1 rfl ?_
          refine s_iload_n C dX3_endCycle_53 rfl 3 rfl ?_
          refine s_ishr C dX3_endCycle_54 ?_
          refine s_iconst (v := (1 : Int32)) C dX3_endCycle_55 (by decide) ?_
          refine s_iand C dX3_endCycle_56 ?_
          refine s_iconst (v := (1 : Int32)) C dX3_endCycle_57 (by decide) ?_
          refine s_icmp_ne (tgt := 69) C dX3_endCycle_58 (by decide) (fun c25 => ?_) (fun c25 => ?_)
          ·
            refine s_aload_n C dX3_endCycle_69 rfl 0 rfl ?_
            refine s_getI C (fgX3_34_12 _) g0 dX3_endCycle_70 ?_
            exact g_sub [0, 1, 2, 3] rfl (hj73 μ23 (2 * n0 + 1) x4 (μ23.1 17 (2 * n0 + 1) x4.toNatClampNeg) (μ23.1 12 n0 0) b24)
          ·
            refine s_aload_n C dX3_endCycle_61 rfl 0 rfl ?_
            refine s_getI C (fgX3_34_12 _) g0 dX3_endCycle_62 ?_
            refine s_ineg C dX3_endCycle_65 ?_
            refine s_goto (tgt := 73) C dX3_endCycle_66 (by decide) ?_
            exact g_sub [0, 1, 2, 3] rfl (hj73 μ23 (2 * n0 + 1) x4 (μ23.1 17 (2 * n0 + 1) x4.toNatClampNeg) (-(μ23.1 12 n0 0)) b24)
  refine s_aload_n C dX3_endCycle_0 rfl 0 rfl ?_
  refine s_callV C R0 (kX3_levels (xl X) n0 g0) (Nat.le_trans (by decide) V) mmX3_levels miX3_levels q735 (rc12 _) g0 rfl rfl rfl (Nat.le_of_ble_eq_true rfl) ⟨Nat.le_of_ble_eq_true rfl, Nat.le_of_ble_eq_true rfl, Nat.le_of_ble_eq_true rfl, Nat.le_of_ble_eq_true rfl⟩ dX3_endCycle_1 (fun x27 μ26 => ?_)
  refine g_st (st' := [.int x27]) rfl ?_
  refine s_istore_n (L' := [(1, .int x27), (0, .ref (xa X 12 n0))]) C dX3_endCycle_4 rfl (hN 1 (by decide)) rfl ?_
  refine s_iload_n C dX3_endCycle_5 rfl 0 rfl ?_
  refine s_aload_n C dX3_endCycle_6 rfl 1 rfl ?_
  refine s_getI C (fgX3_71_12 _) g0 dX3_endCycle_7 ?_
  refine s_ixor C dX3_endCycle_10 ?_
  refine g_nmI (fun x28 => ?_)
  refine s_istore_n (L' := [(2, .int x28), (1, .int x27), (0, .ref (xa X 12 n0))]) C dX3_endCycle_11 rfl (hN 2 (by decide)) rfl ?_
  refine s_iconst (v := (0 : Int32)) C dX3_endCycle_12 (by decide) ?_
  refine s_istore_n (L' := [(3, .int (0 : Int32)), (2, .int x28), (1, .int x27), (0, .ref (xa X 12 n0))]) C dX3_endCycle_13 rfl (hN 3 (by decide)) rfl ?_
  exact g_sub [3, 2, 1, 0] rfl (hj14 μ26 x27 x28 (0 : Int32))
/-! PinEngines$Machine.levelsAfter(I)I -/
def fX3_levelsAfter (n0 : Nat) (p1 : Int32) (μ : Mem) : Option (Int32 × Mem) :=
  jn (fun (μ1 : Mem) (x2 : Int32) =>
    some (x2, μ1)
  ) fun j17 =>
  if 0 ≤ p1 then (
    ckD (64 : Int32) <|
    ckI (p1 - p1 / (64 : Int32) * (64 : Int32)) (64) <|
    j17 μ (μ.1 16 n0 (p1 - p1 / (64 : Int32) * (64 : Int32)).toNatClampNeg)
  ) else (
    j17 μ (0 : Int32)
  )
set_option maxHeartbeats 4000000 in
set_option maxRecDepth 100000 in
theorem kX3_levelsAfter (l : Launch) (n0 : Nat) (g0 : n0 < 13) (p1 : Int32) : Kon 0 l yX3_levelsAfter cX3_levelsAfter 2 (some .int) 0 0 0 0 (fun ad => [.ref (ad 12 n0), .int p1]) rvI (fun μ => fX3_levelsAfter n0 p1 μ) := by
  refine kon_of (by decide) (fun _ => Nat.le_of_ble_eq_true rfl) (fun X r0 μ hXl hXn V C E => ?_)
  have hN : ∀ i : Nat, i < 2 → i < xn X := fun i h => hXn.symm ▸ h
  have R0 := fen_rm E
  show G X r0 0 0 μ 0 [(0, .ref (xa X 12 n0)), (1, .int p1)] [] (fX3_levelsAfter n0 p1 μ)
  unfold fX3_levelsAfter
  refine g_jn (P := fun j17 => ∀ (μ1 : Mem) (x2 : Int32), G X r0 0 0 μ1 17 [] [.int x2] (j17 μ1 x2)) ?_ (fun j17 hj17 => ?_)
  · intro μ1 x2
    exact s_iret C E dX3_levelsAfter_17
  refine s_iload_n C dX3_levelsAfter_0 rfl 1 rfl ?_
  refine s_if_ge (tgt := 8) C dX3_levelsAfter_1 (by decide) (fun c3 => ?_) (fun c3 => ?_)
  ·
    refine s_aload_n C dX3_levelsAfter_8 rfl 0 rfl ?_
    refine s_getF C (fgX3_24_12 _) g0 dX3_levelsAfter_9 ?_
    refine s_iload_n C dX3_levelsAfter_12 rfl 1 rfl ?_
    refine s_bipush (v := (64 : Int32)) C dX3_levelsAfter_13 (by decide) ?_
    refine s_irem C dX3_levelsAfter_15 ?_
    refine s_iald C (ag16 _) g0 dX3_levelsAfter_16 ?_
    exact g_sub [] rfl (hj17 μ (μ.1 16 n0 (p1 - p1 / (64 : Int32) * (64 : Int32)).toNatClampNeg))
  ·
    refine s_iconst (v := (0 : Int32)) C dX3_levelsAfter_4 (by decide) ?_
    refine s_goto (tgt := 17) C dX3_levelsAfter_5 (by decide) ?_
    exact g_sub [] rfl (hj17 μ (0 : Int32))
/-! PinEngines$Machine.highCycles(I)I -/
def fX3_highCycles (n0 : Nat) (p1 : Int32) (μ : Mem) : Option (Int32 × Mem) :=
  jn (fun (μ1 : Mem) (x2 : Int32) =>
    jn (fun (μ3 : Mem) (x4 : Int32) =>
      some (x4, μ3)
    ) fun j42 =>
    if x2 = 0 then (
      ckI p1 (16) <|
      j42 μ1 (μ1.1 17 (2 * n0 + 1) p1.toNatClampNeg)
    ) else (
      ckI p1 (16) <|
      j42 μ1 ((μ1.1 17 (2 * n0 + 1) p1.toNatClampNeg) + (μ1.1 12 n0 0))
    )
  ) fun j17 =>
  if ¬ (((μ.1 12 n0 10) >>> (p1 &&& 31)) &&& (1 : Int32)) = (1 : Int32) then (
    j17 μ (0 : Int32)
  ) else (
    j17 μ (1 : Int32)
  )
set_option maxHeartbeats 4000000 in
set_option maxRecDepth 100000 in
theorem kX3_highCycles (l : Launch) (n0 : Nat) (g0 : n0 < 13) (p1 : Int32) : Kon 0 l yX3_highCycles cX3_highCycles 3 (some .int) 0 0 0 0 (fun ad => [.ref (ad 12 n0), .int p1]) rvI (fun μ => fX3_highCycles n0 p1 μ) := by
  refine kon_of (by decide) (fun _ => Nat.le_of_ble_eq_true rfl) (fun X r0 μ hXl hXn V C E => ?_)
  have hN : ∀ i : Nat, i < 3 → i < xn X := fun i h => hXn.symm ▸ h
  have R0 := fen_rm E
  show G X r0 0 0 μ 0 [(0, .ref (xa X 12 n0)), (1, .int p1)] [] (fX3_highCycles n0 p1 μ)
  unfold fX3_highCycles
  refine g_jn (P := fun j17 => ∀ (μ1 : Mem) (x2 : Int32), G X r0 0 0 μ1 17 [(0, .ref (xa X 12 n0)), (1, .int p1)] [.int x2] (j17 μ1 x2)) ?_ (fun j17 hj17 => ?_)
  · intro μ1 x2
    refine g_jn (P := fun j42 => ∀ (μ3 : Mem) (x4 : Int32), G X r0 0 0 μ3 42 [] [.int x4] (j42 μ3 x4)) ?_ (fun j42 hj42 => ?_)
    · intro μ3 x4
      exact s_iret C E dX3_highCycles_42
    refine s_istore_n (L' := [(2, .int x2), (0, .ref (xa X 12 n0)), (1, .int p1)]) C dX3_highCycles_17 rfl (hN 2 (by decide)) rfl ?_
    refine s_iload_n C dX3_highCycles_18 rfl 0 rfl ?_
    refine s_if_eq (tgt := 36) C dX3_highCycles_19 (by decide) (fun c5 => ?_) (fun c5 => ?_)
    ·
      refine s_aload_n C dX3_highCycles_36 rfl 1 rfl ?_
      refine s_getF C (fgX3_30_12 _) g0 dX3_highCycles_37 ?_
      have b6 : 2 * n0 + 1 < 26 := by omega
      refine s_iload_n C dX3_highCycles_40 rfl 2 rfl ?_
      refine s_iald C (ag17 _) b6 dX3_highCycles_41 ?_
      exact g_sub [] rfl (hj42 μ1 (μ1.1 17 (2 * n0 + 1) p1.toNatClampNeg))
    ·
      refine s_aload_n C dX3_highCycles_22 rfl 1 rfl ?_
      refine s_getF C (fgX3_30_12 _) g0 dX3_highCycles_23 ?_
      have b7 : 2 * n0 + 1 < 26 := by omega
      refine s_iload_n C dX3_highCycles_26 rfl 2 rfl ?_
      refine s_iald C (ag17 _) b7 dX3_highCycles_27 ?_
      refine s_aload_n C dX3_highCycles_28 rfl 1 rfl ?_
      refine s_getI C (fgX3_34_12 _) g0 dX3_highCycles_29 ?_
      refine s_iadd C dX3_highCycles_32 ?_
      refine s_goto (tgt := 42) C dX3_highCycles_33 (by decide) ?_
      exact g_sub [] rfl (hj42 μ1 ((μ1.1 17 (2 * n0 + 1) p1.toNatClampNeg) + (μ1.1 12 n0 0)))
  refine s_aload_n C dX3_highCycles_0 rfl 0 rfl ?_
  refine s_getI C (fgX3_71_12 _) g0 dX3_highCycles_1 ?_
  refine s_iload_n C dX3_highCycles_4 rfl 1 rfl ?_
  refine s_ishr C dX3_highCycles_5 ?_
  refine s_iconst (v := (1 : Int32)) C dX3_highCycles_6 (by decide) ?_
  refine s_iand C dX3_highCycles_7 ?_
  refine s_iconst (v := (1 : Int32)) C dX3_highCycles_8 (by decide) ?_
  refine s_icmp_ne (tgt := 16) C dX3_highCycles_9 (by decide) (fun c8 => ?_) (fun c8 => ?_)
  ·
    refine s_iconst (v := (0 : Int32)) C dX3_highCycles_16 (by decide) ?_
    exact g_sub [0, 1] rfl (hj17 μ (0 : Int32))
  ·
    refine s_iconst (v := (1 : Int32)) C dX3_highCycles_12 (by decide) ?_
    refine s_goto (tgt := 17) C dX3_highCycles_13 (by decide) ?_
    exact g_sub [0, 1] rfl (hj17 μ (1 : Int32))
/-! PinEngines$Program.isFull()Z -/
def fX4_isFull (n0 : Nat) (μ : Mem) : Option (Int32 × Mem) :=
  jn (fun (μ1 : Mem) (x2 : Int32) =>
    ckZ x2 (some (x2, μ1))
  ) fun j14 =>
  if (μ.1 5 n0 0) < (32 : Int32) then (
    j14 μ (0 : Int32)
  ) else (
    j14 μ (1 : Int32)
  )
set_option maxHeartbeats 4000000 in
set_option maxRecDepth 100000 in
theorem kX4_isFull (l : Launch) (n0 : Nat) (g0 : n0 < 2) : Kon 0 l yX4_isFull cX4_isFull 1 (some .boolean) 0 0 0 0 (fun ad => [.ref (ad 5 n0)]) rvI (fun μ => fX4_isFull n0 μ) := by
  refine kon_of (by decide) (fun _ => Nat.le_of_ble_eq_true rfl) (fun X r0 μ hXl hXn V C E => ?_)
  have hN : ∀ i : Nat, i < 1 → i < xn X := fun i h => hXn.symm ▸ h
  have R0 := fen_rm E
  show G X r0 0 0 μ 0 [(0, .ref (xa X 5 n0))] [] (fX4_isFull n0 μ)
  unfold fX4_isFull
  refine g_jn (P := fun j14 => ∀ (μ1 : Mem) (x2 : Int32), G X r0 0 0 μ1 14 [] [.int x2] (j14 μ1 x2)) ?_ (fun j14 hj14 => ?_)
  · intro μ1 x2
    exact s_zret C E dX4_isFull_14
  refine s_aload_n C dX4_isFull_0 rfl 0 rfl ?_
  refine s_getI C (fgX4_9_5 _) g0 dX4_isFull_1 ?_
  refine s_bipush (v := (32 : Int32)) C dX4_isFull_4 (by decide) ?_
  refine s_icmp_lt (tgt := 13) C dX4_isFull_6 (by decide) (fun c3 => ?_) (fun c3 => ?_)
  ·
    refine s_iconst (v := (0 : Int32)) C dX4_isFull_13 (by decide) ?_
    exact g_sub [] rfl (hj14 μ (0 : Int32))
  ·
    refine s_iconst (v := (1 : Int32)) C dX4_isFull_9 (by decide) ?_
    refine s_goto (tgt := 14) C dX4_isFull_10 (by decide) ?_
    exact g_sub [] rfl (hj14 μ (1 : Int32))
/-! PinEngines$Program.add(LPinEngines$Symbol;)LPinEngines$Instruction; -/
def fX4_add (n0 : Nat) (n1 : Nat) (μ : Mem) : Option (Nat × Mem) :=
  bnd (fX4_isFull n0 μ) fun x2 μ1 =>
  if x2 = 0 then (
    ckI (μ1.1 5 n0 0) (32) <|
    bnd (fX2_clearTo (33 * n0 + (μ1.1 5 n0 0).toNatClampNeg) n1 μ1) fun _ μ6 =>
    nm (wI μ6 5 n0 0 ((μ6.1 5 n0 0) + (1 : Int32))) fun μ7 =>
    some (33 * n0 + (μ1.1 5 n0 0).toNatClampNeg, μ7)
  ) else (
    some (33 * n0 + 32, μ1)
  )
set_option maxHeartbeats 4000000 in
set_option maxRecDepth 100000 in
theorem kX4_add (l : Launch) (n0 : Nat) (g0 : n0 < 2) (n1 : Nat) (g1 : n1 < 74) : Kon 0 l yX4_add cX4_add 3 (some (.object "PinEngines$Instruction")) 1 21 0 0 (fun ad => [.ref (ad 5 n0), .ref (ad 50 n1)]) (rvA 9) (fun μ => fX4_add n0 n1 μ) := by
  refine kon_of (by decide) (fun _ => Nat.le_of_ble_eq_true rfl) (fun X r0 μ hXl hXn V C E => ?_)
  have hN : ∀ i : Nat, i < 3 → i < xn X := fun i h => hXn.symm ▸ h
  have R0 := fen_rm E
  show G X r0 0 0 μ 0 [(0, .ref (xa X 5 n0)), (1, .ref (xa X 50 n1))] [] (fX4_add n0 n1 μ)
  unfold fX4_add
  refine s_aload_n C dX4_add_0 rfl 0 rfl ?_
  refine s_callV C R0 (kX4_isFull (xl X) n0 g0) (Nat.le_trans (by decide) V) mmX4_isFull miX4_isFull q1172 (rc5 _) g0 rfl rfl rfl (Nat.le_of_ble_eq_true rfl) ⟨Nat.le_of_ble_eq_true rfl, Nat.le_of_ble_eq_true rfl, Nat.le_of_ble_eq_true rfl, Nat.le_of_ble_eq_true rfl⟩ dX4_add_1 (fun x2 μ1 => ?_)
  refine g_st (st' := [.int x2]) rfl ?_
  refine s_if_eq (tgt := 12) C dX4_add_4 (by decide) (fun c3 => ?_) (fun c3 => ?_)
  ·
    refine s_aload_n C dX4_add_12 rfl 0 rfl ?_
    refine s_getF C (fgX4_26_5 _) g0 dX4_add_13 ?_
    refine s_aload_n C dX4_add_16 rfl 0 rfl ?_
    refine s_getI C (fgX4_9_5 _) g0 dX4_add_17 ?_
    refine s_aaldF C (ag7 _) (fun _ => rfl) g0 dX4_add_20 (fun c4 => ?_)
    have b5 : 33 * n0 + (μ1.1 5 n0 0).toNatClampNeg < 66 := by have := c4; omega
    refine s_astore_n (L' := [(2, .ref (xa X 9 (33 * n0 + (μ1.1 5 n0 0).toNatClampNeg))), (0, .ref (xa X 5 n0)), (1, .ref (xa X 50 n1))]) C dX4_add_21 rfl (hN 2 (by decide)) rfl ?_
    refine s_aload_n C dX4_add_22 rfl 0 rfl ?_
    refine s_aload_n C dX4_add_23 rfl 2 rfl ?_
    refine s_callV C R0 (kX2_clearTo (xl X) (33 * n0 + (μ1.1 5 n0 0).toNatClampNeg) b5 n1 g1) (Nat.le_trans (by decide) V) mmX2_clearTo miX2_clearTo q1173 (rc9 _) b5 rfl rfl rfl (Nat.le_of_ble_eq_true rfl) ⟨Nat.le_of_ble_eq_true rfl, Nat.le_of_ble_eq_true rfl, Nat.le_of_ble_eq_true rfl, Nat.le_of_ble_eq_true rfl⟩ dX4_add_24 (fun _ μ6 => ?_)
    refine g_st (st' := []) rfl ?_
    refine s_aload_n C dX4_add_27 rfl 1 rfl ?_
    refine s_dup C dX4_add_28 rfl ?_
    refine s_getI C (fgX4_9_5 _) g0 dX4_add_29 ?_
    refine s_iconst (v := (1 : Int32)) C dX4_add_32 (by decide) ?_
    refine s_iadd C dX4_add_33 ?_
    refine s_putI C (fpX4_9_5 _) g0 dX4_add_34 ?_
    refine g_nmM (fun μ7 => ?_)
    refine s_aload_n C dX4_add_37 rfl 0 rfl ?_
    exact s_aret C E dX4_add_38
  ·
    refine s_aload_n C dX4_add_7 rfl 0 rfl ?_
    refine s_getF C (fgX4_31_5 _) g0 dX4_add_8 ?_
    have b8 : 33 * n0 + 32 < 66 := by omega
    exact s_aret C E dX4_add_11
/-! PinEngines$Program.instructionAt(I)LPinEngines$Instruction; -/
def fX4_instructionAt (n0 : Nat) (p1 : Int32) (μ : Mem) : Option (Nat × Mem) :=
  jn (fun (μ1 : Mem) (a2 : Nat) =>
    some (a2, μ1)
  ) fun j25 =>
  jn (fun (μ4 : Mem) =>
    j25 μ4 (33 * n0 + 32)
  ) fun j12 =>
  if p1 < 0 then (
    j12 μ
  ) else (
    if p1 < (μ.1 5 n0 0) then (
      ckI p1 (32) <|
      j25 μ (33 * n0 + p1.toNatClampNeg)
    ) else (
      j12 μ
    )
  )
set_option maxHeartbeats 4000000 in
set_option maxRecDepth 100000 in
theorem kX4_instructionAt (l : Launch) (n0 : Nat) (g0 : n0 < 2) (p1 : Int32) : Kon 0 l yX4_instructionAt cX4_instructionAt 2 (some (.object "PinEngines$Instruction")) 0 0 0 0 (fun ad => [.ref (ad 5 n0), .int p1]) (rvA 9) (fun μ => fX4_instructionAt n0 p1 μ) := by
  refine kon_of (by decide) (fun _ => Nat.le_of_ble_eq_true rfl) (fun X r0 μ hXl hXn V C E => ?_)
  have hN : ∀ i : Nat, i < 2 → i < xn X := fun i h => hXn.symm ▸ h
  have R0 := fen_rm E
  show G X r0 0 0 μ 0 [(0, .ref (xa X 5 n0)), (1, .int p1)] [] (fX4_instructionAt n0 p1 μ)
  unfold fX4_instructionAt
  refine g_jn (P := fun j25 => ∀ (μ1 : Mem) (a2 : Nat), a2 < 66 → G X r0 0 0 μ1 25 [] [.ref (xa X 9 a2)] (j25 μ1 a2)) ?_ (fun j25 hj25 => ?_)
  · intro μ1 a2 b3
    exact s_aret C E dX4_instructionAt_25
  refine g_jn (P := fun j12 => ∀ (μ4 : Mem), G X r0 0 0 μ4 12 [(0, .ref (xa X 5 n0))] [] (j12 μ4)) ?_ (fun j12 hj12 => ?_)
  · intro μ4
    refine s_aload_n C dX4_instructionAt_12 rfl 0 rfl ?_
    refine s_getF C (fgX4_31_5 _) g0 dX4_instructionAt_13 ?_
    have b5 : 33 * n0 + 32 < 66 := by omega
    refine s_goto (tgt := 25) C dX4_instructionAt_16 (by decide) ?_
    exact g_sub [] rfl (hj25 μ4 (33 * n0 + 32) b5)
  refine s_iload_n C dX4_instructionAt_0 rfl 1 rfl ?_
  refine s_if_lt (tgt := 12) C dX4_instructionAt_1 (by decide) (fun c6 => ?_) (fun c6 => ?_)
  ·
    exact g_sub [0] rfl (hj12 μ)
  ·
    refine s_iload_n C dX4_instructionAt_4 rfl 1 rfl ?_
    refine s_aload_n C dX4_instructionAt_5 rfl 0 rfl ?_
    refine s_getI C (fgX4_9_5 _) g0 dX4_instructionAt_6 ?_
    refine s_icmp_lt (tgt := 19) C dX4_instructionAt_9 (by decide) (fun c7 => ?_) (fun c7 => ?_)
    ·
      refine s_aload_n C dX4_instructionAt_19 rfl 0 rfl ?_
      refine s_getF C (fgX4_26_5 _) g0 dX4_instructionAt_20 ?_
      refine s_iload_n C dX4_instructionAt_23 rfl 1 rfl ?_
      refine s_aaldF C (ag7 _) (fun _ => rfl) g0 dX4_instructionAt_24 (fun c8 => ?_)
      have b9 : 33 * n0 + p1.toNatClampNeg < 66 := by have := c8; omega
      exact g_sub [] rfl (hj25 μ (33 * n0 + p1.toNatClampNeg) b9)
    ·
      exact g_sub [0] rfl (hj12 μ)
/-! PinEngines$Program.hasEngine(I)Z -/
def fX4_hasEngine (n0 : Nat) (p1 : Int32) (μ : Mem) : Option (Int32 × Mem) :=
  jn (fun (μ1 : Mem) (x2 : Int32) =>
    ckZ x2 (some (x2, μ1))
  ) fun j26 =>
  jn (fun (μ3 : Mem) =>
    j26 μ3 (0 : Int32)
  ) fun j25 =>
  if p1 < 0 then (
    j25 μ
  ) else (
    if (4 : Int32) ≤ p1 then (
      j25 μ
    ) else (
      ckI p1 (4) <|
      if (μ.1 8 (4 * n0 + p1.toNatClampNeg) 0) = 0 then (
        j25 μ
      ) else (
        j26 μ (1 : Int32)
      )
    )
  )
set_option maxHeartbeats 4000000 in
set_option maxRecDepth 100000 in
theorem kX4_hasEngine (l : Launch) (n0 : Nat) (g0 : n0 < 2) (p1 : Int32) : Kon 0 l yX4_hasEngine cX4_hasEngine 2 (some .boolean) 0 0 0 0 (fun ad => [.ref (ad 5 n0), .int p1]) rvI (fun μ => fX4_hasEngine n0 p1 μ) := by
  refine kon_of (by decide) (fun _ => Nat.le_of_ble_eq_true rfl) (fun X r0 μ hXl hXn V C E => ?_)
  have hN : ∀ i : Nat, i < 2 → i < xn X := fun i h => hXn.symm ▸ h
  have R0 := fen_rm E
  show G X r0 0 0 μ 0 [(0, .ref (xa X 5 n0)), (1, .int p1)] [] (fX4_hasEngine n0 p1 μ)
  unfold fX4_hasEngine
  refine g_jn (P := fun j26 => ∀ (μ1 : Mem) (x2 : Int32), G X r0 0 0 μ1 26 [] [.int x2] (j26 μ1 x2)) ?_ (fun j26 hj26 => ?_)
  · intro μ1 x2
    exact s_zret C E dX4_hasEngine_26
  refine g_jn (P := fun j25 => ∀ (μ3 : Mem), G X r0 0 0 μ3 25 [] [] (j25 μ3)) ?_ (fun j25 hj25 => ?_)
  · intro μ3
    refine s_iconst (v := (0 : Int32)) C dX4_hasEngine_25 (by decide) ?_
    exact g_sub [] rfl (hj26 μ3 (0 : Int32))
  refine s_iload_n C dX4_hasEngine_0 rfl 1 rfl ?_
  refine s_if_lt (tgt := 25) C dX4_hasEngine_1 (by decide) (fun c4 => ?_) (fun c4 => ?_)
  ·
    exact g_sub [] rfl (hj25 μ)
  ·
    refine s_iload_n C dX4_hasEngine_4 rfl 1 rfl ?_
    refine s_iconst (v := (4 : Int32)) C dX4_hasEngine_5 (by decide) ?_
    refine s_icmp_ge (tgt := 25) C dX4_hasEngine_6 (by decide) (fun c5 => ?_) (fun c5 => ?_)
    ·
      exact g_sub [] rfl (hj25 μ)
    ·
      refine s_aload_n C dX4_hasEngine_9 rfl 0 rfl ?_
      refine s_getF C (fgX4_20_5 _) g0 dX4_hasEngine_10 ?_
      refine s_iload_n C dX4_hasEngine_13 rfl 1 rfl ?_
      refine s_aaldF C (ag6 _) (fun _ => rfl) g0 dX4_hasEngine_14 (fun c6 => ?_)
      have b7 : 4 * n0 + p1.toNatClampNeg < 8 := by have := c6; omega
      refine s_getI C (fgX4_47_8 _) b7 dX4_hasEngine_15 ?_
      refine s_if_eq (tgt := 25) C dX4_hasEngine_18 (by decide) (fun c8 => ?_) (fun c8 => ?_)
      ·
        exact g_sub [] rfl (hj25 μ)
      ·
        refine s_iconst (v := (1 : Int32)) C dX4_hasEngine_21 (by decide) ?_
        refine s_goto (tgt := 26) C dX4_hasEngine_22 (by decide) ?_
        exact g_sub [] rfl (hj26 μ (1 : Int32))
/-! PinEngines$Program.engineMask()I -/
def fX4_engineMask (fu : Nat) (n0 : Nat) (μ : Mem) : Option (Int32 × Mem) :=
  jn (lp (fun _ _ _ => none) fu (fun j4 (μ1 : Mem) (x2 : Int32) (x3 : Int32) =>
    if (4 : Int32) ≤ x3 then (
      some (x2, μ1)
    ) else (
      jn (fun (μ5 : Mem) (x6 : Int32) (x7 : Int32) =>
        nm (x7 + (1 : Int32)) fun x8 =>
        j4 μ5 x6 x8
      ) fun j27 =>
      ckI x3 (4) <|
      if (μ1.1 8 (4 * n0 + x3.toNatClampNeg) 0) = 0 then (
        j27 μ1 x2 x3
      ) else (
        nm ((x2 ||| ((1 : Int32) <<< (x3 &&& 31)))) fun x12 =>
        j27 μ1 x12 x3
      )
    )
  )) fun j4 =>
  j4 μ (0 : Int32) (0 : Int32)
set_option maxHeartbeats 4000000 in
set_option maxRecDepth 100000 in
theorem kX4_engineMask (l : Launch) (fu : Nat) (n0 : Nat) (g0 : n0 < 2) : Kon 0 l yX4_engineMask cX4_engineMask 3 (some .int) 0 0 0 0 (fun ad => [.ref (ad 5 n0)]) rvI (fun μ => fX4_engineMask fu n0 μ) := by
  refine kon_of (by decide) (fun _ => Nat.le_of_ble_eq_true rfl) (fun X r0 μ hXl hXn V C E => ?_)
  have hN : ∀ i : Nat, i < 3 → i < xn X := fun i h => hXn.symm ▸ h
  have R0 := fen_rm E
  show G X r0 0 0 μ 0 [(0, .ref (xa X 5 n0))] [] (fX4_engineMask fu n0 μ)
  unfold fX4_engineMask
  refine g_jl (P := fun j4 => ∀ (μ1 : Mem) (x2 : Int32) (x3 : Int32), G X r0 0 0 μ1 4 [(0, .ref (xa X 5 n0)), (1, .int x2), (2, .int x3)] [] (j4 μ1 x2 x3)) (fun _ _ _ => g_none) (fun j4 hj4 => ?_) (fun j4 hj4 => ?_)
  · intro μ1 x2 x3
    refine s_iload_n C dX4_engineMask_4 rfl 2 rfl ?_
    refine s_iconst (v := (4 : Int32)) C dX4_engineMask_5 (by decide) ?_
    refine s_icmp_ge (tgt := 33) C dX4_engineMask_6 (by decide) (fun c4 => ?_) (fun c4 => ?_)
    ·
      refine s_iload_n C dX4_engineMask_33 rfl 1 rfl ?_
      exact s_iret C E dX4_engineMask_34
    ·
      refine g_jn (P := fun j27 => ∀ (μ5 : Mem) (x6 : Int32) (x7 : Int32), G X r0 0 0 μ5 27 [(0, .ref (xa X 5 n0)), (1, .int x6), (2, .int x7)] [] (j27 μ5 x6 x7)) ?_ (fun j27 hj27 => ?_)
      · intro μ5 x6 x7
        refine g_nmQ (fun x8 ex8 => ?_)
        refine s_iinc (v := x8) (j := 2) (L' := [(2, .int x8), (0, .ref (xa X 5 n0)), (1, .int x6)]) C dX4_engineMask_27 rfl (by rw [ex8]; rfl) (hN 2 (by decide)) rfl ?_
        refine s_goto (tgt := 4) C dX4_engineMask_30 (by decide) ?_
        exact g_sub [1, 2, 0] rfl (hj4 μ5 x6 x8)
      refine s_aload_n C dX4_engineMask_9 rfl 0 rfl ?_
      refine s_getF C (fgX4_20_5 _) g0 dX4_engineMask_10 ?_
      refine s_iload_n C dX4_engineMask_13 rfl 2 rfl ?_
      refine s_aaldF C (ag6 _) (fun _ => rfl) g0 dX4_engineMask_14 (fun c9 => ?_)
      have b10 : 4 * n0 + x3.toNatClampNeg < 8 := by have := c9; omega
      refine s_getI C (fgX4_47_8 _) b10 dX4_engineMask_15 ?_
      refine s_if_eq (tgt := 27) C dX4_engineMask_18 (by decide) (fun c11 => ?_) (fun c11 => ?_)
      ·
        exact g_sub [0, 1, 2] rfl (hj27 μ1 x2 x3)
      ·
        refine s_iload_n C dX4_engineMask_21 rfl 1 rfl ?_
        refine s_iconst (v := (1 : Int32)) C dX4_engineMask_22 (by decide) ?_
        refine s_iload_n C dX4_engineMask_23 rfl 2 rfl ?_
        refine s_ishl C dX4_engineMask_24 ?_
        refine s_ior C dX4_engineMask_25 ?_
        refine g_nmI (fun x12 => ?_)
        refine s_istore_n (L' := [(1, .int x12), (0, .ref (xa X 5 n0)), (2, .int x3)]) C dX4_engineMask_26 rfl (hN 1 (by decide)) rfl ?_
        exact g_sub [1, 0, 2] rfl (hj27 μ1 x12 x3)
  refine s_iconst (v := (0 : Int32)) C dX4_engineMask_0 (by decide) ?_
  refine s_istore_n (L' := [(1, .int (0 : Int32)), (0, .ref (xa X 5 n0))]) C dX4_engineMask_1 rfl (hN 1 (by decide)) rfl ?_
  refine s_iconst (v := (0 : Int32)) C dX4_engineMask_2 (by decide) ?_
  refine s_istore_n (L' := [(2, .int (0 : Int32)), (1, .int (0 : Int32)), (0, .ref (xa X 5 n0))]) C dX4_engineMask_3 rfl (hN 2 (by decide)) rfl ?_
  exact g_sub [2, 1, 0] rfl (hj4 μ (0 : Int32) (0 : Int32))
