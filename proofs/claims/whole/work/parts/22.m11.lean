/-! PinEngines$ProgramReader.takeFlag()I -/
def fX5_takeFlag (n0 : Nat) (μ : Mem) : Option (Int32 × Mem) :=
  bnd (fX11_takeNumber 0 (0 : Int32) (7 : Int32) μ) fun x2 μ1 =>
  some (x2, μ1)
set_option maxHeartbeats 4000000 in
set_option maxRecDepth 100000 in
theorem kX5_takeFlag (l : Launch) (n0 : Nat) (g0 : n0 < 1) : Kon 0 l yX5_takeFlag cX5_takeFlag 1 (some .int) 2 47 0 0 (fun ad => [.ref (ad 10 n0)]) rvI (fun μ => fX5_takeFlag n0 μ) := by
  refine kon_of (by decide) (fun _ => Nat.le_of_ble_eq_true rfl) (fun X r0 μ hXl hXn V C E => ?_)
  have hN : ∀ i : Nat, i < 1 → i < xn X := fun i h => hXn.symm ▸ h
  have R0 := fen_rm E
  show G X r0 0 0 μ 0 [(0, .ref (xa X 10 n0))] [] (fX5_takeFlag n0 μ)
  unfold fX5_takeFlag
  refine s_aload_n C dX5_takeFlag_0 rfl 0 rfl ?_
  refine s_getF C (fgX5_26_10 _) g0 dX5_takeFlag_1 ?_
  refine s_iconst (v := (0 : Int32)) C dX5_takeFlag_4 (by decide) ?_
  refine s_bipush (v := (7 : Int32)) C dX5_takeFlag_5 (by decide) ?_
  refine s_callV C R0 (kX11_takeNumber (xl X) 0 (by decide) (0 : Int32) (7 : Int32)) (Nat.le_trans (by decide) V) mmX11_takeNumber miX11_takeNumber q1077 (rc2 _) (by decide) rfl rfl rfl (Nat.le_of_ble_eq_true rfl) ⟨Nat.le_of_ble_eq_true rfl, Nat.le_of_ble_eq_true rfl, Nat.le_of_ble_eq_true rfl, Nat.le_of_ble_eq_true rfl⟩ dX5_takeFlag_7 (fun x2 μ1 => ?_)
  refine g_st (st' := [.int x2]) rfl ?_
  exact s_iret C E dX5_takeFlag_10
/-! PinEngines$ProgramReader.takeGroup(II)I -/
def fX5_takeGroup (n0 : Nat) (p1 : Int32) (p2 : Int32) (μ : Mem) : Option (Int32 × Mem) :=
  bnd (fX11_takeNumber 0 (1 : Int32) p2 μ) fun x2 μ1 =>
  bnd (fX12_rotatedPins (((1 : Int32) <<< (x2 &&& 31)) - (1 : Int32)) p1 μ1) fun x4 μ3 =>
  some (x4, μ3)
set_option maxHeartbeats 4000000 in
set_option maxRecDepth 100000 in
theorem kX5_takeGroup (l : Launch) (n0 : Nat) (g0 : n0 < 1) (p1 : Int32) (p2 : Int32) : Kon 0 l yX5_takeGroup cX5_takeGroup 4 (some .int) 2 47 0 0 (fun ad => [.ref (ad 10 n0), .int p1, .int p2]) rvI (fun μ => fX5_takeGroup n0 p1 p2 μ) := by
  refine kon_of (by decide) (fun _ => Nat.le_of_ble_eq_true rfl) (fun X r0 μ hXl hXn V C E => ?_)
  have hN : ∀ i : Nat, i < 4 → i < xn X := fun i h => hXn.symm ▸ h
  have R0 := fen_rm E
  show G X r0 0 0 μ 0 [(0, .ref (xa X 10 n0)), (1, .int p1), (2, .int p2)] [] (fX5_takeGroup n0 p1 p2 μ)
  unfold fX5_takeGroup
  refine s_aload_n C dX5_takeGroup_0 rfl 0 rfl ?_
  refine s_getF C (fgX5_26_10 _) g0 dX5_takeGroup_1 ?_
  refine s_iconst (v := (1 : Int32)) C dX5_takeGroup_4 (by decide) ?_
  refine s_iload_n C dX5_takeGroup_5 rfl 2 rfl ?_
  refine s_callV C R0 (kX11_takeNumber (xl X) 0 (by decide) (1 : Int32) p2) (Nat.le_trans (by decide) V) mmX11_takeNumber miX11_takeNumber q1077 (rc2 _) (by decide) rfl rfl rfl (Nat.le_of_ble_eq_true rfl) ⟨Nat.le_of_ble_eq_true rfl, Nat.le_of_ble_eq_true rfl, Nat.le_of_ble_eq_true rfl, Nat.le_of_ble_eq_true rfl⟩ dX5_takeGroup_6 (fun x2 μ1 => ?_)
  refine g_st (st' := [.int x2]) rfl ?_
  refine s_istore_n (L' := [(3, .int x2), (0, .ref (xa X 10 n0)), (1, .int p1), (2, .int p2)]) C dX5_takeGroup_9 rfl (hN 3 (by decide)) rfl ?_
  refine s_iconst (v := (1 : Int32)) C dX5_takeGroup_10 (by decide) ?_
  refine s_iload_n C dX5_takeGroup_11 rfl 0 rfl ?_
  refine s_ishl C dX5_takeGroup_12 ?_
  refine s_iconst (v := (1 : Int32)) C dX5_takeGroup_13 (by decide) ?_
  refine s_isub C dX5_takeGroup_14 ?_
  refine s_iload_n C dX5_takeGroup_15 rfl 2 rfl ?_
  refine s_callSN (host := "PinEngines") C R0 (kX12_rotatedPins (xl X) (((1 : Int32) <<< (x2 &&& 31)) - (1 : Int32)) p1) (Nat.le_trans (by decide) V) mmX12_rotatedPins q1137 qn1136 rfl rfl rfl (Nat.le_of_ble_eq_true rfl) ⟨Nat.le_of_ble_eq_true rfl, Nat.le_of_ble_eq_true rfl, Nat.le_of_ble_eq_true rfl, Nat.le_of_ble_eq_true rfl⟩ dX5_takeGroup_16 (fun x4 μ3 => ?_)
  refine g_st (st' := [.int x4]) rfl ?_
  exact s_iret C E dX5_takeGroup_19
/-! PinEngines$ProgramReader.takeName()I -/
def fX5_takeName (fu : Nat) (n0 : Nat) (μ : Mem) : Option (Int32 × Mem) :=
  bnd (fX11_at 0 2 μ) fun x2 μ1 =>
  if ¬ x2 = 0 then (
    jn (fun (μ4 : Mem) (x5 : Int32) =>
      if ¬ x5 = (-1 : Int32) then (
        bnd (fX11_skip 0 2 μ4) fun x8 μ7 =>
        some (x5, μ7)
      ) else (
        bnd (fX11_fail 0 (5 : Int32) μ4) fun _ μ9 =>
        some ((0 : Int32), μ9)
      )
    ) fun j38 =>
    if (μ1.1 10 n0 2) = 0 then (
      j38 μ1 (0 : Int32)
    ) else (
      bnd (fX5_labelAddress fu n0 μ1) fun x12 μ11 =>
      j38 μ11 x12
    )
  ) else (
    bnd (fX11_fail 0 (1 : Int32) μ1) fun _ μ13 =>
    some ((0 : Int32), μ13)
  )
set_option maxHeartbeats 4000000 in
set_option maxRecDepth 100000 in
theorem kX5_takeName (l : Launch) (fu : Nat) (n0 : Nat) (g0 : n0 < 1) : Kon 0 l yX5_takeName cX5_takeName 2 (some .int) 2 44 0 0 (fun ad => [.ref (ad 10 n0)]) rvI (fun μ => fX5_takeName fu n0 μ) := by
  refine kon_of (by decide) (fun _ => Nat.le_of_ble_eq_true rfl) (fun X r0 μ hXl hXn V C E => ?_)
  have hN : ∀ i : Nat, i < 2 → i < xn X := fun i h => hXn.symm ▸ h
  have R0 := fen_rm E
  show G X r0 0 0 μ 0 [(0, .ref (xa X 10 n0))] [] (fX5_takeName fu n0 μ)
  unfold fX5_takeName
  refine s_aload_n C dX5_takeName_0 rfl 0 rfl ?_
  refine s_getF C (fgX5_26_10 _) g0 dX5_takeName_1 ?_
  refine s_gsym (i := 2) C (by decide) rfl q1093 dX5_takeName_4 ?_
  refine s_callV C R0 (kX11_at (xl X) 0 (by decide) 2 (by decide)) (Nat.le_trans (by decide) V) mmX11_at miX11_at q1046 (rc2 _) (by decide) rfl rfl rfl (Nat.le_of_ble_eq_true rfl) ⟨Nat.le_of_ble_eq_true rfl, Nat.le_of_ble_eq_true rfl, Nat.le_of_ble_eq_true rfl, Nat.le_of_ble_eq_true rfl⟩ dX5_takeName_7 (fun x2 μ1 => ?_)
  refine g_st (st' := [.int x2]) rfl ?_
  refine s_if_ne (tgt := 23) C dX5_takeName_10 (by decide) (fun c3 => ?_) (fun c3 => ?_)
  ·
    refine g_jn (P := fun j38 => ∀ (μ4 : Mem) (x5 : Int32), G X r0 0 0 μ4 38 [(0, .ref (xa X 10 n0))] [.int x5] (j38 μ4 x5)) ?_ (fun j38 hj38 => ?_)
    · intro μ4 x5
      refine s_istore_n (L' := [(1, .int x5), (0, .ref (xa X 10 n0))]) C dX5_takeName_38 rfl (hN 1 (by decide)) rfl ?_
      refine s_iload_n C dX5_takeName_39 rfl 0 rfl ?_
      refine s_iconst (v := (-1 : Int32)) C dX5_takeName_40 (by decide) ?_
      refine s_icmp_ne (tgt := 54) C dX5_takeName_41 (by decide) (fun c6 => ?_) (fun c6 => ?_)
      ·
        refine s_aload_n C dX5_takeName_54 rfl 1 rfl ?_
        refine s_getF C (fgX5_26_10 _) g0 dX5_takeName_55 ?_
        refine s_gsym (i := 2) C (by decide) rfl q1093 dX5_takeName_58 ?_
        refine s_callV C R0 (kX11_skip (xl X) 0 (by decide) 2 (by decide)) (Nat.le_trans (by decide) V) mmX11_skip miX11_skip q1052 (rc2 _) (by decide) rfl rfl rfl (Nat.le_of_ble_eq_true rfl) ⟨Nat.le_of_ble_eq_true rfl, Nat.le_of_ble_eq_true rfl, Nat.le_of_ble_eq_true rfl, Nat.le_of_ble_eq_true rfl⟩ dX5_takeName_61 (fun x8 μ7 => ?_)
        refine g_st (st' := [.int x8]) rfl ?_
        refine s_pop C dX5_takeName_64 rfl ?_
        refine s_iload_n C dX5_takeName_65 rfl 0 rfl ?_
        exact s_iret C E dX5_takeName_66
      ·
        refine s_aload_n C dX5_takeName_44 rfl 1 rfl ?_
        refine s_getF C (fgX5_26_10 _) g0 dX5_takeName_45 ?_
        refine s_iconst (v := (5 : Int32)) C dX5_takeName_48 (by decide) ?_
        refine s_callV C R0 (kX11_fail (xl X) 0 (by decide) (5 : Int32)) (Nat.le_trans (by decide) V) mmX11_fail miX11_fail q1073 (rc2 _) (by decide) rfl rfl rfl (Nat.le_of_ble_eq_true rfl) ⟨Nat.le_of_ble_eq_true rfl, Nat.le_of_ble_eq_true rfl, Nat.le_of_ble_eq_true rfl, Nat.le_of_ble_eq_true rfl⟩ dX5_takeName_49 (fun _ μ9 => ?_)
        refine g_st (st' := []) rfl ?_
        refine s_iconst (v := (0 : Int32)) C dX5_takeName_52 (by decide) ?_
        exact s_iret C E dX5_takeName_53
    refine s_aload_n C dX5_takeName_23 rfl 0 rfl ?_
    refine s_getI C (fgX5_9_10 _) g0 dX5_takeName_24 ?_
    refine s_if_eq (tgt := 37) C dX5_takeName_27 (by decide) (fun c10 => ?_) (fun c10 => ?_)
    ·
      refine s_iconst (v := (0 : Int32)) C dX5_takeName_37 (by decide) ?_
      exact g_sub [0] rfl (hj38 μ1 (0 : Int32))
    ·
      refine s_aload_n C dX5_takeName_30 rfl 0 rfl ?_
      refine s_callV C R0 (kX5_labelAddress (xl X) fu n0 g0) (Nat.le_trans (by decide) V) mmX5_labelAddress miX5_labelAddress q1094 (rc10 _) g0 rfl rfl rfl (Nat.le_of_ble_eq_true rfl) ⟨Nat.le_of_ble_eq_true rfl, Nat.le_of_ble_eq_true rfl, Nat.le_of_ble_eq_true rfl, Nat.le_of_ble_eq_true rfl⟩ dX5_takeName_31 (fun x12 μ11 => ?_)
      refine g_st (st' := [.int x12]) rfl ?_
      refine s_goto (tgt := 38) C dX5_takeName_34 (by decide) ?_
      exact g_sub [0] rfl (hj38 μ11 x12)
  ·
    refine s_aload_n C dX5_takeName_13 rfl 0 rfl ?_
    refine s_getF C (fgX5_26_10 _) g0 dX5_takeName_14 ?_
    refine s_iconst (v := (1 : Int32)) C dX5_takeName_17 (by decide) ?_
    refine s_callV C R0 (kX11_fail (xl X) 0 (by decide) (1 : Int32)) (Nat.le_trans (by decide) V) mmX11_fail miX11_fail q1073 (rc2 _) (by decide) rfl rfl rfl (Nat.le_of_ble_eq_true rfl) ⟨Nat.le_of_ble_eq_true rfl, Nat.le_of_ble_eq_true rfl, Nat.le_of_ble_eq_true rfl, Nat.le_of_ble_eq_true rfl⟩ dX5_takeName_18 (fun _ μ13 => ?_)
    refine g_st (st' := []) rfl ?_
    refine s_iconst (v := (0 : Int32)) C dX5_takeName_21 (by decide) ?_
    exact s_iret C E dX5_takeName_22
/-! PinEngines$QueryReader.readValue([I)V -/
def fX6_readValue (fu : Nat) (n0 : Nat) (n1 : Nat) (μ : Mem) : Option (Unit × Mem) :=
  jn (fun (μ1 : Mem) (a2 : Nat) (x4 : Int32) =>
    jn (lp (fun _ _ _ => none) fu (fun j36 (μ5 : Mem) (x6 : Int32) (x7 : Int32) =>
      jn (fun (μ8 : Mem) =>
        some ((), μ8)
      ) fun j77 =>
      if (4 : Int32) ≤ x7 then (
        j77 μ5
      ) else (
        if (Int32.ofNat (4)) ≤ x7 then (
          j77 μ5
        ) else (
          jn (fun (μ11 : Mem) (x12 : Int32) (a13 : Nat) (x15 : Int32) (x16 : Int32) =>
            ckI x15 (4) <|
            nm (wI μ11 24 a13 x15.toNatClampNeg x16) fun μ17 =>
            nm (x12 + (1 : Int32)) fun x18 =>
            j36 μ17 x6 x18
          ) fun j70 =>
          if ¬ a2 = 0 then (
            bnd (fX6_propertyOf n0 x7 a2 μ5) fun x21 μ20 =>
            j70 μ20 x7 n1 x7 x21
          ) else (
            j70 μ5 x7 n1 x7 x6
          )
        )
      )
    )) fun j36 =>
    j36 μ1 x4 (0 : Int32)
  ) fun j32 =>
  bnd (fX11_takeOptional 0 (16384 : Int32) μ) fun a23 μ22 =>
  ckB a23 74 <|
  if ¬ a23 = 0 then (
    j32 μ22 a23 (0 : Int32)
  ) else (
    bnd (fX11_takeNumber 0 (0 : Int32) (99999 : Int32) μ22) fun x27 μ26 =>
    j32 μ26 a23 x27
  )
set_option maxHeartbeats 4000000 in
set_option maxRecDepth 100000 in
theorem kX6_readValue (l : Launch) (fu : Nat) (n0 : Nat) (g0 : n0 < 1) (n1 : Nat) (g1 : n1 < 2) : Kon 0 l yX6_readValue cX6_readValue 5 (none) 2 47 0 0 (fun ad => [.ref (ad 23 n0), .ref (ad 24 n1)]) rvV (fun μ => fX6_readValue fu n0 n1 μ) := by
  refine kon_of (by decide) (fun _ => Nat.le_of_ble_eq_true rfl) (fun X r0 μ hXl hXn V C E => ?_)
  have hN : ∀ i : Nat, i < 5 → i < xn X := fun i h => hXn.symm ▸ h
  have R0 := fen_rm E
  show G X r0 0 0 μ 0 [(0, .ref (xa X 23 n0)), (1, .ref (xa X 24 n1))] [] (fX6_readValue fu n0 n1 μ)
  unfold fX6_readValue
  refine g_jn (P := fun j32 => ∀ (μ1 : Mem) (a2 : Nat) (x4 : Int32), a2 < 74 → G X r0 0 0 μ1 32 [(0, .ref (xa X 23 n0)), (1, .ref (xa X 24 n1)), (2, .ref (xa X 50 a2))] [.int x4] (j32 μ1 a2 x4)) ?_ (fun j32 hj32 => ?_)
  · intro μ1 a2 x4 b3
    refine g_jl (P := fun j36 => ∀ (μ5 : Mem) (x6 : Int32) (x7 : Int32), G X r0 0 0 μ5 36 [(0, .ref (xa X 23 n0)), (1, .ref (xa X 24 n1)), (2, .ref (xa X 50 a2)), (3, .int x6), (4, .int x7)] [] (j36 μ5 x6 x7)) (fun _ _ _ => g_none) (fun j36 hj36 => ?_) (fun j36 hj36 => ?_)
    · intro μ5 x6 x7
      refine g_jn (P := fun j77 => ∀ (μ8 : Mem), G X r0 0 0 μ8 77 [] [] (j77 μ8)) ?_ (fun j77 hj77 => ?_)
      · intro μ8
        exact s_vret C E dX6_readValue_77
      refine s_iload C dX6_readValue_36 4 rfl ?_
      refine s_iconst (v := (4 : Int32)) C dX6_readValue_38 (by decide) ?_
      refine s_icmp_ge (tgt := 77) C dX6_readValue_39 (by decide) (fun c9 => ?_) (fun c9 => ?_)
      ·
        exact g_sub [] rfl (hj77 μ5)
      ·
        refine s_iload C dX6_readValue_42 4 rfl ?_
        refine s_aload_n C dX6_readValue_44 rfl 1 rfl ?_
        refine s_alen C (ag24 _) (fun _ => rfl) g1 dX6_readValue_45 ?_
        refine s_icmp_ge (tgt := 77) C dX6_readValue_46 (by decide) (fun c10 => ?_) (fun c10 => ?_)
        ·
          exact g_sub [] rfl (hj77 μ5)
        ·
          refine g_jn (P := fun j70 => ∀ (μ11 : Mem) (x12 : Int32) (a13 : Nat) (x15 : Int32) (x16 : Int32), a13 < 2 → G X r0 0 0 μ11 70 [(0, .ref (xa X 23 n0)), (1, .ref (xa X 24 n1)), (2, .ref (xa X 50 a2)), (3, .int x6), (4, .int x12)] [.int x16, .int x15, .ref (xa X 24 a13)] (j70 μ11 x12 a13 x15 x16)) ?_ (fun j70 hj70 => ?_)
          · intro μ11 x12 a13 x15 x16 b14
            refine s_iast C (ag24 _) b14 dX6_readValue_70 ?_
            refine g_nmM (fun μ17 => ?_)
            refine g_nmQ (fun x18 ex18 => ?_)
            refine s_iinc (v := x18) (j := 4) (L' := [(4, .int x18), (0, .ref (xa X 23 n0)), (1, .ref (xa X 24 n1)), (2, .ref (xa X 50 a2)), (3, .int x6)]) C dX6_readValue_71 rfl (by rw [ex18]; rfl) (hN 4 (by decide)) rfl ?_
            refine s_goto (tgt := 36) C dX6_readValue_74 (by decide) ?_
            exact g_sub [1, 2, 3, 4, 0] rfl (hj36 μ17 x6 x18)
          refine s_aload_n C dX6_readValue_49 rfl 1 rfl ?_
          refine s_iload C dX6_readValue_50 4 rfl ?_
          refine s_aload_n C dX6_readValue_52 rfl 2 rfl ?_
          refine s_gsym (i := 0) C (by decide) rfl q1971 dX6_readValue_53 ?_
          refine s_acmp_ne (tgt := 63) C b3 (by decide) dX6_readValue_56 (by decide) (fun c19 => ?_) (fun c19 => ?_)
          ·
            refine s_aload_n C dX6_readValue_63 rfl 0 rfl ?_
            refine s_iload C dX6_readValue_64 4 rfl ?_
            refine s_aload_n C dX6_readValue_66 rfl 2 rfl ?_
            refine s_callV C R0 (kX6_propertyOf (xl X) n0 g0 x7 a2 b3) (Nat.le_trans (by decide) V) mmX6_propertyOf miX6_propertyOf q1974 (rc23 _) g0 rfl rfl rfl (Nat.le_of_ble_eq_true rfl) ⟨Nat.le_of_ble_eq_true rfl, Nat.le_of_ble_eq_true rfl, Nat.le_of_ble_eq_true rfl, Nat.le_of_ble_eq_true rfl⟩ dX6_readValue_67 (fun x21 μ20 => ?_)
            refine g_st (st' := [.int x21, .int x7, .ref (xa X 24 n1)]) rfl ?_
            exact g_sub [0, 1, 2, 3, 4] rfl (hj70 μ20 x7 n1 x7 x21 g1)
          ·
            refine s_iload_n C dX6_readValue_59 rfl 3 rfl ?_
            refine s_goto (tgt := 70) C dX6_readValue_60 (by decide) ?_
            exact g_sub [0, 1, 2, 3, 4] rfl (hj70 μ5 x7 n1 x7 x6 g1)
    refine s_istore_n (L' := [(3, .int x4), (0, .ref (xa X 23 n0)), (1, .ref (xa X 24 n1)), (2, .ref (xa X 50 a2))]) C dX6_readValue_32 rfl (hN 3 (by decide)) rfl ?_
    refine s_iconst (v := (0 : Int32)) C dX6_readValue_33 (by decide) ?_
    refine s_istore (L' := [(4, .int (0 : Int32)), (3, .int x4), (0, .ref (xa X 23 n0)), (1, .ref (xa X 24 n1)), (2, .ref (xa X 50 a2))]) C dX6_readValue_34 (hN 4 (by decide)) rfl ?_
    exact g_sub [2, 3, 4, 1, 0] rfl (hj36 μ1 x4 (0 : Int32))
  refine s_aload_n C dX6_readValue_0 rfl 0 rfl ?_
  refine s_getF C (fgX6_18_23 _) g0 dX6_readValue_1 ?_
  refine s_sipush (v := (16384 : Int32)) C dX6_readValue_4 (by decide) ?_
  refine s_callV C R0 (kX11_takeOptional (xl X) 0 (by decide) (16384 : Int32)) (Nat.le_trans (by decide) V) mmX11_takeOptional miX11_takeOptional q1970 (rc2 _) (by decide) rfl rfl rfl (Nat.le_of_ble_eq_true rfl) ⟨Nat.le_of_ble_eq_true rfl, Nat.le_of_ble_eq_true rfl, Nat.le_of_ble_eq_true rfl, Nat.le_of_ble_eq_true rfl⟩ dX6_readValue_7 (fun a23 μ22 => ?_)
  refine g_st (st' := [.ref (xa X 50 a23)]) rfl ?_
  refine g_ckB (fun b24 => ?_)
  refine s_astore_n (L' := [(2, .ref (xa X 50 a23)), (0, .ref (xa X 23 n0)), (1, .ref (xa X 24 n1))]) C dX6_readValue_10 rfl (hN 2 (by decide)) rfl ?_
  refine s_aload_n C dX6_readValue_11 rfl 0 rfl ?_
  refine s_gsym (i := 0) C (by decide) rfl q1971 dX6_readValue_12 ?_
  refine s_acmp_ne (tgt := 31) C b24 (by decide) dX6_readValue_15 (by decide) (fun c25 => ?_) (fun c25 => ?_)
  ·
    refine s_iconst (v := (0 : Int32)) C dX6_readValue_31 (by decide) ?_
    exact g_sub [1, 2, 0] rfl (hj32 μ22 a23 (0 : Int32) b24)
  ·
    refine s_aload_n C dX6_readValue_18 rfl 1 rfl ?_
    refine s_getF C (fgX6_18_23 _) g0 dX6_readValue_19 ?_
    refine s_iconst (v := (0 : Int32)) C dX6_readValue_22 (by decide) ?_
    refine s_ldc (v := (99999 : Int32)) C q1972 dX6_readValue_23 ?_
    refine s_callV C R0 (kX11_takeNumber (xl X) 0 (by decide) (0 : Int32) (99999 : Int32)) (Nat.le_trans (by decide) V) mmX11_takeNumber miX11_takeNumber q1973 (rc2 _) (by decide) rfl rfl rfl (Nat.le_of_ble_eq_true rfl) ⟨Nat.le_of_ble_eq_true rfl, Nat.le_of_ble_eq_true rfl, Nat.le_of_ble_eq_true rfl, Nat.le_of_ble_eq_true rfl⟩ dX6_readValue_25 (fun x27 μ26 => ?_)
    refine g_st (st' := [.int x27]) rfl ?_
    refine s_goto (tgt := 32) C dX6_readValue_28 (by decide) ?_
    exact g_sub [1, 2, 0] rfl (hj32 μ26 a23 x27 b24)
/-! PinEngines$Simulator.grantPort(I)I -/
def fX9_grantPort (fu : Nat) (n0 : Nat) (p1 : Int32) (μ : Mem) : Option (Int32 × Mem) :=
  jn (lp (fun _ _ => none) fu (fun j2 (μ1 : Mem) (x2 : Int32) =>
    if (4 : Int32) < x2 then (
      some ((-1 : Int32), μ1)
    ) else (
      jn (fun (μ4 : Mem) (x5 : Int32) =>
        nm (x5 + (1 : Int32)) fun x6 =>
        j2 μ4 x6
      ) fun j58 =>
      nm (μ1.2.1 22 n0 1) fun a7 =>
      ckB a7 13 <|
      ckD (4 : Int32) <|
      nm ((((μ1.1 12 a7 5) + x2) - ((μ1.1 12 a7 5) + x2) / (4 : Int32) * (4 : Int32))) fun x9 =>
      if x9 < 0 then (
        j58 μ1 x2
      ) else (
        if ¬ ((p1 >>> (x9 &&& 31)) &&& (1 : Int32)) = (1 : Int32) then (
          j58 μ1 x2
        ) else (
          nm (μ1.2.1 22 n0 1) fun a12 =>
          ckB a12 13 <|
          ckI x9 (4) <|
          bnd (fX9_wantsPort n0 (4 * a12 + x9.toNatClampNeg) μ1) fun x17 μ16 =>
          if x17 = 0 then (
            j58 μ16 x2
          ) else (
            nm (μ16.2.1 22 n0 1) fun a19 =>
            ckB a19 13 <|
            nm (wI μ16 12 a19 5 x9) fun μ21 =>
            some (x9, μ21)
          )
        )
      )
    )
  )) fun j2 =>
  j2 μ (1 : Int32)
set_option maxHeartbeats 4000000 in
set_option maxRecDepth 100000 in
theorem kX9_grantPort (l : Launch) (fu : Nat) (n0 : Nat) (g0 : n0 < 1) (p1 : Int32) : Kon 0 l yX9_grantPort cX9_grantPort 4 (some .int) 2 42 0 0 (fun ad => [.ref (ad 22 n0), .int p1]) rvI (fun μ => fX9_grantPort fu n0 p1 μ) := by
  refine kon_of (by decide) (fun _ => Nat.le_of_ble_eq_true rfl) (fun X r0 μ hXl hXn V C E => ?_)
  have hN : ∀ i : Nat, i < 4 → i < xn X := fun i h => hXn.symm ▸ h
  have R0 := fen_rm E
  show G X r0 0 0 μ 0 [(0, .ref (xa X 22 n0)), (1, .int p1)] [] (fX9_grantPort fu n0 p1 μ)
  unfold fX9_grantPort
  refine g_jl (P := fun j2 => ∀ (μ1 : Mem) (x2 : Int32), G X r0 0 0 μ1 2 [(0, .ref (xa X 22 n0)), (1, .int p1), (2, .int x2)] [] (j2 μ1 x2)) (fun _ _ => g_none) (fun j2 hj2 => ?_) (fun j2 hj2 => ?_)
  · intro μ1 x2
    refine s_iload_n C dX9_grantPort_2 rfl 2 rfl ?_
    refine s_iconst (v := (4 : Int32)) C dX9_grantPort_3 (by decide) ?_
    refine s_icmp_gt (tgt := 64) C dX9_grantPort_4 (by decide) (fun c3 => ?_) (fun c3 => ?_)
    ·
      refine s_iconst (v := (-1 : Int32)) C dX9_grantPort_64 (by decide) ?_
      exact s_iret C E dX9_grantPort_65
    ·
      refine g_jn (P := fun j58 => ∀ (μ4 : Mem) (x5 : Int32), G X r0 0 0 μ4 58 [(0, .ref (xa X 22 n0)), (1, .int p1), (2, .int x5)] [] (j58 μ4 x5)) ?_ (fun j58 hj58 => ?_)
      · intro μ4 x5
        refine g_nmQ (fun x6 ex6 => ?_)
        refine s_iinc (v := x6) (j := 2) (L' := [(2, .int x6), (0, .ref (xa X 22 n0)), (1, .int p1)]) C dX9_grantPort_58 rfl (by rw [ex6]; rfl) (hN 2 (by decide)) rfl ?_
        refine s_goto (tgt := 2) C dX9_grantPort_61 (by decide) ?_
        exact g_sub [1, 2, 0] rfl (hj2 μ4 x6)
      refine s_aload_n C dX9_grantPort_7 rfl 0 rfl ?_
      refine s_getM C (fgX9_15_22 _) g0 dX9_grantPort_8 ?_
      refine g_nmA (fun a7 => ?_)
      refine g_ckB (fun b8 => ?_)
      refine s_getI C (fgX9_77_12 _) b8 dX9_grantPort_11 ?_
      refine s_iload_n C dX9_grantPort_14 rfl 2 rfl ?_
      refine s_iadd C dX9_grantPort_15 ?_
      refine s_iconst (v := (4 : Int32)) C dX9_grantPort_16 (by decide) ?_
      refine s_irem C dX9_grantPort_17 ?_
      refine g_nmI (fun x9 => ?_)
      refine s_istore_n (L' := [(3, .int x9), (0, .ref (xa X 22 n0)), (1, .int p1), (2, .int x2)]) C dX9_grantPort_18 rfl (hN 3 (by decide)) rfl ?_
      refine s_iload_n C dX9_grantPort_19 rfl 0 rfl ?_
      refine s_if_lt (tgt := 58) C dX9_grantPort_20 (by decide) (fun c10 => ?_) (fun c10 => ?_)
      ·
        exact g_sub [1, 2, 3] rfl (hj58 μ1 x2)
      ·
        refine s_iload_n C dX9_grantPort_23 rfl 2 rfl ?_
        refine s_iload_n C dX9_grantPort_24 rfl 0 rfl ?_
        refine s_ishr C dX9_grantPort_25 ?_
        refine s_iconst (v := (1 : Int32)) C dX9_grantPort_26 (by decide) ?_
        refine s_iand C dX9_grantPort_27 ?_
        refine s_iconst (v := (1 : Int32)) C dX9_grantPort_28 (by decide) ?_
        refine s_icmp_ne (tgt := 58) C dX9_grantPort_29 (by decide) (fun c11 => ?_) (fun c11 => ?_)
        ·
          exact g_sub [1, 2, 3] rfl (hj58 μ1 x2)
        ·
          refine s_aload_n C dX9_grantPort_32 rfl 1 rfl ?_
          refine s_aload_n C dX9_grantPort_33 rfl 1 rfl ?_
          refine s_getM C (fgX9_15_22 _) g0 dX9_grantPort_34 ?_
          refine g_nmA (fun a12 => ?_)
          refine g_ckB (fun b13 => ?_)
          refine s_getF C (fgX9_48_12 _) b13 dX9_grantPort_37 ?_
          refine s_iload_n C dX9_grantPort_40 rfl 0 rfl ?_
          refine s_aaldF C (ag14 _) (fun _ => rfl) b13 dX9_grantPort_41 (fun c14 => ?_)
          have b15 : 4 * a12 + x9.toNatClampNeg < 52 := by have := c14; omega
          refine s_callV C R0 (kX9_wantsPort (xl X) n0 g0 (4 * a12 + x9.toNatClampNeg) b15) (Nat.le_trans (by decide) V) mmX9_wantsPort miX9_wantsPort q1494 (rc22 _) g0 rfl rfl rfl (Nat.le_of_ble_eq_true rfl) ⟨Nat.le_of_ble_eq_true rfl, Nat.le_of_ble_eq_true rfl, Nat.le_of_ble_eq_true rfl, Nat.le_of_ble_eq_true rfl⟩ dX9_grantPort_42 (fun x17 μ16 => ?_)
          refine g_st (st' := [.int x17]) rfl ?_
          refine s_if_eq (tgt := 58) C dX9_grantPort_45 (by decide) (fun c18 => ?_) (fun c18 => ?_)
          ·
            exact g_sub [1, 2, 3] rfl (hj58 μ16 x2)
          ·
            refine s_aload_n C dX9_grantPort_48 rfl 1 rfl ?_
            refine s_getM C (fgX9_15_22 _) g0 dX9_grantPort_49 ?_
            refine g_nmA (fun a19 => ?_)
            refine g_ckB (fun b20 => ?_)
            refine s_iload_n C dX9_grantPort_52 rfl 0 rfl ?_
            refine s_putI C (fpX9_77_12 _) b20 dX9_grantPort_53 ?_
            refine g_nmM (fun μ21 => ?_)
            refine s_iload_n C dX9_grantPort_56 rfl 0 rfl ?_
            exact s_iret C E dX9_grantPort_57
  refine s_iconst (v := (1 : Int32)) C dX9_grantPort_0 (by decide) ?_
  refine s_istore_n (L' := [(2, .int (1 : Int32)), (0, .ref (xa X 22 n0)), (1, .int p1)]) C dX9_grantPort_1 rfl (hN 2 (by decide)) rfl ?_
  exact g_sub [1, 2, 0] rfl (hj2 μ (1 : Int32))
/-! PinEngines$Simulator.shiftIn(LPinEngines$Instruction;LPinEngines$Engine;LPinEngines$Setup;)I -/
def fX9_shiftIn (n0 : Nat) (n1 : Nat) (n2 : Nat) (n3 : Nat) (μ : Mem) : Option (Int32 × Mem) :=
  jn (fun (μ1 : Mem) (x2 : Int32) (x3 : Int32) (x4 : Int32) (x5 : Int32) =>
    jn (fun (μ6 : Mem) (x7 : Int32) =>
      jn (fun (μ8 : Mem) =>
        jn (fun (μ9 : Mem) =>
          some ((0 : Int32), μ9)
        ) fun j154 =>
        if x7 = 0 then (
          j154 μ8
        ) else (
          bnd (fX1_pushIsr n2 μ8) fun _ μ11 =>
          j154 μ11
        )
      ) fun j145 =>
      if ¬ x2 = (32 : Int32) then (
        if (μ6.1 8 n3 13) = 0 then (
          bnd (fX1_setIsr n2 ((((μ6.1 18 n2 3).toUInt32 >>> (x2.toUInt32 &&& Int32.toUInt32 31)).toInt32) ||| (x3 <<< (((32 : Int32) - x2) &&& 31))) x4 μ6) fun _ μ14 =>
          j145 μ14
        ) else (
          bnd (fX1_setIsr n2 (((μ6.1 18 n2 3) <<< (x2 &&& 31)) ||| (x3 &&& (((1 : Int32) <<< (x2 &&& 31)) - (1 : Int32)))) x4 μ6) fun _ μ15 =>
          j145 μ15
        )
      ) else (
        bnd (fX1_setIsr n2 x3 x4 μ6) fun _ μ16 =>
        j145 μ16
      )
    ) fun j72 =>
    if x5 = 0 then (
      j72 μ1 x5
    ) else (
      bnd (fX7_isFull (2 * n2 + 1) μ1) fun x20 μ19 =>
      if x20 = 0 then (
        j72 μ19 x5
      ) else (
        some ((3 : Int32), μ19)
      )
    )
  ) fun j53 =>
  jn (fun (μ22 : Mem) (x23 : Int32) (x24 : Int32) (x25 : Int32) =>
    j53 μ22 x23 x24 x25 (0 : Int32)
  ) fun j52 =>
  nm ((μ.1 9 n1 5)) fun x26 =>
  nm (μ.2.1 9 n1 2) fun a27 =>
  ckB a27 74 <|
  bnd (fX9_sourceWord n0 a27 n2 n3 μ) fun x30 μ29 =>
  nm ((if (32 : Int32) < ((μ29.1 18 n2 5) + x26) then (32 : Int32) else ((μ29.1 18 n2 5) + x26))) fun x31 =>
  if (μ29.1 8 n3 15) = 0 then (
    j52 μ29 x26 x30 x31
  ) else (
    if x31 < (μ29.1 8 n3 17) then (
      j52 μ29 x26 x30 x31
    ) else (
      j53 μ29 x26 x30 x31 (1 : Int32)
    )
  )
set_option maxHeartbeats 4000000 in
set_option maxRecDepth 100000 in
theorem kX9_shiftIn (l : Launch) (n0 : Nat) (g0 : n0 < 1) (n1 : Nat) (g1 : n1 < 66) (n2 : Nat) (g2 : n2 < 52) (n3 : Nat) (g3 : n3 < 8) : Kon 0 l yX9_shiftIn cX9_shiftIn 8 (some .int) 3 61 0 0 (fun ad => [.ref (ad 22 n0), .ref (ad 9 n1), .ref (ad 18 n2), .ref (ad 8 n3)]) rvI (fun μ => fX9_shiftIn n0 n1 n2 n3 μ) := by
  refine kon_of (by decide) (fun _ => Nat.le_of_ble_eq_true rfl) (fun X r0 μ hXl hXn V C E => ?_)
  have hN : ∀ i : Nat, i < 8 → i < xn X := fun i h => hXn.symm ▸ h
  have R0 := fen_rm E
  show G X r0 0 0 μ 0 [(0, .ref (xa X 22 n0)), (1, .ref (xa X 9 n1)), (2, .ref (xa X 18 n2)), (3, .ref (xa X 8 n3))] [] (fX9_shiftIn n0 n1 n2 n3 μ)
  unfold fX9_shiftIn
  refine g_jn (P := fun j53 => ∀ (μ1 : Mem) (x2 : Int32) (x3 : Int32) (x4 : Int32) (x5 : Int32), G X r0 0 0 μ1 53 [(2, .ref (xa X 18 n2)), (3, .ref (xa X 8 n3)), (4, .int x2), (5, .int x3), (6, .int x4)] [.int x5] (j53 μ1 x2 x3 x4 x5)) ?_ (fun j53 hj53 => ?_)
  · intro μ1 x2 x3 x4 x5
    refine g_jn (P := fun j72 => ∀ (μ6 : Mem) (x7 : Int32), G X r0 0 0 μ6 72 [(2, .ref (xa X 18 n2)), (3, .ref (xa X 8 n3)), (4, .int x2), (5, .int x3), (6, .int x4), (7, .int x7)] [] (j72 μ6 x7)) ?_ (fun j72 hj72 => ?_)
    · intro μ6 x7
      refine g_jn (P := fun j145 => ∀ (μ8 : Mem), G X r0 0 0 μ8 145 [(2, .ref (xa X 18 n2)), (7, .int x7)] [] (j145 μ8)) ?_ (fun j145 hj145 => ?_)
      · intro μ8
        refine g_jn (P := fun j154 => ∀ (μ9 : Mem), G X r0 0 0 μ9 154 [] [] (j154 μ9)) ?_ (fun j154 hj154 => ?_)
        · intro μ9
          refine s_iconst (v := (0 : Int32)) C dX9_shiftIn_154 (by decide) ?_
          exact s_iret C E dX9_shiftIn_155
        refine s_iload C dX9_shiftIn_145 1 rfl ?_
        refine s_if_eq (tgt := 154) C dX9_shiftIn_147 (by decide) (fun c10 => ?_) (fun c10 => ?_)
        ·
          exact g_sub [] rfl (hj154 μ8)
        ·
          refine s_aload_n C dX9_shiftIn_150 rfl 0 rfl ?_
          refine s_callV C R0 (kX1_pushIsr (xl X) n2 g2) (Nat.le_trans (by decide) V) mmX1_pushIsr miX1_pushIsr q1567 (rc18 _) g2 rfl rfl rfl (Nat.le_of_ble_eq_true rfl) ⟨Nat.le_of_ble_eq_true rfl, Nat.le_of_ble_eq_true rfl, Nat.le_of_ble_eq_true rfl, Nat.le_of_ble_eq_true rfl⟩ dX9_shiftIn_151 (fun _ μ11 => ?_)
          refine g_st (st' := []) rfl ?_
          exact g_sub [] rfl (hj154 μ11)
      refine s_iload C dX9_shiftIn_72 2 rfl ?_
      refine s_bipush (v := (32 : Int32)) C dX9_shiftIn_74 (by decide) ?_
      refine s_icmp_ne (tgt := 90) C dX9_shiftIn_76 (by decide) (fun c12 => ?_) (fun c12 => ?_)
      ·
        refine s_aload_n C dX9_shiftIn_90 rfl 1 rfl ?_
        refine s_getI C (fgX9_249_8 _) g3 dX9_shiftIn_91 ?_
        refine s_if_eq (tgt := 123) C dX9_shiftIn_94 (by decide) (fun c13 => ?_) (fun c13 => ?_)
        ·
          refine s_aload_n C dX9_shiftIn_123 rfl 0 rfl ?_
          refine s_aload_n C dX9_shiftIn_124 rfl 0 rfl ?_
          refine s_getI C (fgX9_252_18 _) g2 dX9_shiftIn_125 ?_
          refine s_iload C dX9_shiftIn_128 2 rfl ?_
          refine s_iushr C dX9_shiftIn_130 ?_
          refine s_iload C dX9_shiftIn_131 3 rfl ?_
          refine s_bipush (v := (32 : Int32)) C dX9_shiftIn_133 (by decide) ?_
          refine s_iload C dX9_shiftIn_135 2 rfl ?_
          refine s_isub C dX9_shiftIn_137 ?_
          refine s_ishl C dX9_shiftIn_138 ?_
          refine s_ior C dX9_shiftIn_139 ?_
          refine s_iload C dX9_shiftIn_140 4 rfl ?_
          refine s_callV C R0 (kX1_setIsr (xl X) n2 g2 ((((μ6.1 18 n2 3).toUInt32 >>> (x2.toUInt32 &&& Int32.toUInt32 31)).toInt32) ||| (x3 <<< (((32 : Int32) - x2) &&& 31))) x4) (Nat.le_trans (by decide) V) mmX1_setIsr miX1_setIsr q1563 (rc18 _) g2 rfl rfl rfl (Nat.le_of_ble_eq_true rfl) ⟨Nat.le_of_ble_eq_true rfl, Nat.le_of_ble_eq_true rfl, Nat.le_of_ble_eq_true rfl, Nat.le_of_ble_eq_true rfl⟩ dX9_shiftIn_142 (fun _ μ14 => ?_)
          refine g_st (st' := []) rfl ?_
          exact g_sub [0, 5] rfl (hj145 μ14)
        ·
          refine s_aload_n C dX9_shiftIn_97 rfl 0 rfl ?_
          refine s_aload_n C dX9_shiftIn_98 rfl 0 rfl ?_
          refine s_getI C (fgX9_252_18 _) g2 dX9_shiftIn_99 ?_
          refine s_iload C dX9_shiftIn_102 2 rfl ?_
          refine s_ishl C dX9_shiftIn_104 ?_
          refine s_iload C dX9_shiftIn_105 3 rfl ?_
          refine s_iconst (v := (1 : Int32)) C dX9_shiftIn_107 (by decide) ?_
          refine s_iload C dX9_shiftIn_108 2 rfl ?_
          refine s_ishl C dX9_shiftIn_110 ?_
          refine s_iconst (v := (1 : Int32)) C dX9_shiftIn_111 (by decide) ?_
          refine s_isub C dX9_shiftIn_112 ?_
          refine s_iand C dX9_shiftIn_113 ?_
          refine s_ior C dX9_shiftIn_114 ?_
          refine s_iload C dX9_shiftIn_115 4 rfl ?_
          refine s_callV C R0 (kX1_setIsr (xl X) n2 g2 (((μ6.1 18 n2 3) <<< (x2 &&& 31)) ||| (x3 &&& (((1 : Int32) <<< (x2 &&& 31)) - (1 : Int32)))) x4) (Nat.le_trans (by decide) V) mmX1_setIsr miX1_setIsr q1563 (rc18 _) g2 rfl rfl rfl (Nat.le_of_ble_eq_true rfl) ⟨Nat.le_of_ble_eq_true rfl, Nat.le_of_ble_eq_true rfl, Nat.le_of_ble_eq_true rfl, Nat.le_of_ble_eq_true rfl⟩ dX9_shiftIn_117 (fun _ μ15 => ?_)
          refine g_st (st' := []) rfl ?_
          refine s_goto (tgt := 145) C dX9_shiftIn_120 (by decide) ?_
          exact g_sub [0, 5] rfl (hj145 μ15)
      ·
        refine s_aload_n C dX9_shiftIn_79 rfl 0 rfl ?_
        refine s_iload C dX9_shiftIn_80 3 rfl ?_
        refine s_iload C dX9_shiftIn_82 4 rfl ?_
        refine s_callV C R0 (kX1_setIsr (xl X) n2 g2 x3 x4) (Nat.le_trans (by decide) V) mmX1_setIsr miX1_setIsr q1563 (rc18 _) g2 rfl rfl rfl (Nat.le_of_ble_eq_true rfl) ⟨Nat.le_of_ble_eq_true rfl, Nat.le_of_ble_eq_true rfl, Nat.le_of_ble_eq_true rfl, Nat.le_of_ble_eq_true rfl⟩ dX9_shiftIn_84 (fun _ μ16 => ?_)
        refine g_st (st' := []) rfl ?_
        refine s_goto (tgt := 145) C dX9_shiftIn_87 (by decide) ?_
        exact g_sub [0, 5] rfl (hj145 μ16)
    refine s_istore (L' := [(7, .int x5), (2, .ref (xa X 18 n2)), (3, .ref (xa X 8 n3)), (4, .int x2), (5, .int x3), (6, .int x4)]) C dX9_shiftIn_53 (hN 7 (by decide)) rfl ?_
    refine s_iload C dX9_shiftIn_55 0 rfl ?_
    refine s_if_eq (tgt := 72) C dX9_shiftIn_57 (by decide) (fun c17 => ?_) (fun c17 => ?_)
    ·
      exact g_sub [1, 2, 3, 4, 5, 0] rfl (hj72 μ1 x5)
    ·
      refine s_aload_n C dX9_shiftIn_60 rfl 1 rfl ?_
      refine s_getF C (fgX9_237_18 _) g2 dX9_shiftIn_61 ?_
      have b18 : 2 * n2 + 1 < 104 := by omega
      refine s_callV C R0 (kX7_isFull (xl X) (2 * n2 + 1) b18) (Nat.le_trans (by decide) V) mmX7_isFull miX7_isFull q1562 (rc19 _) b18 rfl rfl rfl (Nat.le_of_ble_eq_true rfl) ⟨Nat.le_of_ble_eq_true rfl, Nat.le_of_ble_eq_true rfl, Nat.le_of_ble_eq_true rfl, Nat.le_of_ble_eq_true rfl⟩ dX9_shiftIn_64 (fun x20 μ19 => ?_)
      refine g_st (st' := [.int x20]) rfl ?_
      refine s_if_eq (tgt := 72) C dX9_shiftIn_67 (by decide) (fun c21 => ?_) (fun c21 => ?_)
      ·
        exact g_sub [1, 2, 3, 4, 5, 0] rfl (hj72 μ19 x5)
      ·
        refine s_iconst (v := (3 : Int32)) C dX9_shiftIn_70 (by decide) ?_
        exact s_iret C E dX9_shiftIn_71
  refine g_jn (P := fun j52 => ∀ (μ22 : Mem) (x23 : Int32) (x24 : Int32) (x25 : Int32), G X r0 0 0 μ22 52 [(2, .ref (xa X 18 n2)), (3, .ref (xa X 8 n3)), (4, .int x23), (5, .int x24), (6, .int x25)] [] (j52 μ22 x23 x24 x25)) ?_ (fun j52 hj52 => ?_)
  · intro μ22 x23 x24 x25
    refine s_iconst (v := (0 : Int32)) C dX9_shiftIn_52 (by decide) ?_
    exact g_sub [0, 1, 2, 3, 4] rfl (hj53 μ22 x23 x24 x25 (0 : Int32))
  refine s_aload_n C dX9_shiftIn_0 rfl 1 rfl ?_
  refine s_getI C (fgX9_161_9 _) g1 dX9_shiftIn_1 ?_
  refine g_nmI (fun x26 => ?_)
  refine s_istore (L' := [(4, .int x26), (0, .ref (xa X 22 n0)), (1, .ref (xa X 9 n1)), (2, .ref (xa X 18 n2)), (3, .ref (xa X 8 n3))]) C dX9_shiftIn_4 (hN 4 (by decide)) rfl ?_
  refine s_aload_n C dX9_shiftIn_6 rfl 1 rfl ?_
  refine s_aload_n C dX9_shiftIn_7 rfl 2 rfl ?_
  refine s_getM C (fgX9_154_9 _) g1 dX9_shiftIn_8 ?_
  refine g_nmA (fun a27 => ?_)
  refine g_ckB (fun b28 => ?_)
  refine s_aload_n C dX9_shiftIn_11 rfl 3 rfl ?_
  refine s_aload_n C dX9_shiftIn_12 rfl 4 rfl ?_
  refine s_callV C R0 (kX9_sourceWord (xl X) n0 g0 a27 b28 n2 g2 n3 g3) (Nat.le_trans (by decide) V) mmX9_sourceWord miX9_sourceWord q1556 (rc22 _) g0 rfl rfl rfl (Nat.le_of_ble_eq_true rfl) ⟨Nat.le_of_ble_eq_true rfl, Nat.le_of_ble_eq_true rfl, Nat.le_of_ble_eq_true rfl, Nat.le_of_ble_eq_true rfl⟩ dX9_shiftIn_13 (fun x30 μ29 => ?_)
  refine g_st (st' := [.int x30]) rfl ?_
  refine s_istore (L' := [(5, .int x30), (4, .int x26), (0, .ref (xa X 22 n0)), (1, .ref (xa X 9 n1)), (2, .ref (xa X 18 n2)), (3, .ref (xa X 8 n3))]) C dX9_shiftIn_16 (hN 5 (by decide)) rfl ?_
  refine s_aload_n C dX9_shiftIn_18 rfl 4 rfl ?_
  refine s_getI C (fgX9_223_18 _) g2 dX9_shiftIn_19 ?_
  refine s_iload C dX9_shiftIn_22 1 rfl ?_
  refine s_iadd C dX9_shiftIn_24 ?_
  refine s_bipush (v := (32 : Int32)) C dX9_shiftIn_25 (by decide) ?_
  refine s_mmin C R0 q1561 q726 q172 q727 ⟨Nat.le_of_ble_eq_true rfl, Nat.le_of_ble_eq_true rfl, Nat.le_of_ble_eq_true rfl, Nat.le_of_ble_eq_true rfl⟩ dX9_shiftIn_27 ?_
  refine g_nmI (fun x31 => ?_)
  refine s_istore (L' := [(6, .int x31), (5, .int x30), (4, .int x26), (0, .ref (xa X 22 n0)), (1, .ref (xa X 9 n1)), (2, .ref (xa X 18 n2)), (3, .ref (xa X 8 n3))]) C dX9_shiftIn_30 (hN 6 (by decide)) rfl ?_
  refine s_aload_n C dX9_shiftIn_32 rfl 6 rfl ?_
  refine s_getI C (fgX9_231_8 _) g3 dX9_shiftIn_33 ?_
  refine s_if_eq (tgt := 52) C dX9_shiftIn_36 (by decide) (fun c32 => ?_) (fun c32 => ?_)
  ·
    exact g_sub [5, 6, 2, 1, 0] rfl (hj52 μ29 x26 x30 x31)
  ·
    refine s_iload C dX9_shiftIn_39 0 rfl ?_
    refine s_aload_n C dX9_shiftIn_41 rfl 6 rfl ?_
    refine s_getI C (fgX9_234_8 _) g3 dX9_shiftIn_42 ?_
    refine s_icmp_lt (tgt := 52) C dX9_shiftIn_45 (by decide) (fun c33 => ?_) (fun c33 => ?_)
    ·
      exact g_sub [5, 6, 2, 1, 0] rfl (hj52 μ29 x26 x30 x31)
    ·
      refine s_iconst (v := (1 : Int32)) C dX9_shiftIn_48 (by decide) ?_
      refine s_goto (tgt := 53) C dX9_shiftIn_49 (by decide) ?_
      exact g_sub [5, 6, 2, 1, 0] rfl (hj53 μ29 x26 x30 x31 (1 : Int32))
/-! PinEngines$Simulator.shiftOut(LPinEngines$Instruction;LPinEngines$Engine;LPinEngines$Setup;)I -/
def fX9_shiftOut (n0 : Nat) (n1 : Nat) (n2 : Nat) (n3 : Nat) (μ : Mem) : Option (Int32 × Mem) :=
  jn (fun (μ1 : Mem) (x2 : Int32) =>
    jn (fun (μ3 : Mem) (x4 : Int32) =>
      jn (fun (μ5 : Mem) =>
        some ((0 : Int32), μ5)
      ) fun j158 =>
      nm (wI μ3 18 n2 6 (if (32 : Int32) < ((μ3.1 18 n2 6) + x2) then (32 : Int32) else ((μ3.1 18 n2 6) + x2))) fun μ6 =>
      nm (μ6.2.1 9 n1 2) fun a7 =>
      ckB a7 74 <|
      bnd (fX9_deliver n0 a7 x4 n2 n3 μ6) fun _ μ9 =>
      nm (μ9.2.1 9 n1 2) fun a10 =>
      ckB a10 74 <|
      if ¬ a10 = 55 then (
        j158 μ9
      ) else (
        nm (wI μ9 18 n2 5 x2) fun μ13 =>
        j158 μ13
      )
    ) fun j114 =>
    nm ((μ1.1 18 n2 4)) fun x14 =>
    if ¬ x2 = (32 : Int32) then (
      if (μ1.1 8 n3 14) = 0 then (
        nm ((x14 &&& (((1 : Int32) <<< (x2 &&& 31)) - (1 : Int32)))) fun x17 =>
        nm (wI μ1 18 n2 4 (((μ1.1 18 n2 4).toUInt32 >>> (x2.toUInt32 &&& Int32.toUInt32 31)).toInt32)) fun μ18 =>
        j114 μ18 x17
      ) else (
        nm (((x14.toUInt32 >>> (((32 : Int32) - x2).toUInt32 &&& Int32.toUInt32 31)).toInt32)) fun x19 =>
        nm (wI μ1 18 n2 4 ((μ1.1 18 n2 4) <<< (x2 &&& 31))) fun μ20 =>
        j114 μ20 x19
      )
    ) else (
      nm (wI μ1 18 n2 4 (0 : Int32)) fun μ21 =>
      j114 μ21 x14
    )
  ) fun j40 =>
  nm ((μ.1 9 n1 5)) fun x22 =>
  if (μ.1 8 n3 16) = 0 then (
    j40 μ x22
  ) else (
    if (μ.1 18 n2 6) < (μ.1 8 n3 18) then (
      j40 μ x22
    ) else (
      if ¬ (μ.1 19 (2 * n2) 0) = 0 then (
        bnd (fX1_pullOsr n2 μ) fun _ μ27 =>
        j40 μ27 x22
      ) else (
        some ((2 : Int32), μ)
      )
    )
  )
set_option maxHeartbeats 4000000 in
set_option maxRecDepth 100000 in
theorem kX9_shiftOut (l : Launch) (n0 : Nat) (g0 : n0 < 1) (n1 : Nat) (g1 : n1 < 66) (n2 : Nat) (g2 : n2 < 52) (n3 : Nat) (g3 : n3 < 8) : Kon 0 l yX9_shiftOut cX9_shiftOut 6 (some .int) 3 65 0 0 (fun ad => [.ref (ad 22 n0), .ref (ad 9 n1), .ref (ad 18 n2), .ref (ad 8 n3)]) rvI (fun μ => fX9_shiftOut n0 n1 n2 n3 μ) := by
  refine kon_of (by decide) (fun _ => Nat.le_of_ble_eq_true rfl) (fun X r0 μ hXl hXn V C E => ?_)
  have hN : ∀ i : Nat, i < 6 → i < xn X := fun i h => hXn.symm ▸ h
  have R0 := fen_rm E
  show G X r0 0 0 μ 0 [(0, .ref (xa X 22 n0)), (1, .ref (xa X 9 n1)), (2, .ref (xa X 18 n2)), (3, .ref (xa X 8 n3))] [] (fX9_shiftOut n0 n1 n2 n3 μ)
  unfold fX9_shiftOut
  refine g_jn (P := fun j40 => ∀ (μ1 : Mem) (x2 : Int32), G X r0 0 0 μ1 40 [(0, .ref (xa X 22 n0)), (1, .ref (xa X 9 n1)), (2, .ref (xa X 18 n2)), (3, .ref (xa X 8 n3)), (4, .int x2)] [] (j40 μ1 x2)) ?_ (fun j40 hj40 => ?_)
  · intro μ1 x2
    refine g_jn (P := fun j114 => ∀ (μ3 : Mem) (x4 : Int32), G X r0 0 0 μ3 114 [(0, .ref (xa X 22 n0)), (1, .ref (xa X 9 n1)), (2, .ref (xa X 18 n2)), (3, .ref (xa X 8 n3)), (4, .int x2), (5, .int x4)] [] (j114 μ3 x4)) ?_ (fun j114 hj114 => ?_)
    · intro μ3 x4
      refine g_jn (P := fun j158 => ∀ (μ5 : Mem), G X r0 0 0 μ5 158 [] [] (j158 μ5)) ?_ (fun j158 hj158 => ?_)
      · intro μ5
        refine s_iconst (v := (0 : Int32)) C dX9_shiftOut_158 (by decide) ?_
        exact s_iret C E dX9_shiftOut_159
      refine s_aload_n C dX9_shiftOut_114 rfl 2 rfl ?_
      refine s_aload_n C dX9_shiftOut_115 rfl 2 rfl ?_
      refine s_getI C (fgX9_204_18 _) g2 dX9_shiftOut_116 ?_
      refine s_iload C dX9_shiftOut_119 4 rfl ?_
      refine s_iadd C dX9_shiftOut_121 ?_
      refine s_bipush (v := (32 : Int32)) C dX9_shiftOut_122 (by decide) ?_
      refine s_mmin C R0 q1561 q726 q172 q727 ⟨Nat.le_of_ble_eq_true rfl, Nat.le_of_ble_eq_true rfl, Nat.le_of_ble_eq_true rfl, Nat.le_of_ble_eq_true rfl⟩ dX9_shiftOut_124 ?_
      refine s_putI C (fpX9_204_18 _) g2 dX9_shiftOut_127 ?_
      refine g_nmM (fun μ6 => ?_)
      refine s_aload_n C dX9_shiftOut_130 rfl 0 rfl ?_
      refine s_aload_n C dX9_shiftOut_131 rfl 1 rfl ?_
      refine s_getM C (fgX9_154_9 _) g1 dX9_shiftOut_132 ?_
      refine g_nmA (fun a7 => ?_)
      refine g_ckB (fun b8 => ?_)
      refine s_iload C dX9_shiftOut_135 5 rfl ?_
      refine s_aload_n C dX9_shiftOut_137 rfl 2 rfl ?_
      refine s_aload_n C dX9_shiftOut_138 rfl 3 rfl ?_
      refine s_callV C R0 (kX9_deliver (xl X) n0 g0 a7 b8 x4 n2 g2 n3 g3) (Nat.le_trans (by decide) V) mmX9_deliver miX9_deliver q1583 (rc22 _) g0 rfl rfl rfl (Nat.le_of_ble_eq_true rfl) ⟨Nat.le_of_ble_eq_true rfl, Nat.le_of_ble_eq_true rfl, Nat.le_of_ble_eq_true rfl, Nat.le_of_ble_eq_true rfl⟩ dX9_shiftOut_139 (fun _ μ9 => ?_)
      refine g_st (st' := []) rfl ?_
      refine s_aload_n C dX9_shiftOut_142 rfl 1 rfl ?_
      refine s_getM C (fgX9_154_9 _) g1 dX9_shiftOut_143 ?_
      refine g_nmA (fun a10 => ?_)
      refine g_ckB (fun b11 => ?_)
      refine s_gsym (i := 55) C (by decide) rfl q1600 dX9_shiftOut_146 ?_
      refine s_acmp_ne (tgt := 158) C b11 (by decide) dX9_shiftOut_149 (by decide) (fun c12 => ?_) (fun c12 => ?_)
      ·
        exact g_sub [] rfl (hj158 μ9)
      ·
        refine s_aload_n C dX9_shiftOut_152 rfl 2 rfl ?_
        refine s_iload C dX9_shiftOut_153 4 rfl ?_
        refine s_putI C (fpX9_223_18 _) g2 dX9_shiftOut_155 ?_
        refine g_nmM (fun μ13 => ?_)
        exact g_sub [] rfl (hj158 μ13)
    refine s_aload_n C dX9_shiftOut_40 rfl 2 rfl ?_
    refine s_getI C (fgX9_270_18 _) g2 dX9_shiftOut_41 ?_
    refine g_nmI (fun x14 => ?_)
    refine s_istore (L' := [(5, .int x14), (0, .ref (xa X 22 n0)), (1, .ref (xa X 9 n1)), (2, .ref (xa X 18 n2)), (3, .ref (xa X 8 n3)), (4, .int x2)]) C dX9_shiftOut_44 (hN 5 (by decide)) rfl ?_
    refine s_iload C dX9_shiftOut_46 5 rfl ?_
    refine s_bipush (v := (32 : Int32)) C dX9_shiftOut_48 (by decide) ?_
    refine s_icmp_ne (tgt := 61) C dX9_shiftOut_50 (by decide) (fun c15 => ?_) (fun c15 => ?_)
    ·
      refine s_aload_n C dX9_shiftOut_61 rfl 4 rfl ?_
      refine s_getI C (fgX9_273_8 _) g3 dX9_shiftOut_62 ?_
      refine s_if_eq (tgt := 92) C dX9_shiftOut_65 (by decide) (fun c16 => ?_) (fun c16 => ?_)
      ·
        refine s_iload C dX9_shiftOut_92 0 rfl ?_
        refine s_iconst (v := (1 : Int32)) C dX9_shiftOut_94 (by decide) ?_
        refine s_iload C dX9_shiftOut_95 5 rfl ?_
        refine s_ishl C dX9_shiftOut_97 ?_
        refine s_iconst (v := (1 : Int32)) C dX9_shiftOut_98 (by decide) ?_
        refine s_isub C dX9_shiftOut_99 ?_
        refine s_iand C dX9_shiftOut_100 ?_
        refine g_nmI (fun x17 => ?_)
        refine s_istore (L' := [(5, .int x17), (0, .ref (xa X 22 n0)), (1, .ref (xa X 9 n1)), (2, .ref (xa X 18 n2)), (3, .ref (xa X 8 n3)), (4, .int x2)]) C dX9_shiftOut_101 (hN 5 (by decide)) rfl ?_
        refine s_aload_n C dX9_shiftOut_103 rfl 3 rfl ?_
        refine s_dup C dX9_shiftOut_104 rfl ?_
        refine s_getI C (fgX9_270_18 _) g2 dX9_shiftOut_105 ?_
        refine s_iload C dX9_shiftOut_108 5 rfl ?_
        refine s_iushr C dX9_shiftOut_110 ?_
        refine s_putI C (fpX9_270_18 _) g2 dX9_shiftOut_111 ?_
        refine g_nmM (fun μ18 => ?_)
        exact g_sub [1, 2, 3, 4, 5, 0] rfl (hj114 μ18 x17)
      ·
        refine s_iload C dX9_shiftOut_68 0 rfl ?_
        refine s_bipush (v := (32 : Int32)) C dX9_shiftOut_70 (by decide) ?_
        refine s_iload C dX9_shiftOut_72 5 rfl ?_
        refine s_isub C dX9_shiftOut_74 ?_
        refine s_iushr C dX9_shiftOut_75 ?_
        refine g_nmI (fun x19 => ?_)
        refine s_istore (L' := [(5, .int x19), (0, .ref (xa X 22 n0)), (1, .ref (xa X 9 n1)), (2, .ref (xa X 18 n2)), (3, .ref (xa X 8 n3)), (4, .int x2)]) C dX9_shiftOut_76 (hN 5 (by decide)) rfl ?_
        refine s_aload_n C dX9_shiftOut_78 rfl 3 rfl ?_
        refine s_dup C dX9_shiftOut_79 rfl ?_
        refine s_getI C (fgX9_270_18 _) g2 dX9_shiftOut_80 ?_
        refine s_iload C dX9_shiftOut_83 5 rfl ?_
        refine s_ishl C dX9_shiftOut_85 ?_
        refine s_putI C (fpX9_270_18 _) g2 dX9_shiftOut_86 ?_
        refine g_nmM (fun μ20 => ?_)
        refine s_goto (tgt := 114) C dX9_shiftOut_89 (by decide) ?_
        exact g_sub [1, 2, 3, 4, 5, 0] rfl (hj114 μ20 x19)
    ·
      refine s_aload_n C dX9_shiftOut_53 rfl 3 rfl ?_
      refine s_iconst (v := (0 : Int32)) C dX9_shiftOut_54 (by decide) ?_
      refine s_putI C (fpX9_270_18 _) g2 dX9_shiftOut_55 ?_
      refine g_nmM (fun μ21 => ?_)
      refine s_goto (tgt := 114) C dX9_shiftOut_58 (by decide) ?_
      exact g_sub [1, 2, 3, 4, 5, 0] rfl (hj114 μ21 x14)
  refine s_aload_n C dX9_shiftOut_0 rfl 1 rfl ?_
  refine s_getI C (fgX9_161_9 _) g1 dX9_shiftOut_1 ?_
  refine g_nmI (fun x22 => ?_)
  refine s_istore (L' := [(4, .int x22), (0, .ref (xa X 22 n0)), (1, .ref (xa X 9 n1)), (2, .ref (xa X 18 n2)), (3, .ref (xa X 8 n3))]) C dX9_shiftOut_4 (hN 4 (by decide)) rfl ?_
  refine s_aload_n C dX9_shiftOut_6 rfl 4 rfl ?_
  refine s_getI C (fgX9_258_8 _) g3 dX9_shiftOut_7 ?_
  refine s_if_eq (tgt := 40) C dX9_shiftOut_10 (by decide) (fun c23 => ?_) (fun c23 => ?_)
  ·
    exact g_sub [1, 2, 3, 4, 0] rfl (hj40 μ x22)
  ·
    refine s_aload_n C dX9_shiftOut_13 rfl 3 rfl ?_
    refine s_getI C (fgX9_204_18 _) g2 dX9_shiftOut_14 ?_
    refine s_aload_n C dX9_shiftOut_17 rfl 4 rfl ?_
    refine s_getI C (fgX9_207_8 _) g3 dX9_shiftOut_18 ?_
    refine s_icmp_lt (tgt := 40) C dX9_shiftOut_21 (by decide) (fun c24 => ?_) (fun c24 => ?_)
    ·
      exact g_sub [1, 2, 3, 4, 0] rfl (hj40 μ x22)
    ·
      refine s_aload_n C dX9_shiftOut_24 rfl 3 rfl ?_
      refine s_getF C (fgX9_261_18 _) g2 dX9_shiftOut_25 ?_
      have b25 : 2 * n2 < 104 := by omega
      refine s_getI C (fgX9_264_19 _) b25 dX9_shiftOut_28 ?_
      refine s_if_ne (tgt := 36) C dX9_shiftOut_31 (by decide) (fun c26 => ?_) (fun c26 => ?_)
      ·
        refine s_aload_n C dX9_shiftOut_36 rfl 3 rfl ?_
        refine s_callV C R0 (kX1_pullOsr (xl X) n2 g2) (Nat.le_trans (by decide) V) mmX1_pullOsr miX1_pullOsr q1577 (rc18 _) g2 rfl rfl rfl (Nat.le_of_ble_eq_true rfl) ⟨Nat.le_of_ble_eq_true rfl, Nat.le_of_ble_eq_true rfl, Nat.le_of_ble_eq_true rfl, Nat.le_of_ble_eq_true rfl⟩ dX9_shiftOut_37 (fun _ μ27 => ?_)
        refine g_st (st' := []) rfl ?_
        exact g_sub [1, 2, 3, 4, 0] rfl (hj40 μ27 x22)
      ·
        refine s_iconst (v := (2 : Int32)) C dX9_shiftOut_34 (by decide) ?_
        exact s_iret C E dX9_shiftOut_35
/-! PinEngines$Simulator.push(LPinEngines$Instruction;LPinEngines$Engine;LPinEngines$Setup;)I -/
def fX9_push (n0 : Nat) (n1 : Nat) (n2 : Nat) (n3 : Nat) (μ : Mem) : Option (Int32 × Mem) :=
  jn (fun (μ1 : Mem) =>
    bnd (fX7_isFull (2 * n2 + 1) μ1) fun x4 μ3 =>
    if ¬ x4 = 0 then (
      nm (μ3.2.1 9 n1 4) fun a6 =>
      ckB a6 74 <|
      if a6 = 62 then (
        bnd (fX1_setIsr n2 (0 : Int32) (0 : Int32) μ3) fun _ μ9 =>
        ckI (5 : Int32) (6) <|
        ckI (5 : Int32) (6) <|
        nm (wI μ9 21 n2 (5 : Int32).toNatClampNeg ((μ9.1 21 n2 (5 : Int32).toNatClampNeg) + (1 : Int32))) fun μ10 =>
        some ((0 : Int32), μ10)
      ) else (
        some ((3 : Int32), μ3)
      )
    ) else (
      bnd (fX1_pushIsr n2 μ3) fun _ μ11 =>
      some ((0 : Int32), μ11)
    )
  ) fun j23 =>
  nm (μ.2.1 9 n1 2) fun a12 =>
  ckB a12 74 <|
  if ¬ a12 = 60 then (
    j23 μ
  ) else (
    if (μ.1 8 n3 17) ≤ (μ.1 18 n2 5) then (
      j23 μ
    ) else (
      some ((0 : Int32), μ)
    )
  )
set_option maxHeartbeats 4000000 in
set_option maxRecDepth 100000 in
theorem kX9_push (l : Launch) (n0 : Nat) (g0 : n0 < 1) (n1 : Nat) (g1 : n1 < 66) (n2 : Nat) (g2 : n2 < 52) (n3 : Nat) (g3 : n3 < 8) : Kon 0 l yX9_push cX9_push 4 (some .int) 3 61 0 0 (fun ad => [.ref (ad 22 n0), .ref (ad 9 n1), .ref (ad 18 n2), .ref (ad 8 n3)]) rvI (fun μ => fX9_push n0 n1 n2 n3 μ) := by
  refine kon_of (by decide) (fun _ => Nat.le_of_ble_eq_true rfl) (fun X r0 μ hXl hXn V C E => ?_)
  have hN : ∀ i : Nat, i < 4 → i < xn X := fun i h => hXn.symm ▸ h
  have R0 := fen_rm E
  show G X r0 0 0 μ 0 [(0, .ref (xa X 22 n0)), (1, .ref (xa X 9 n1)), (2, .ref (xa X 18 n2)), (3, .ref (xa X 8 n3))] [] (fX9_push n0 n1 n2 n3 μ)
  unfold fX9_push
  refine g_jn (P := fun j23 => ∀ (μ1 : Mem), G X r0 0 0 μ1 23 [(1, .ref (xa X 9 n1)), (2, .ref (xa X 18 n2))] [] (j23 μ1)) ?_ (fun j23 hj23 => ?_)
  · intro μ1
    refine s_aload_n C dX9_push_23 rfl 1 rfl ?_
    refine s_getF C (fgX9_237_18 _) g2 dX9_push_24 ?_
    have b2 : 2 * n2 + 1 < 104 := by omega
    refine s_callV C R0 (kX7_isFull (xl X) (2 * n2 + 1) b2) (Nat.le_trans (by decide) V) mmX7_isFull miX7_isFull q1562 (rc19 _) b2 rfl rfl rfl (Nat.le_of_ble_eq_true rfl) ⟨Nat.le_of_ble_eq_true rfl, Nat.le_of_ble_eq_true rfl, Nat.le_of_ble_eq_true rfl, Nat.le_of_ble_eq_true rfl⟩ dX9_push_27 (fun x4 μ3 => ?_)
    refine g_st (st' := [.int x4]) rfl ?_
    refine s_if_ne (tgt := 39) C dX9_push_30 (by decide) (fun c5 => ?_) (fun c5 => ?_)
    ·
      refine s_aload_n C dX9_push_39 rfl 0 rfl ?_
      refine s_getM C (fgX9_282_9 _) g1 dX9_push_40 ?_
      refine g_nmA (fun a6 => ?_)
      refine g_ckB (fun b7 => ?_)
      refine s_gsym (i := 62) C (by decide) rfl q1607 dX9_push_43 ?_
      refine s_acmp_eq (tgt := 51) C b7 (by decide) dX9_push_46 (by decide) (fun c8 => ?_) (fun c8 => ?_)
      ·
        refine s_aload_n C dX9_push_51 rfl 1 rfl ?_
        refine s_iconst (v := (0 : Int32)) C dX9_push_52 (by decide) ?_
        refine s_iconst (v := (0 : Int32)) C dX9_push_53 (by decide) ?_
        refine s_callV C R0 (kX1_setIsr (xl X) n2 g2 (0 : Int32) (0 : Int32)) (Nat.le_trans (by decide) V) mmX1_setIsr miX1_setIsr q1563 (rc18 _) g2 rfl rfl rfl (Nat.le_of_ble_eq_true rfl) ⟨Nat.le_of_ble_eq_true rfl, Nat.le_of_ble_eq_true rfl, Nat.le_of_ble_eq_true rfl, Nat.le_of_ble_eq_true rfl⟩ dX9_push_54 (fun _ μ9 => ?_)
        refine g_st (st' := []) rfl ?_
        refine s_aload_n C dX9_push_57 rfl 1 rfl ?_
        refine s_getF C (fgX9_100_18 _) g2 dX9_push_58 ?_
        refine s_iconst (v := (5 : Int32)) C dX9_push_61 (by decide) ?_
        refine s_dup2 C dX9_push_62 rfl rfl ?_
        refine s_iald C (ag21 _) g2 dX9_push_63 ?_
        refine s_iconst (v := (1 : Int32)) C dX9_push_64 (by decide) ?_
        refine s_iadd C dX9_push_65 ?_
        refine s_iast C (ag21 _) g2 dX9_push_66 ?_
        refine g_nmM (fun μ10 => ?_)
        refine s_iconst (v := (0 : Int32)) C dX9_push_67 (by decide) ?_
        exact s_iret C E dX9_push_68
      ·
        refine s_iconst (v := (3 : Int32)) C dX9_push_49 (by decide) ?_
        exact s_iret C E dX9_push_50
    ·
      refine s_aload_n C dX9_push_33 rfl 1 rfl ?_
      refine s_callV C R0 (kX1_pushIsr (xl X) n2 g2) (Nat.le_trans (by decide) V) mmX1_pushIsr miX1_pushIsr q1567 (rc18 _) g2 rfl rfl rfl (Nat.le_of_ble_eq_true rfl) ⟨Nat.le_of_ble_eq_true rfl, Nat.le_of_ble_eq_true rfl, Nat.le_of_ble_eq_true rfl, Nat.le_of_ble_eq_true rfl⟩ dX9_push_34 (fun _ μ11 => ?_)
      refine g_st (st' := []) rfl ?_
      refine s_iconst (v := (0 : Int32)) C dX9_push_37 (by decide) ?_
      exact s_iret C E dX9_push_38
  refine s_aload_n C dX9_push_0 rfl 1 rfl ?_
  refine s_getM C (fgX9_154_9 _) g1 dX9_push_1 ?_
  refine g_nmA (fun a12 => ?_)
  refine g_ckB (fun b13 => ?_)
  refine s_gsym (i := 60) C (by decide) rfl q1606 dX9_push_4 ?_
  refine s_acmp_ne (tgt := 23) C b13 (by decide) dX9_push_7 (by decide) (fun c14 => ?_) (fun c14 => ?_)
  ·
    exact g_sub [1, 2] rfl (hj23 μ)
  ·
    refine s_aload_n C dX9_push_10 rfl 2 rfl ?_
    refine s_getI C (fgX9_223_18 _) g2 dX9_push_11 ?_
    refine s_aload_n C dX9_push_14 rfl 3 rfl ?_
    refine s_getI C (fgX9_234_8 _) g3 dX9_push_15 ?_
    refine s_icmp_ge (tgt := 23) C dX9_push_18 (by decide) (fun c15 => ?_) (fun c15 => ?_)
    ·
      exact g_sub [1, 2] rfl (hj23 μ)
    ·
      refine s_iconst (v := (0 : Int32)) C dX9_push_21 (by decide) ?_
      exact s_iret C E dX9_push_22
/-! PinEngines$Simulator.pull(LPinEngines$Instruction;LPinEngines$Engine;LPinEngines$Setup;)I -/
def fX9_pull (n0 : Nat) (n1 : Nat) (n2 : Nat) (n3 : Nat) (μ : Mem) : Option (Int32 × Mem) :=
  jn (fun (μ1 : Mem) =>
    if (μ1.1 19 (2 * n2) 0) ≤ 0 then (
      nm (μ1.2.1 9 n1 4) fun a4 =>
      ckB a4 74 <|
      if a4 = 62 then (
        bnd (fX1_setOsr n2 (μ1.1 18 n2 1) μ1) fun _ μ7 =>
        some ((0 : Int32), μ7)
      ) else (
        some ((2 : Int32), μ1)
      )
    ) else (
      bnd (fX1_pullOsr n2 μ1) fun _ μ8 =>
      some ((0 : Int32), μ8)
    )
  ) fun j23 =>
  nm (μ.2.1 9 n1 2) fun a9 =>
  ckB a9 74 <|
  if ¬ a9 = 61 then (
    j23 μ
  ) else (
    if (μ.1 8 n3 18) ≤ (μ.1 18 n2 6) then (
      j23 μ
    ) else (
      some ((0 : Int32), μ)
    )
  )
set_option maxHeartbeats 4000000 in
set_option maxRecDepth 100000 in
theorem kX9_pull (l : Launch) (n0 : Nat) (g0 : n0 < 1) (n1 : Nat) (g1 : n1 < 66) (n2 : Nat) (g2 : n2 < 52) (n3 : Nat) (g3 : n3 < 8) : Kon 0 l yX9_pull cX9_pull 4 (some .int) 2 41 0 0 (fun ad => [.ref (ad 22 n0), .ref (ad 9 n1), .ref (ad 18 n2), .ref (ad 8 n3)]) rvI (fun μ => fX9_pull n0 n1 n2 n3 μ) := by
  refine kon_of (by decide) (fun _ => Nat.le_of_ble_eq_true rfl) (fun X r0 μ hXl hXn V C E => ?_)
  have hN : ∀ i : Nat, i < 4 → i < xn X := fun i h => hXn.symm ▸ h
  have R0 := fen_rm E
  show G X r0 0 0 μ 0 [(0, .ref (xa X 22 n0)), (1, .ref (xa X 9 n1)), (2, .ref (xa X 18 n2)), (3, .ref (xa X 8 n3))] [] (fX9_pull n0 n1 n2 n3 μ)
  unfold fX9_pull
  refine g_jn (P := fun j23 => ∀ (μ1 : Mem), G X r0 0 0 μ1 23 [(1, .ref (xa X 9 n1)), (2, .ref (xa X 18 n2))] [] (j23 μ1)) ?_ (fun j23 hj23 => ?_)
  · intro μ1
    refine s_aload_n C dX9_pull_23 rfl 1 rfl ?_
    refine s_getF C (fgX9_261_18 _) g2 dX9_pull_24 ?_
    have b2 : 2 * n2 < 104 := by omega
    refine s_getI C (fgX9_264_19 _) b2 dX9_pull_27 ?_
    refine s_if_le (tgt := 39) C dX9_pull_30 (by decide) (fun c3 => ?_) (fun c3 => ?_)
    ·
      refine s_aload_n C dX9_pull_39 rfl 0 rfl ?_
      refine s_getM C (fgX9_282_9 _) g1 dX9_pull_40 ?_
      refine g_nmA (fun a4 => ?_)
      refine g_ckB (fun b5 => ?_)
      refine s_gsym (i := 62) C (by decide) rfl q1607 dX9_pull_43 ?_
      refine s_acmp_eq (tgt := 51) C b5 (by decide) dX9_pull_46 (by decide) (fun c6 => ?_) (fun c6 => ?_)
      ·
        refine s_aload_n C dX9_pull_51 rfl 1 rfl ?_
        refine s_aload_n C dX9_pull_52 rfl 1 rfl ?_
        refine s_getI C (fgX9_195_18 _) g2 dX9_pull_53 ?_
        refine s_callV C R0 (kX1_setOsr (xl X) n2 g2 (μ1.1 18 n2 1)) (Nat.le_trans (by decide) V) mmX1_setOsr miX1_setOsr q1533 (rc18 _) g2 rfl rfl rfl (Nat.le_of_ble_eq_true rfl) ⟨Nat.le_of_ble_eq_true rfl, Nat.le_of_ble_eq_true rfl, Nat.le_of_ble_eq_true rfl, Nat.le_of_ble_eq_true rfl⟩ dX9_pull_56 (fun _ μ7 => ?_)
        refine g_st (st' := []) rfl ?_
        refine s_iconst (v := (0 : Int32)) C dX9_pull_59 (by decide) ?_
        exact s_iret C E dX9_pull_60
      ·
        refine s_iconst (v := (2 : Int32)) C dX9_pull_49 (by decide) ?_
        exact s_iret C E dX9_pull_50
    ·
      refine s_aload_n C dX9_pull_33 rfl 1 rfl ?_
      refine s_callV C R0 (kX1_pullOsr (xl X) n2 g2) (Nat.le_trans (by decide) V) mmX1_pullOsr miX1_pullOsr q1577 (rc18 _) g2 rfl rfl rfl (Nat.le_of_ble_eq_true rfl) ⟨Nat.le_of_ble_eq_true rfl, Nat.le_of_ble_eq_true rfl, Nat.le_of_ble_eq_true rfl, Nat.le_of_ble_eq_true rfl⟩ dX9_pull_34 (fun _ μ8 => ?_)
      refine g_st (st' := []) rfl ?_
      refine s_iconst (v := (0 : Int32)) C dX9_pull_37 (by decide) ?_
      exact s_iret C E dX9_pull_38
  refine s_aload_n C dX9_pull_0 rfl 1 rfl ?_
  refine s_getM C (fgX9_154_9 _) g1 dX9_pull_1 ?_
  refine g_nmA (fun a9 => ?_)
  refine g_ckB (fun b10 => ?_)
  refine s_gsym (i := 61) C (by decide) rfl q1612 dX9_pull_4 ?_
  refine s_acmp_ne (tgt := 23) C b10 (by decide) dX9_pull_7 (by decide) (fun c11 => ?_) (fun c11 => ?_)
  ·
    exact g_sub [1, 2] rfl (hj23 μ)
  ·
    refine s_aload_n C dX9_pull_10 rfl 2 rfl ?_
    refine s_getI C (fgX9_204_18 _) g2 dX9_pull_11 ?_
    refine s_aload_n C dX9_pull_14 rfl 3 rfl ?_
    refine s_getI C (fgX9_207_8 _) g3 dX9_pull_15 ?_
    refine s_icmp_ge (tgt := 23) C dX9_pull_18 (by decide) (fun c12 => ?_) (fun c12 => ?_)
    ·
      exact g_sub [1, 2] rfl (hj23 μ)
    ·
      refine s_iconst (v := (0 : Int32)) C dX9_pull_21 (by decide) ?_
      exact s_iret C E dX9_pull_22
/-! PinEngines$Simulator.set(LPinEngines$Instruction;LPinEngines$Engine;LPinEngines$Setup;)V -/
def fX9_set (n0 : Nat) (n1 : Nat) (n2 : Nat) (n3 : Nat) (μ : Mem) : Option (Unit × Mem) :=
  jn (fun (μ1 : Mem) =>
    some ((), μ1)
  ) fun j79 =>
  bnd (fX12_rotatedPins (μ.1 9 n1 5) (μ.1 8 n3 7) μ) fun x3 μ2 =>
  nm (μ2.2.1 9 n1 2) fun a4 =>
  ckB a4 74 <|
  if ¬ a4 = 51 then (
    nm (μ2.2.1 9 n1 2) fun a7 =>
    ckB a7 74 <|
    if ¬ a7 = 57 then (
      nm (μ2.2.1 9 n1 2) fun a10 =>
      ckB a10 74 <|
      bnd (fX9_deliver n0 a10 (μ2.1 9 n1 5) n2 n3 μ2) fun _ μ12 =>
      j79 μ12
    ) else (
      nm (μ2.2.1 22 n0 1) fun a13 =>
      ckB a13 13 <|
      bnd (fX3_writeOutputs a13 (μ2.1 8 n3 8) x3 μ2) fun _ μ15 =>
      j79 μ15
    )
  ) else (
    nm (μ2.2.1 22 n0 1) fun a16 =>
    ckB a16 13 <|
    bnd (fX3_writeLatches a16 (μ2.1 8 n3 8) x3 μ2) fun _ μ18 =>
    j79 μ18
  )
set_option maxHeartbeats 4000000 in
set_option maxRecDepth 100000 in
theorem kX9_set (l : Launch) (n0 : Nat) (g0 : n0 < 1) (n1 : Nat) (g1 : n1 < 66) (n2 : Nat) (g2 : n2 < 52) (n3 : Nat) (g3 : n3 < 8) : Kon 0 l yX9_set cX9_set 5 (none) 3 65 0 0 (fun ad => [.ref (ad 22 n0), .ref (ad 9 n1), .ref (ad 18 n2), .ref (ad 8 n3)]) rvV (fun μ => fX9_set n0 n1 n2 n3 μ) := by
  refine kon_of (by decide) (fun _ => Nat.le_of_ble_eq_true rfl) (fun X r0 μ hXl hXn V C E => ?_)
  have hN : ∀ i : Nat, i < 5 → i < xn X := fun i h => hXn.symm ▸ h
  have R0 := fen_rm E
  show G X r0 0 0 μ 0 [(0, .ref (xa X 22 n0)), (1, .ref (xa X 9 n1)), (2, .ref (xa X 18 n2)), (3, .ref (xa X 8 n3))] [] (fX9_set n0 n1 n2 n3 μ)
  unfold fX9_set
  refine g_jn (P := fun j79 => ∀ (μ1 : Mem), G X r0 0 0 μ1 79 [] [] (j79 μ1)) ?_ (fun j79 hj79 => ?_)
  · intro μ1
    exact s_vret C E dX9_set_79
  refine s_aload_n C dX9_set_0 rfl 1 rfl ?_
  refine s_getI C (fgX9_161_9 _) g1 dX9_set_1 ?_
  refine s_aload_n C dX9_set_4 rfl 3 rfl ?_
  refine s_getI C (fgX9_295_8 _) g3 dX9_set_5 ?_
  refine s_callSN (host := "PinEngines") C R0 (kX12_rotatedPins (xl X) (μ.1 9 n1 5) (μ.1 8 n3 7)) (Nat.le_trans (by decide) V) mmX12_rotatedPins q1137 qn1560 rfl rfl rfl (Nat.le_of_ble_eq_true rfl) ⟨Nat.le_of_ble_eq_true rfl, Nat.le_of_ble_eq_true rfl, Nat.le_of_ble_eq_true rfl, Nat.le_of_ble_eq_true rfl⟩ dX9_set_8 (fun x3 μ2 => ?_)
  refine g_st (st' := [.int x3]) rfl ?_
  refine s_istore (L' := [(4, .int x3), (0, .ref (xa X 22 n0)), (1, .ref (xa X 9 n1)), (2, .ref (xa X 18 n2)), (3, .ref (xa X 8 n3))]) C dX9_set_11 (hN 4 (by decide)) rfl ?_
  refine s_aload_n C dX9_set_13 rfl 2 rfl ?_
  refine s_getM C (fgX9_154_9 _) g1 dX9_set_14 ?_
  refine g_nmA (fun a4 => ?_)
  refine g_ckB (fun b5 => ?_)
  refine s_gsym (i := 51) C (by decide) rfl q1639 dX9_set_17 ?_
  refine s_acmp_ne (tgt := 39) C b5 (by decide) dX9_set_20 (by decide) (fun c6 => ?_) (fun c6 => ?_)
  ·
    refine s_aload_n C dX9_set_39 rfl 2 rfl ?_
    refine s_getM C (fgX9_154_9 _) g1 dX9_set_40 ?_
    refine g_nmA (fun a7 => ?_)
    refine g_ckB (fun b8 => ?_)
    refine s_gsym (i := 57) C (by decide) rfl q1641 dX9_set_43 ?_
    refine s_acmp_ne (tgt := 65) C b8 (by decide) dX9_set_46 (by decide) (fun c9 => ?_) (fun c9 => ?_)
    ·
      refine s_aload_n C dX9_set_65 rfl 1 rfl ?_
      refine s_aload_n C dX9_set_66 rfl 2 rfl ?_
      refine s_getM C (fgX9_154_9 _) g1 dX9_set_67 ?_
      refine g_nmA (fun a10 => ?_)
      refine g_ckB (fun b11 => ?_)
      refine s_aload_n C dX9_set_70 rfl 2 rfl ?_
      refine s_getI C (fgX9_161_9 _) g1 dX9_set_71 ?_
      refine s_aload_n C dX9_set_74 rfl 3 rfl ?_
      refine s_aload_n C dX9_set_75 rfl 4 rfl ?_
      refine s_callV C R0 (kX9_deliver (xl X) n0 g0 a10 b11 (μ2.1 9 n1 5) n2 g2 n3 g3) (Nat.le_trans (by decide) V) mmX9_deliver miX9_deliver q1583 (rc22 _) g0 rfl rfl rfl (Nat.le_of_ble_eq_true rfl) ⟨Nat.le_of_ble_eq_true rfl, Nat.le_of_ble_eq_true rfl, Nat.le_of_ble_eq_true rfl, Nat.le_of_ble_eq_true rfl⟩ dX9_set_76 (fun _ μ12 => ?_)
      refine g_st (st' := []) rfl ?_
      exact g_sub [] rfl (hj79 μ12)
    ·
      refine s_aload_n C dX9_set_49 rfl 1 rfl ?_
      refine s_getM C (fgX9_15_22 _) g0 dX9_set_50 ?_
      refine g_nmA (fun a13 => ?_)
      refine g_ckB (fun b14 => ?_)
      refine s_aload_n C dX9_set_53 rfl 4 rfl ?_
      refine s_getI C (fgX9_301_8 _) g3 dX9_set_54 ?_
      refine s_iload C dX9_set_57 0 rfl ?_
      refine s_callV C R0 (kX3_writeOutputs (xl X) a13 b14 (μ2.1 8 n3 8) x3) (Nat.le_trans (by decide) V) mmX3_writeOutputs miX3_writeOutputs q1591 (rc12 _) b14 rfl rfl rfl (Nat.le_of_ble_eq_true rfl) ⟨Nat.le_of_ble_eq_true rfl, Nat.le_of_ble_eq_true rfl, Nat.le_of_ble_eq_true rfl, Nat.le_of_ble_eq_true rfl⟩ dX9_set_59 (fun _ μ15 => ?_)
      refine g_st (st' := []) rfl ?_
      refine s_goto (tgt := 79) C dX9_set_62 (by decide) ?_
      exact g_sub [] rfl (hj79 μ15)
  ·
    refine s_aload_n C dX9_set_23 rfl 1 rfl ?_
    refine s_getM C (fgX9_15_22 _) g0 dX9_set_24 ?_
    refine g_nmA (fun a16 => ?_)
    refine g_ckB (fun b17 => ?_)
    refine s_aload_n C dX9_set_27 rfl 4 rfl ?_
    refine s_getI C (fgX9_301_8 _) g3 dX9_set_28 ?_
    refine s_iload C dX9_set_31 0 rfl ?_
    refine s_callV C R0 (kX3_writeLatches (xl X) a16 b17 (μ2.1 8 n3 8) x3) (Nat.le_trans (by decide) V) mmX3_writeLatches miX3_writeLatches q1587 (rc12 _) b17 rfl rfl rfl (Nat.le_of_ble_eq_true rfl) ⟨Nat.le_of_ble_eq_true rfl, Nat.le_of_ble_eq_true rfl, Nat.le_of_ble_eq_true rfl, Nat.le_of_ble_eq_true rfl⟩ dX9_set_33 (fun _ μ18 => ?_)
    refine g_st (st' := []) rfl ?_
    refine s_goto (tgt := 79) C dX9_set_36 (by decide) ?_
    exact g_sub [] rfl (hj79 μ18)
/-! PinEngines$Simulator.access(LPinEngines$Instruction;LPinEngines$Engine;Z)I -/
def fX9_access (n0 : Nat) (n1 : Nat) (n2 : Nat) (p3 : Int32) (μ : Mem) : Option (Int32 × Mem) :=
  if ¬ p3 = 0 then (
    jn (fun (μ2 : Mem) =>
      some ((0 : Int32), μ2)
    ) fun j112 =>
    bnd (fX9_placeOf n1 n2 μ) fun x4 μ3 =>
    nm (μ3.2.1 9 n1 0) fun a5 =>
    ckB a5 74 <|
    if ¬ a5 = 42 then (
      nm (μ3.2.1 9 n1 2) fun a8 =>
      ckB a8 74 <|
      if ¬ a8 = 52 then (
        nm (μ3.2.1 9 n1 2) fun a11 =>
        ckB a11 74 <|
        if ¬ a11 = 53 then (
          nm (μ3.2.1 22 n0 1) fun a14 =>
          ckB a14 13 <|
          ckI x4 (16) <|
          bnd (fX1_setOsr n2 (μ3.1 13 a14 x4.toNatClampNeg) μ3) fun _ μ16 =>
          j112 μ16
        ) else (
          nm (μ3.2.1 22 n0 1) fun a17 =>
          ckB a17 13 <|
          ckI x4 (16) <|
          nm (wI μ3 18 n2 2 (μ3.1 13 a17 x4.toNatClampNeg)) fun μ19 =>
          j112 μ19
        )
      ) else (
        nm (μ3.2.1 22 n0 1) fun a20 =>
        ckB a20 13 <|
        ckI x4 (16) <|
        nm (wI μ3 18 n2 1 (μ3.1 13 a20 x4.toNatClampNeg)) fun μ22 =>
        j112 μ22
      )
    ) else (
      nm (μ3.2.1 22 n0 1) fun a23 =>
      ckB a23 13 <|
      nm (μ3.2.1 9 n1 2) fun a25 =>
      ckB a25 74 <|
      bnd (fX9_storedWord a25 n2 μ3) fun x28 μ27 =>
      ckI x4 (16) <|
      nm (wI μ27 13 a23 x4.toNatClampNeg x28) fun μ29 =>
      j112 μ29
    )
  ) else (
    some ((4 : Int32), μ)
  )
set_option maxHeartbeats 4000000 in
set_option maxRecDepth 100000 in
theorem kX9_access (l : Launch) (n0 : Nat) (g0 : n0 < 1) (n1 : Nat) (g1 : n1 < 66) (n2 : Nat) (g2 : n2 < 52) (p3 : Int32) : Kon 0 l yX9_access cX9_access 5 (some .int) 1 21 0 0 (fun ad => [.ref (ad 22 n0), .ref (ad 9 n1), .ref (ad 18 n2), .int p3]) rvI (fun μ => fX9_access n0 n1 n2 p3 μ) := by
  refine kon_of (by decide) (fun _ => Nat.le_of_ble_eq_true rfl) (fun X r0 μ hXl hXn V C E => ?_)
  have hN : ∀ i : Nat, i < 5 → i < xn X := fun i h => hXn.symm ▸ h
  have R0 := fen_rm E
  show G X r0 0 0 μ 0 [(0, .ref (xa X 22 n0)), (1, .ref (xa X 9 n1)), (2, .ref (xa X 18 n2)), (3, .int p3)] [] (fX9_access n0 n1 n2 p3 μ)
  unfold fX9_access
  refine s_iload_n C dX9_access_0 rfl 3 rfl ?_
  refine s_if_ne (tgt := 6) C dX9_access_1 (by decide) (fun c1 => ?_) (fun c1 => ?_)
  ·
    refine g_jn (P := fun j112 => ∀ (μ2 : Mem), G X r0 0 0 μ2 112 [] [] (j112 μ2)) ?_ (fun j112 hj112 => ?_)
    · intro μ2
      refine s_iconst (v := (0 : Int32)) C dX9_access_112 (by decide) ?_
      exact s_iret C E dX9_access_113
    refine s_aload_n C dX9_access_6 rfl 1 rfl ?_
    refine s_aload_n C dX9_access_7 rfl 2 rfl ?_
    refine s_callS C R0 (kX9_placeOf (xl X) n1 g1 n2 g2) (Nat.le_trans (by decide) V) mmX9_placeOf q1523 q1522 rfl rfl rfl rfl (Nat.le_of_ble_eq_true rfl) ⟨Nat.le_of_ble_eq_true rfl, Nat.le_of_ble_eq_true rfl, Nat.le_of_ble_eq_true rfl, Nat.le_of_ble_eq_true rfl⟩ dX9_access_8 (fun x4 μ3 => ?_)
    refine g_st (st' := [.int x4]) rfl ?_
    refine s_istore (L' := [(4, .int x4), (0, .ref (xa X 22 n0)), (1, .ref (xa X 9 n1)), (2, .ref (xa X 18 n2)), (3, .int p3)]) C dX9_access_11 (hN 4 (by decide)) rfl ?_
    refine s_aload_n C dX9_access_13 rfl 2 rfl ?_
    refine s_getM C (fgX9_145_9 _) g1 dX9_access_14 ?_
    refine g_nmA (fun a5 => ?_)
    refine g_ckB (fun b6 => ?_)
    refine s_gsym (i := 42) C (by decide) rfl q1529 dX9_access_17 ?_
    refine s_acmp_ne (tgt := 44) C b6 (by decide) dX9_access_20 (by decide) (fun c7 => ?_) (fun c7 => ?_)
    ·
      refine s_aload_n C dX9_access_44 rfl 2 rfl ?_
      refine s_getM C (fgX9_154_9 _) g1 dX9_access_45 ?_
      refine g_nmA (fun a8 => ?_)
      refine g_ckB (fun b9 => ?_)
      refine s_gsym (i := 52) C (by decide) rfl q1525 dX9_access_48 ?_
      refine s_acmp_ne (tgt := 71) C b9 (by decide) dX9_access_51 (by decide) (fun c10 => ?_) (fun c10 => ?_)
      ·
        refine s_aload_n C dX9_access_71 rfl 2 rfl ?_
        refine s_getM C (fgX9_154_9 _) g1 dX9_access_72 ?_
        refine g_nmA (fun a11 => ?_)
        refine g_ckB (fun b12 => ?_)
        refine s_gsym (i := 53) C (by decide) rfl q1527 dX9_access_75 ?_
        refine s_acmp_ne (tgt := 98) C b12 (by decide) dX9_access_78 (by decide) (fun c13 => ?_) (fun c13 => ?_)
        ·
          refine s_aload_n C dX9_access_98 rfl 3 rfl ?_
          refine s_aload_n C dX9_access_99 rfl 1 rfl ?_
          refine s_getM C (fgX9_15_22 _) g0 dX9_access_100 ?_
          refine g_nmA (fun a14 => ?_)
          refine g_ckB (fun b15 => ?_)
          refine s_getF C (fgX9_316_12 _) b15 dX9_access_103 ?_
          refine s_iload C dX9_access_106 0 rfl ?_
          refine s_iald C (ag13 _) b15 dX9_access_108 ?_
          refine s_callV C R0 (kX1_setOsr (xl X) n2 g2 (μ3.1 13 a14 x4.toNatClampNeg)) (Nat.le_trans (by decide) V) mmX1_setOsr miX1_setOsr q1533 (rc18 _) g2 rfl rfl rfl (Nat.le_of_ble_eq_true rfl) ⟨Nat.le_of_ble_eq_true rfl, Nat.le_of_ble_eq_true rfl, Nat.le_of_ble_eq_true rfl, Nat.le_of_ble_eq_true rfl⟩ dX9_access_109 (fun _ μ16 => ?_)
          refine g_st (st' := []) rfl ?_
          exact g_sub [] rfl (hj112 μ16)
        ·
          refine s_aload_n C dX9_access_81 rfl 3 rfl ?_
          refine s_aload_n C dX9_access_82 rfl 1 rfl ?_
          refine s_getM C (fgX9_15_22 _) g0 dX9_access_83 ?_
          refine g_nmA (fun a17 => ?_)
          refine g_ckB (fun b18 => ?_)
          refine s_getF C (fgX9_316_12 _) b18 dX9_access_86 ?_
          refine s_iload C dX9_access_89 0 rfl ?_
          refine s_iald C (ag13 _) b18 dX9_access_91 ?_
          refine s_putI C (fpX9_198_18 _) g2 dX9_access_92 ?_
          refine g_nmM (fun μ19 => ?_)
          refine s_goto (tgt := 112) C dX9_access_95 (by decide) ?_
          exact g_sub [] rfl (hj112 μ19)
      ·
        refine s_aload_n C dX9_access_54 rfl 3 rfl ?_
        refine s_aload_n C dX9_access_55 rfl 1 rfl ?_
        refine s_getM C (fgX9_15_22 _) g0 dX9_access_56 ?_
        refine g_nmA (fun a20 => ?_)
        refine g_ckB (fun b21 => ?_)
        refine s_getF C (fgX9_316_12 _) b21 dX9_access_59 ?_
        refine s_iload C dX9_access_62 0 rfl ?_
        refine s_iald C (ag13 _) b21 dX9_access_64 ?_
        refine s_putI C (fpX9_195_18 _) g2 dX9_access_65 ?_
        refine g_nmM (fun μ22 => ?_)
        refine s_goto (tgt := 112) C dX9_access_68 (by decide) ?_
        exact g_sub [] rfl (hj112 μ22)
    ·
      refine s_aload_n C dX9_access_23 rfl 1 rfl ?_
      refine s_getM C (fgX9_15_22 _) g0 dX9_access_24 ?_
      refine g_nmA (fun a23 => ?_)
      refine g_ckB (fun b24 => ?_)
      refine s_getF C (fgX9_316_12 _) b24 dX9_access_27 ?_
      refine s_iload C dX9_access_30 0 rfl ?_
      refine s_aload_n C dX9_access_32 rfl 2 rfl ?_
      refine s_getM C (fgX9_154_9 _) g1 dX9_access_33 ?_
      refine g_nmA (fun a25 => ?_)
      refine g_ckB (fun b26 => ?_)
      refine s_aload_n C dX9_access_36 rfl 3 rfl ?_
      refine s_callS C R0 (kX9_storedWord (xl X) a25 b26 n2 g2) (Nat.le_trans (by decide) V) mmX9_storedWord q1531 q1530 rfl rfl rfl rfl (Nat.le_of_ble_eq_true rfl) ⟨Nat.le_of_ble_eq_true rfl, Nat.le_of_ble_eq_true rfl, Nat.le_of_ble_eq_true rfl, Nat.le_of_ble_eq_true rfl⟩ dX9_access_37 (fun x28 μ27 => ?_)
      refine g_st (st' := [.int x28, .int x4, .ref (xa X 13 a23)]) rfl ?_
      refine s_iast C (ag13 _) b24 dX9_access_40 ?_
      refine g_nmM (fun μ29 => ?_)
      refine s_goto (tgt := 112) C dX9_access_41 (by decide) ?_
      exact g_sub [] rfl (hj112 μ29)
  ·
    refine s_iconst (v := (4 : Int32)) C dX9_access_4 (by decide) ?_
    exact s_iret C E dX9_access_5
/-! PinEngines$Symbol.spelled([BIILPinEngines$Symbol;)LPinEngines$Symbol; -/
def fX10_spelled (fu : Nat) (n0 : Nat) (p1 : Int32) (p2 : Int32) (n3 : Nat) (μ : Mem) : Option (Nat × Mem) :=
  jn (lp (fun _ _ => none) fu (fun j3 (μ1 : Mem) (x2 : Int32) =>
    if (74 : Int32) ≤ x2 then (
      some (n3, μ1)
    ) else (
      ckI x2 74 <|
      bnd (fX10_isSpelled fu (x2.toNatClampNeg) n0 p1 p2 μ1) fun x7 μ6 =>
      if x7 = 0 then (
        nm (x2 + (1 : Int32)) fun x9 =>
        j3 μ6 x9
      ) else (
        ckI x2 74 <|
        some (x2.toNatClampNeg, μ6)
      )
    )
  )) fun j3 =>
  j3 μ (0 : Int32)
set_option maxHeartbeats 4000000 in
set_option maxRecDepth 100000 in
theorem kX10_spelled (l : Launch) (fu : Nat) (n0 : Nat) (g0 : n0 < 1) (p1 : Int32) (p2 : Int32) (n3 : Nat) (g3 : n3 < 74) : Kon 0 l yX10_spelled cX10_spelled 5 (some (.object "PinEngines$Symbol")) 5 109 0 0 (fun ad => [.ref (ad 1 n0), .int p1, .int p2, .ref (ad 50 n3)]) (rvA 50) (fun μ => fX10_spelled fu n0 p1 p2 n3 μ) := by
  refine kon_of (by decide) (fun _ => Nat.le_of_ble_eq_true rfl) (fun X r0 μ hXl hXn V C E => ?_)
  have hN : ∀ i : Nat, i < 5 → i < xn X := fun i h => hXn.symm ▸ h
  have R0 := fen_rm E
  show G X r0 0 0 μ 0 [(0, .ref (xa X 1 n0)), (1, .int p1), (2, .int p2), (3, .ref (xa X 50 n3))] [] (fX10_spelled fu n0 p1 p2 n3 μ)
  unfold fX10_spelled
  refine g_jl (P := fun j3 => ∀ (μ1 : Mem) (x2 : Int32), G X r0 0 0 μ1 3 [(0, .ref (xa X 1 n0)), (1, .int p1), (2, .int p2), (3, .ref (xa X 50 n3)), (4, .int x2)] [] (j3 μ1 x2)) (fun _ _ => g_none) (fun j3 hj3 => ?_) (fun j3 hj3 => ?_)
  · intro μ1 x2
    refine s_iload C dX10_spelled_3 4 rfl ?_
    refine s_gall C q989 dX10_spelled_5 ?_
    refine s_alll C dX10_spelled_8 ?_
    refine s_icmp_ge (tgt := 40) C dX10_spelled_9 (by decide) (fun c3 => ?_) (fun c3 => ?_)
    ·
      refine s_aload_n C dX10_spelled_40 rfl 3 rfl ?_
      exact s_aret C E dX10_spelled_41
    ·
      refine s_gall C q989 dX10_spelled_12 ?_
      refine s_iload C dX10_spelled_15 4 rfl ?_
      refine s_allld C dX10_spelled_17 (fun c4 => ?_)
      have b5 : x2.toNatClampNeg < 74 := by have := c4; omega
      refine s_aload_n C dX10_spelled_18 rfl 0 rfl ?_
      refine s_iload_n C dX10_spelled_19 rfl 1 rfl ?_
      refine s_iload_n C dX10_spelled_20 rfl 2 rfl ?_
      refine s_callE C R0 (kX10_isSpelled (xl X) fu (x2.toNatClampNeg) b5 n0 g0 p1 p2) (Nat.le_trans (by decide) V) mmX10_isSpelled miX10_isSpelled q991 rfl b5 rfl rfl rfl (Nat.le_of_ble_eq_true rfl) ⟨Nat.le_of_ble_eq_true rfl, Nat.le_of_ble_eq_true rfl, Nat.le_of_ble_eq_true rfl, Nat.le_of_ble_eq_true rfl⟩ dX10_spelled_21 (fun x7 μ6 => ?_)
      refine g_st (st' := [.int x7]) rfl ?_
      refine s_if_eq (tgt := 34) C dX10_spelled_24 (by decide) (fun c8 => ?_) (fun c8 => ?_)
      ·
        refine g_nmQ (fun x9 ex9 => ?_)
        refine s_iinc (v := x9) (j := 4) (L' := [(4, .int x9), (0, .ref (xa X 1 n0)), (1, .int p1), (2, .int p2), (3, .ref (xa X 50 n3))]) C dX10_spelled_34 rfl (by rw [ex9]; rfl) (hN 4 (by decide)) rfl ?_
        refine s_goto (tgt := 3) C dX10_spelled_37 (by decide) ?_
        exact g_sub [1, 2, 3, 4, 0] rfl (hj3 μ6 x9)
      ·
        refine s_gall C q989 dX10_spelled_27 ?_
        refine s_iload C dX10_spelled_30 4 rfl ?_
        refine s_allld C dX10_spelled_32 (fun c10 => ?_)
        have b11 : x2.toNatClampNeg < 74 := by have := c10; omega
        exact s_aret C E dX10_spelled_33
  refine s_iconst (v := (0 : Int32)) C dX10_spelled_0 (by decide) ?_
  refine s_istore (L' := [(4, .int (0 : Int32)), (0, .ref (xa X 1 n0)), (1, .int p1), (2, .int p2), (3, .ref (xa X 50 n3))]) C dX10_spelled_1 (hN 4 (by decide)) rfl ?_
  exact g_sub [1, 2, 3, 4, 0] rfl (hj3 μ (0 : Int32))
/-! PinEngines$Tokens.scanToken(II)I -/
def fX11_scanToken (fu : Nat) (n0 : Nat) (p1 : Int32) (p2 : Int32) (μ : Mem) : Option (Int32 × Mem) :=
  jn (fun (μ1 : Mem) (x2 : Int32) (x3 : Int32) (a4 : Nat) =>
    ckI (μ1.1 2 n0 5) (1001) <|
    nm (wR μ1 3 0 (μ1.1 2 n0 5).toNatClampNeg a4) fun μ6 =>
    ckI (μ6.1 2 n0 5) (1001) <|
    nm (wI μ6 4 0 (μ6.1 2 n0 5).toNatClampNeg p1) fun μ7 =>
    ckI (μ7.1 2 n0 5) (1001) <|
    nm (wI μ7 4 1 (μ7.1 2 n0 5).toNatClampNeg x2) fun μ8 =>
    ckI (μ8.1 2 n0 5) (1001) <|
    nm (wI μ8 4 2 (μ8.1 2 n0 5).toNatClampNeg x3) fun μ9 =>
    nm (wI μ9 2 n0 5 ((μ9.1 2 n0 5) + (1 : Int32))) fun μ10 =>
    some (x2, μ10)
  ) fun j146 =>
  nm ((p1 + (1 : Int32))) fun x11 =>
  ckI p1 (1000) <|
  bnd (fX11_isDigit (μ.1 1 0 p1.toNatClampNeg) μ) fun x13 μ12 =>
  if x13 = 0 then (
    jn (lp (fun _ _ => none) fu (fun j92 (μ15 : Mem) (x16 : Int32) =>
      jn (fun (μ17 : Mem) (x18 : Int32) =>
        bnd (fX10_spelled fu 0 p1 x18 2 μ17) fun a20 μ19 =>
        ckB a20 74 <|
        j146 μ19 x18 (0 : Int32) a20
      ) fun j115 =>
      if p2 ≤ x16 then (
        j115 μ15 x16
      ) else (
        ckI x16 (1000) <|
        bnd (fX11_isLetter (μ15.1 1 0 x16.toNatClampNeg) μ15) fun x24 μ23 =>
        if x24 = 0 then (
          j115 μ23 x16
        ) else (
          nm (x16 + (1 : Int32)) fun x26 =>
          j92 μ23 x26
        )
      )
    )) fun j92 =>
    ckI p1 (1000) <|
    bnd (fX11_isLetter (μ12.1 1 0 p1.toNatClampNeg) μ12) fun x28 μ27 =>
    if x28 = 0 then (
      bnd (fX10_spelled fu 0 p1 x11 4 μ27) fun a31 μ30 =>
      ckB a31 74 <|
      j146 μ30 x11 (0 : Int32) a31
    ) else (
      j92 μ27 x11
    )
  ) else (
    jn (lp (fun _ _ _ => none) fu (fun j35 (μ33 : Mem) (x34 : Int32) (x35 : Int32) =>
      if p2 ≤ x34 then (
        j146 μ33 x34 x35 3
      ) else (
        ckI x34 (1000) <|
        bnd (fX11_isDigit (μ33.1 1 0 x34.toNatClampNeg) μ33) fun x38 μ37 =>
        if x38 = 0 then (
          j146 μ37 x34 x35 3
        ) else (
          ckI x34 (1000) <|
          nm ((if (100000 : Int32) < (((x35 * (10 : Int32)) + (μ37.1 1 0 x34.toNatClampNeg)) - (48 : Int32)) then (100000 : Int32) else (((x35 * (10 : Int32)) + (μ37.1 1 0 x34.toNatClampNeg)) - (48 : Int32)))) fun x40 =>
          nm (x34 + (1 : Int32)) fun x41 =>
          j35 μ37 x41 x40
        )
      )
    )) fun j35 =>
    ckI p1 (1000) <|
    nm (((μ12.1 1 0 p1.toNatClampNeg) - (48 : Int32))) fun x42 =>
    j35 μ12 x11 x42
  )
set_option maxHeartbeats 4000000 in
set_option maxRecDepth 100000 in
theorem kX11_scanToken (l : Launch) (fu : Nat) (n0 : Nat) (g0 : n0 < 1) (p1 : Int32) (p2 : Int32) : Kon 0 l yX11_scanToken cX11_scanToken 6 (some .int) 6 133 0 0 (fun ad => [.ref (ad 2 n0), .int p1, .int p2]) rvI (fun μ => fX11_scanToken fu n0 p1 p2 μ) := by
  refine kon_of (by decide) (fun _ => Nat.le_of_ble_eq_true rfl) (fun X r0 μ hXl hXn V C E => ?_)
  have hN : ∀ i : Nat, i < 6 → i < xn X := fun i h => hXn.symm ▸ h
  have R0 := fen_rm E
  show G X r0 0 0 μ 0 [(0, .ref (xa X 2 n0)), (1, .int p1), (2, .int p2)] [] (fX11_scanToken fu n0 p1 p2 μ)
  unfold fX11_scanToken
  refine g_jn (P := fun j146 => ∀ (μ1 : Mem) (x2 : Int32) (x3 : Int32) (a4 : Nat), a4 < 74 → G X r0 0 0 μ1 146 [(0, .ref (xa X 2 n0)), (1, .int p1), (3, .int x2), (4, .int x3), (5, .ref (xa X 50 a4))] [] (j146 μ1 x2 x3 a4)) ?_ (fun j146 hj146 => ?_)
  · intro μ1 x2 x3 a4 b5
    refine s_aload_n C dX11_scanToken_146 rfl 0 rfl ?_
    refine s_getF C (fgX11_11_2 _) g0 dX11_scanToken_147 ?_
    refine s_aload_n C dX11_scanToken_150 rfl 0 rfl ?_
    refine s_getI C (fgX11_27_2 _) g0 dX11_scanToken_151 ?_
    refine s_aload C dX11_scanToken_154 4 rfl ?_
    refine s_symst C (ag3 _) (by decide) b5 dX11_scanToken_156 ?_
    refine g_nmM (fun μ6 => ?_)
    refine s_aload_n C dX11_scanToken_157 rfl 0 rfl ?_
    refine s_getF C (fgX11_17_2 _) g0 dX11_scanToken_158 ?_
    refine s_aload_n C dX11_scanToken_161 rfl 0 rfl ?_
    refine s_getI C (fgX11_27_2 _) g0 dX11_scanToken_162 ?_
    refine s_iload_n C dX11_scanToken_165 rfl 1 rfl ?_
    refine s_iast C (ag4 _) (by decide) dX11_scanToken_166 ?_
    refine g_nmM (fun μ7 => ?_)
    refine s_aload_n C dX11_scanToken_167 rfl 0 rfl ?_
    refine s_getF C (fgX11_21_2 _) g0 dX11_scanToken_168 ?_
    refine s_aload_n C dX11_scanToken_171 rfl 0 rfl ?_
    refine s_getI C (fgX11_27_2 _) g0 dX11_scanToken_172 ?_
    refine s_iload_n C dX11_scanToken_175 rfl 2 rfl ?_
    refine s_iast C (ag4 _) (by decide) dX11_scanToken_176 ?_
    refine g_nmM (fun μ8 => ?_)
    refine s_aload_n C dX11_scanToken_177 rfl 0 rfl ?_
    refine s_getF C (fgX11_24_2 _) g0 dX11_scanToken_178 ?_
    refine s_aload_n C dX11_scanToken_181 rfl 0 rfl ?_
    refine s_getI C (fgX11_27_2 _) g0 dX11_scanToken_182 ?_
    refine s_iload C dX11_scanToken_185 3 rfl ?_
    refine s_iast C (ag4 _) (by decide) dX11_scanToken_187 ?_
    refine g_nmM (fun μ9 => ?_)
    refine s_aload_n C dX11_scanToken_188 rfl 0 rfl ?_
    refine s_dup C dX11_scanToken_189 rfl ?_
    refine s_getI C (fgX11_27_2 _) g0 dX11_scanToken_190 ?_
    refine s_iconst (v := (1 : Int32)) C dX11_scanToken_193 (by decide) ?_
    refine s_iadd C dX11_scanToken_194 ?_
    refine s_putI C (fpX11_27_2 _) g0 dX11_scanToken_195 ?_
    refine g_nmM (fun μ10 => ?_)
    refine s_iload_n C dX11_scanToken_198 rfl 2 rfl ?_
    exact s_iret C E dX11_scanToken_199
  refine s_iload_n C dX11_scanToken_0 rfl 1 rfl ?_
  refine s_iconst (v := (1 : Int32)) C dX11_scanToken_1 (by decide) ?_
  refine s_iadd C dX11_scanToken_2 ?_
  refine g_nmI (fun x11 => ?_)
  refine s_istore_n (L' := [(3, .int x11), (0, .ref (xa X 2 n0)), (1, .int p1), (2, .int p2)]) C dX11_scanToken_3 rfl (hN 3 (by decide)) rfl ?_
  refine s_iconst (v := (0 : Int32)) C dX11_scanToken_4 (by decide) ?_
  refine s_istore (L' := [(4, .int (0 : Int32)), (3, .int x11), (0, .ref (xa X 2 n0)), (1, .int p1), (2, .int p2)]) C dX11_scanToken_5 (hN 4 (by decide)) rfl ?_
  refine s_gsym (i := 3) C (by decide) rfl q975 dX11_scanToken_7 ?_
  refine s_astore (L' := [(5, .ref (xa X 50 3)), (4, .int (0 : Int32)), (3, .int x11), (0, .ref (xa X 2 n0)), (1, .int p1), (2, .int p2)]) C dX11_scanToken_10 (hN 5 (by decide)) rfl ?_
  refine s_aload_n C dX11_scanToken_12 rfl 3 rfl ?_
  refine s_getF C (fgX11_40_2 _) g0 dX11_scanToken_13 ?_
  refine s_iload_n C dX11_scanToken_16 rfl 4 rfl ?_
  refine s_bald C (ag1 _) (by decide) dX11_scanToken_17 ?_
  refine s_callS C R0 (kX11_isDigit (xl X) (μ.1 1 0 p1.toNatClampNeg)) (Nat.le_trans (by decide) V) mmX11_isDigit q978 q977 rfl rfl rfl rfl (Nat.le_of_ble_eq_true rfl) ⟨Nat.le_of_ble_eq_true rfl, Nat.le_of_ble_eq_true rfl, Nat.le_of_ble_eq_true rfl, Nat.le_of_ble_eq_true rfl⟩ dX11_scanToken_18 (fun x13 μ12 => ?_)
  refine g_st (st' := [.int x13]) rfl ?_
  refine s_if_eq (tgt := 80) C dX11_scanToken_21 (by decide) (fun c14 => ?_) (fun c14 => ?_)
  ·
    refine g_jl (P := fun j92 => ∀ (μ15 : Mem) (x16 : Int32), G X r0 0 0 μ15 92 [(0, .ref (xa X 2 n0)), (1, .int p1), (2, .int p2), (3, .int x16), (4, .int (0 : Int32))] [] (j92 μ15 x16)) (fun _ _ => g_none) (fun j92 hj92 => ?_) (fun j92 hj92 => ?_)
    · intro μ15 x16
      refine g_jn (P := fun j115 => ∀ (μ17 : Mem) (x18 : Int32), G X r0 0 0 μ17 115 [(0, .ref (xa X 2 n0)), (1, .int p1), (3, .int x18), (4, .int (0 : Int32))] [] (j115 μ17 x18)) ?_ (fun j115 hj115 => ?_)
      · intro μ17 x18
        refine s_aload_n C dX11_scanToken_115 rfl 0 rfl ?_
        refine s_getF C (fgX11_40_2 _) g0 dX11_scanToken_116 ?_
        refine s_iload_n C dX11_scanToken_119 rfl 1 rfl ?_
        refine s_iload_n C dX11_scanToken_120 rfl 2 rfl ?_
        refine s_gsym (i := 2) C (by decide) rfl q984 dX11_scanToken_121 ?_
        refine s_callF C R0 (kX10_spelled (xl X) fu 0 (by decide) p1 x18 2 (by decide)) (Nat.le_trans (by decide) V) mmX10_spelled q987 q986 rfl rfl rfl (Nat.le_of_ble_eq_true rfl) ⟨Nat.le_of_ble_eq_true rfl, Nat.le_of_ble_eq_true rfl, Nat.le_of_ble_eq_true rfl, Nat.le_of_ble_eq_true rfl⟩ dX11_scanToken_124 (fun a20 μ19 => ?_)
        refine g_st (st' := [.ref (xa X 50 a20)]) rfl ?_
        refine g_ckB (fun b21 => ?_)
        refine s_astore (L' := [(5, .ref (xa X 50 a20)), (0, .ref (xa X 2 n0)), (1, .int p1), (3, .int x18), (4, .int (0 : Int32))]) C dX11_scanToken_127 (hN 5 (by decide)) rfl ?_
        refine s_goto (tgt := 146) C dX11_scanToken_129 (by decide) ?_
        exact g_sub [1, 2, 3, 4, 0] rfl (hj146 μ19 x18 (0 : Int32) a20 b21)
      refine s_iload_n C dX11_scanToken_92 rfl 3 rfl ?_
      refine s_iload_n C dX11_scanToken_93 rfl 2 rfl ?_
      refine s_icmp_ge (tgt := 115) C dX11_scanToken_94 (by decide) (fun c22 => ?_) (fun c22 => ?_)
      ·
        exact g_sub [0, 1, 3, 4] rfl (hj115 μ15 x16)
      ·
        refine s_aload_n C dX11_scanToken_97 rfl 0 rfl ?_
        refine s_getF C (fgX11_40_2 _) g0 dX11_scanToken_98 ?_
        refine s_iload_n C dX11_scanToken_101 rfl 3 rfl ?_
        refine s_bald C (ag1 _) (by decide) dX11_scanToken_102 ?_
        refine s_callS C R0 (kX11_isLetter (xl X) (μ15.1 1 0 x16.toNatClampNeg)) (Nat.le_trans (by decide) V) mmX11_isLetter q982 q981 rfl rfl rfl rfl (Nat.le_of_ble_eq_true rfl) ⟨Nat.le_of_ble_eq_true rfl, Nat.le_of_ble_eq_true rfl, Nat.le_of_ble_eq_true rfl, Nat.le_of_ble_eq_true rfl⟩ dX11_scanToken_103 (fun x24 μ23 => ?_)
        refine g_st (st' := [.int x24]) rfl ?_
        refine s_if_eq (tgt := 115) C dX11_scanToken_106 (by decide) (fun c25 => ?_) (fun c25 => ?_)
        ·
          exact g_sub [0, 1, 3, 4] rfl (hj115 μ23 x16)
        ·
          refine g_nmQ (fun x26 ex26 => ?_)
          refine s_iinc (v := x26) (j := 3) (L' := [(3, .int x26), (0, .ref (xa X 2 n0)), (1, .int p1), (2, .int p2), (4, .int (0 : Int32))]) C dX11_scanToken_109 rfl (by rw [ex26]; rfl) (hN 3 (by decide)) rfl ?_
          refine s_goto (tgt := 92) C dX11_scanToken_112 (by decide) ?_
          exact g_sub [1, 2, 3, 0, 4] rfl (hj92 μ23 x26)
    refine s_aload_n C dX11_scanToken_80 rfl 3 rfl ?_
    refine s_getF C (fgX11_40_2 _) g0 dX11_scanToken_81 ?_
    refine s_iload_n C dX11_scanToken_84 rfl 4 rfl ?_
    refine s_bald C (ag1 _) (by decide) dX11_scanToken_85 ?_
    refine s_callS C R0 (kX11_isLetter (xl X) (μ12.1 1 0 p1.toNatClampNeg)) (Nat.le_trans (by decide) V) mmX11_isLetter q982 q981 rfl rfl rfl rfl (Nat.le_of_ble_eq_true rfl) ⟨Nat.le_of_ble_eq_true rfl, Nat.le_of_ble_eq_true rfl, Nat.le_of_ble_eq_true rfl, Nat.le_of_ble_eq_true rfl⟩ dX11_scanToken_86 (fun x28 μ27 => ?_)
    refine g_st (st' := [.int x28]) rfl ?_
    refine s_if_eq (tgt := 132) C dX11_scanToken_89 (by decide) (fun c29 => ?_) (fun c29 => ?_)
    ·
      refine s_aload_n C dX11_scanToken_132 rfl 3 rfl ?_
      refine s_getF C (fgX11_40_2 _) g0 dX11_scanToken_133 ?_
      refine s_iload_n C dX11_scanToken_136 rfl 4 rfl ?_
      refine s_iload_n C dX11_scanToken_137 rfl 2 rfl ?_
      refine s_gsym (i := 4) C (by decide) rfl q1025 dX11_scanToken_138 ?_
      refine s_callF C R0 (kX10_spelled (xl X) fu 0 (by decide) p1 x11 4 (by decide)) (Nat.le_trans (by decide) V) mmX10_spelled q987 q986 rfl rfl rfl (Nat.le_of_ble_eq_true rfl) ⟨Nat.le_of_ble_eq_true rfl, Nat.le_of_ble_eq_true rfl, Nat.le_of_ble_eq_true rfl, Nat.le_of_ble_eq_true rfl⟩ dX11_scanToken_141 (fun a31 μ30 => ?_)
      refine g_st (st' := [.ref (xa X 50 a31)]) rfl ?_
      refine g_ckB (fun b32 => ?_)
      refine s_astore (L' := [(5, .ref (xa X 50 a31)), (4, .int (0 : Int32)), (3, .int x11), (0, .ref (xa X 2 n0)), (1, .int p1), (2, .int p2)]) C dX11_scanToken_144 (hN 5 (by decide)) rfl ?_
      exact g_sub [3, 4, 2, 1, 0] rfl (hj146 μ30 x11 (0 : Int32) a31 b32)
    ·
      exact g_sub [3, 4, 5, 2, 1] rfl (hj92 μ27 x11)
  ·
    refine g_jl (P := fun j35 => ∀ (μ33 : Mem) (x34 : Int32) (x35 : Int32), G X r0 0 0 μ33 35 [(0, .ref (xa X 2 n0)), (1, .int p1), (2, .int p2), (3, .int x34), (4, .int x35), (5, .ref (xa X 50 3))] [] (j35 μ33 x34 x35)) (fun _ _ _ => g_none) (fun j35 hj35 => ?_) (fun j35 hj35 => ?_)
    · intro μ33 x34 x35
      refine s_iload_n C dX11_scanToken_35 rfl 3 rfl ?_
      refine s_iload_n C dX11_scanToken_36 rfl 2 rfl ?_
      refine s_icmp_ge (tgt := 146) C dX11_scanToken_37 (by decide) (fun c36 => ?_) (fun c36 => ?_)
      ·
        exact g_sub [0, 1, 3, 4, 5] rfl (hj146 μ33 x34 x35 3 (by decide))
      ·
        refine s_aload_n C dX11_scanToken_40 rfl 0 rfl ?_
        refine s_getF C (fgX11_40_2 _) g0 dX11_scanToken_41 ?_
        refine s_iload_n C dX11_scanToken_44 rfl 3 rfl ?_
        refine s_bald C (ag1 _) (by decide) dX11_scanToken_45 ?_
        refine s_callS C R0 (kX11_isDigit (xl X) (μ33.1 1 0 x34.toNatClampNeg)) (Nat.le_trans (by decide) V) mmX11_isDigit q978 q977 rfl rfl rfl rfl (Nat.le_of_ble_eq_true rfl) ⟨Nat.le_of_ble_eq_true rfl, Nat.le_of_ble_eq_true rfl, Nat.le_of_ble_eq_true rfl, Nat.le_of_ble_eq_true rfl⟩ dX11_scanToken_46 (fun x38 μ37 => ?_)
        refine g_st (st' := [.int x38]) rfl ?_
        refine s_if_eq (tgt := 146) C dX11_scanToken_49 (by decide) (fun c39 => ?_) (fun c39 => ?_)
        ·
          exact g_sub [0, 1, 3, 4, 5] rfl (hj146 μ37 x34 x35 3 (by decide))
        ·
          refine s_iload C dX11_scanToken_52 4 rfl ?_
          refine s_bipush (v := (10 : Int32)) C dX11_scanToken_54 (by decide) ?_
          refine s_imul C dX11_scanToken_56 ?_
          refine s_aload_n C dX11_scanToken_57 rfl 0 rfl ?_
          refine s_getF C (fgX11_40_2 _) g0 dX11_scanToken_58 ?_
          refine s_iload_n C dX11_scanToken_61 rfl 3 rfl ?_
          refine s_bald C (ag1 _) (by decide) dX11_scanToken_62 ?_
          refine s_iadd C dX11_scanToken_63 ?_
          refine s_bipush (v := (48 : Int32)) C dX11_scanToken_64 (by decide) ?_
          refine s_isub C dX11_scanToken_66 ?_
          refine s_ldc (v := (100000 : Int32)) C q980 dX11_scanToken_67 ?_
          refine s_mmin C R0 q970 q726 q172 q727 ⟨Nat.le_of_ble_eq_true rfl, Nat.le_of_ble_eq_true rfl, Nat.le_of_ble_eq_true rfl, Nat.le_of_ble_eq_true rfl⟩ dX11_scanToken_69 ?_
          refine g_nmI (fun x40 => ?_)
          refine s_istore (L' := [(4, .int x40), (0, .ref (xa X 2 n0)), (1, .int p1), (2, .int p2), (3, .int x34), (5, .ref (xa X 50 3))]) C dX11_scanToken_72 (hN 4 (by decide)) rfl ?_
          refine g_nmQ (fun x41 ex41 => ?_)
          refine s_iinc (v := x41) (j := 4) (L' := [(3, .int x41), (4, .int x40), (0, .ref (xa X 2 n0)), (1, .int p1), (2, .int p2), (5, .ref (xa X 50 3))]) C dX11_scanToken_74 rfl (by rw [ex41]; rfl) (hN 3 (by decide)) rfl ?_
          refine s_goto (tgt := 35) C dX11_scanToken_77 (by decide) ?_
          exact g_sub [2, 3, 4, 0, 1, 5] rfl (hj35 μ37 x41 x40)
    refine s_aload_n C dX11_scanToken_24 rfl 3 rfl ?_
    refine s_getF C (fgX11_40_2 _) g0 dX11_scanToken_25 ?_
    refine s_iload_n C dX11_scanToken_28 rfl 4 rfl ?_
    refine s_bald C (ag1 _) (by decide) dX11_scanToken_29 ?_
    refine s_bipush (v := (48 : Int32)) C dX11_scanToken_30 (by decide) ?_
    refine s_isub C dX11_scanToken_32 ?_
    refine g_nmI (fun x42 => ?_)
    refine s_istore (L' := [(4, .int x42), (5, .ref (xa X 50 3)), (3, .int x11), (0, .ref (xa X 2 n0)), (1, .int p1), (2, .int p2)]) C dX11_scanToken_33 (hN 4 (by decide)) rfl ?_
    exact g_sub [3, 4, 5, 2, 0, 1] rfl (hj35 μ12 x11 x42)
/-! java/lang/Integer.reverse(I)I -/
def fJ6_reverse_0f7a4 (p0 : Int32) (μ : Mem) : Option (Int32 × Mem) :=
  nm ((((p0 &&& (1431655765 : Int32)) <<< ((1 : Int32) &&& 31)) ||| (((p0.toUInt32 >>> ((1 : Int32).toUInt32 &&& Int32.toUInt32 31)).toInt32) &&& (1431655765 : Int32)))) fun x1 =>
  nm ((((x1 &&& (858993459 : Int32)) <<< ((2 : Int32) &&& 31)) ||| (((x1.toUInt32 >>> ((2 : Int32).toUInt32 &&& Int32.toUInt32 31)).toInt32) &&& (858993459 : Int32)))) fun x2 =>
  nm ((((x2 &&& (252645135 : Int32)) <<< ((4 : Int32) &&& 31)) ||| (((x2.toUInt32 >>> ((4 : Int32).toUInt32 &&& Int32.toUInt32 31)).toInt32) &&& (252645135 : Int32)))) fun x3 =>
  bnd (fJ6_reverseBytes_0f7a4 x3 μ) fun x5 μ4 =>
  some (x5, μ4)
set_option maxHeartbeats 4000000 in
set_option maxRecDepth 100000 in
theorem kJ6_reverse_0f7a4 (l : Launch) (p0 : Int32) : Kon 0 l yJ6_reverse_0f7a4 cJ6_reverse_0f7a4 1 (some .int) 1 20 0 0 (fun _ => [.int p0]) rvI (fun μ => fJ6_reverse_0f7a4 p0 μ) := by
  refine kon_of (by decide) (fun _ => Nat.le_of_ble_eq_true rfl) (fun X r0 μ hXl hXn V C E => ?_)
  have hN : ∀ i : Nat, i < 1 → i < xn X := fun i h => hXn.symm ▸ h
  have R0 := fen_rm E
  show G X r0 0 0 μ 0 [(0, .int p0)] [] (fJ6_reverse_0f7a4 p0 μ)
  unfold fJ6_reverse_0f7a4
  refine s_iload_n C dJ6_reverse_0f7a4_0 rfl 0 rfl ?_
  refine s_ldcw (v := (1431655765 : Int32)) C q1624 dJ6_reverse_0f7a4_1 ?_
  refine s_iand C dJ6_reverse_0f7a4_4 ?_
  refine s_iconst (v := (1 : Int32)) C dJ6_reverse_0f7a4_5 (by decide) ?_
  refine s_ishl C dJ6_reverse_0f7a4_6 ?_
  refine s_iload_n C dJ6_reverse_0f7a4_7 rfl 0 rfl ?_
  refine s_iconst (v := (1 : Int32)) C dJ6_reverse_0f7a4_8 (by decide) ?_
  refine s_iushr C dJ6_reverse_0f7a4_9 ?_
  refine s_ldcw (v := (1431655765 : Int32)) C q1624 dJ6_reverse_0f7a4_10 ?_
  refine s_iand C dJ6_reverse_0f7a4_13 ?_
  refine s_ior C dJ6_reverse_0f7a4_14 ?_
  refine g_nmI (fun x1 => ?_)
  refine s_istore_n (L' := [(0, .int x1)]) C dJ6_reverse_0f7a4_15 rfl (hN 0 (by decide)) rfl ?_
  refine s_iload_n C dJ6_reverse_0f7a4_16 rfl 0 rfl ?_
  refine s_ldcw (v := (858993459 : Int32)) C q1625 dJ6_reverse_0f7a4_17 ?_
  refine s_iand C dJ6_reverse_0f7a4_20 ?_
  refine s_iconst (v := (2 : Int32)) C dJ6_reverse_0f7a4_21 (by decide) ?_
  refine s_ishl C dJ6_reverse_0f7a4_22 ?_
  refine s_iload_n C dJ6_reverse_0f7a4_23 rfl 0 rfl ?_
  refine s_iconst (v := (2 : Int32)) C dJ6_reverse_0f7a4_24 (by decide) ?_
  refine s_iushr C dJ6_reverse_0f7a4_25 ?_
  refine s_ldcw (v := (858993459 : Int32)) C q1625 dJ6_reverse_0f7a4_26 ?_
  refine s_iand C dJ6_reverse_0f7a4_29 ?_
  refine s_ior C dJ6_reverse_0f7a4_30 ?_
  refine g_nmI (fun x2 => ?_)
  refine s_istore_n (L' := [(0, .int x2)]) C dJ6_reverse_0f7a4_31 rfl (hN 0 (by decide)) rfl ?_
  refine s_iload_n C dJ6_reverse_0f7a4_32 rfl 0 rfl ?_
  refine s_ldcw (v := (252645135 : Int32)) C q1626 dJ6_reverse_0f7a4_33 ?_
  refine s_iand C dJ6_reverse_0f7a4_36 ?_
  refine s_iconst (v := (4 : Int32)) C dJ6_reverse_0f7a4_37 (by decide) ?_
  refine s_ishl C dJ6_reverse_0f7a4_38 ?_
  refine s_iload_n C dJ6_reverse_0f7a4_39 rfl 0 rfl ?_
  refine s_iconst (v := (4 : Int32)) C dJ6_reverse_0f7a4_40 (by decide) ?_
  refine s_iushr C dJ6_reverse_0f7a4_41 ?_
  refine s_ldcw (v := (252645135 : Int32)) C q1626 dJ6_reverse_0f7a4_42 ?_
  refine s_iand C dJ6_reverse_0f7a4_45 ?_
  refine s_ior C dJ6_reverse_0f7a4_46 ?_
  refine g_nmI (fun x3 => ?_)
  refine s_istore_n (L' := [(0, .int x3)]) C dJ6_reverse_0f7a4_47 rfl (hN 0 (by decide)) rfl ?_
  refine s_iload_n C dJ6_reverse_0f7a4_48 rfl 0 rfl ?_
  refine s_callS C R0 (kJ6_reverseBytes_0f7a4 (xl X) x3) (Nat.le_trans (by decide) V) mmJ6_reverseBytes_0f7a4 q1628 q1627 rfl rfl rfl rfl (Nat.le_of_ble_eq_true rfl) ⟨Nat.le_of_ble_eq_true rfl, Nat.le_of_ble_eq_true rfl, Nat.le_of_ble_eq_true rfl, Nat.le_of_ble_eq_true rfl⟩ dJ6_reverse_0f7a4_49 (fun x5 μ4 => ?_)
  refine g_st (st' := [.int x5]) rfl ?_
  exact s_iret C E dJ6_reverse_0f7a4_52
/-! PinEngines.pc(I)I -/
def fX12_pc (n0 : Nat) (p1 : Int32) (μ : Mem) : Option (RX Int32) :=
  bndX (fX12_existingEngine n0 p1 μ) fun a2 μ1 =>
  ckB a2 52 <|
  some (.inr (μ1.1 18 a2 0), μ1)
set_option maxHeartbeats 4000000 in
set_option maxRecDepth 100000 in
theorem kX12_pc (l : Launch) (hls : l.stackTraces = false) (n0 : Nat) (g0 : n0 < 1) (p1 : Int32) : KonX 0 l yX12_pc cX12_pc 2 (some .int) 7 110 1 6 (fun ad => [.ref (ad 0 n0), .int p1]) rvI (fun μ => fX12_pc n0 p1 μ) := by
  refine konX_of (by decide) (fun _ => Nat.le_of_ble_eq_true rfl) (fun X r0 μ hXl hXn V C E => ?_)
  have hN : ∀ i : Nat, i < 2 → i < xn X := fun i h => hXn.symm ▸ h
  have R0 := fex_rm E
  have hT : (xl X).stackTraces = false := hXl.symm ▸ hls
  show G X r0 0 0 μ 0 [(0, .ref (xa X 0 n0)), (1, .int p1)] [] (fX12_pc n0 p1 μ)
  unfold fX12_pc
  refine s_aload_n C dX12_pc_0 rfl 0 rfl ?_
  refine s_iload_n C dX12_pc_1 rfl 1 rfl ?_
  refine s_callVX C E (kX12_existingEngine (xl X) hT n0 g0 p1) (Nat.le_trans (by decide) V) mmX12_existingEngine miX12_existingEngine q1274 (rc0 _) g0 rfl rfl rfl (Nat.le_of_ble_eq_true rfl) ⟨Nat.le_of_ble_eq_true rfl, Nat.le_of_ble_eq_true rfl, Nat.le_of_ble_eq_true rfl, Nat.le_of_ble_eq_true rfl⟩ dX12_pc_2 (fun a2 μ1 => ?_)
  refine g_st (st' := [.ref (xa X 18 a2)]) rfl ?_
  refine g_ckB (fun b3 => ?_)
  refine s_getI C (fgX12_166_18 _) b3 dX12_pc_5 ?_
  exact s_iretX C E ⟨by decide, by decide⟩ dX12_pc_8
/-! PinEngines.register(II)I -/
def fX12_register (n0 : Nat) (p1 : Int32) (p2 : Int32) (μ : Mem) : Option (RX Int32) :=
  jn (fun (μ1 : Mem) =>
    some (.inl 1, μ1)
  ) fun j15 =>
  bndX (fX12_existingEngine n0 p1 μ) fun a3 μ2 =>
  ckB a3 52 <|
  if p2 < 0 then (
    j15 μ2
  ) else (
    if p2 < (4 : Int32) then (
      if p2 = (0 : Int32) then (
        some (.inr (μ2.1 18 a3 1), μ2)
      ) else (
      if p2 = (1 : Int32) then (
        some (.inr (μ2.1 18 a3 2), μ2)
      ) else (
      if p2 = (2 : Int32) then (
        some (.inr (μ2.1 18 a3 3), μ2)
      ) else (
      some (.inr (μ2.1 18 a3 4), μ2)
      )))
    ) else (
      j15 μ2
    )
  )
set_option maxHeartbeats 4000000 in
set_option maxRecDepth 100000 in
theorem kX12_register (l : Launch) (hls : l.stackTraces = false) (n0 : Nat) (g0 : n0 < 1) (p1 : Int32) (p2 : Int32) : KonX 0 l yX12_register cX12_register 4 (some .int) 7 110 2 12 (fun ad => [.ref (ad 0 n0), .int p1, .int p2]) rvI (fun μ => fX12_register n0 p1 p2 μ) := by
  refine konX_of (by decide) (fun _ => Nat.le_of_ble_eq_true rfl) (fun X r0 μ hXl hXn V C E => ?_)
  have hN : ∀ i : Nat, i < 4 → i < xn X := fun i h => hXn.symm ▸ h
  have R0 := fex_rm E
  have hT : (xl X).stackTraces = false := hXl.symm ▸ hls
  show G X r0 0 0 μ 0 [(0, .ref (xa X 0 n0)), (1, .int p1), (2, .int p2)] [] (fX12_register n0 p1 p2 μ)
  unfold fX12_register
  refine g_jn (P := fun j15 => ∀ (μ1 : Mem), G X r0 1 6 μ1 15 [] [] (j15 μ1)) ?_ (fun j15 hj15 => ?_)
  · intro μ1
    exact s_throw (k := 1) (names := ["java/lang/RuntimeException", "java/lang/Exception"]) hT C E (by decide +kernel) (by decide +kernel) q1220 q181 th12n tg12n dX12_register_15 dX12_register_18 dX12_register_19 dX12_register_22 ⟨by decide, by decide, by decide, by decide⟩
  refine s_aload_n C dX12_register_0 rfl 0 rfl ?_
  refine s_iload_n C dX12_register_1 rfl 1 rfl ?_
  refine s_callVX C E (kX12_existingEngine (xl X) hT n0 g0 p1) (Nat.le_trans (by decide) V) mmX12_existingEngine miX12_existingEngine q1274 (rc0 _) g0 rfl rfl rfl (Nat.le_of_ble_eq_true rfl) ⟨Nat.le_of_ble_eq_true rfl, Nat.le_of_ble_eq_true rfl, Nat.le_of_ble_eq_true rfl, Nat.le_of_ble_eq_true rfl⟩ dX12_register_2 (fun a3 μ2 => ?_)
  refine g_st (st' := [.ref (xa X 18 a3)]) rfl ?_
  refine g_ckB (fun b4 => ?_)
  refine s_astore_n (L' := [(3, .ref (xa X 18 a3)), (0, .ref (xa X 0 n0)), (1, .int p1), (2, .int p2)]) C dX12_register_5 rfl (hN 3 (by decide)) rfl ?_
  refine s_iload_n C dX12_register_6 rfl 3 rfl ?_
  refine s_if_lt (tgt := 15) C dX12_register_7 (by decide) (fun c5 => ?_) (fun c5 => ?_)
  ·
    exact g_wid (ca1 := 1) (sl1 := 6) (by decide) (by decide) <| g_sub [] rfl (hj15 μ2)
  ·
    refine s_iload_n C dX12_register_10 rfl 3 rfl ?_
    refine s_iconst (v := (4 : Int32)) C dX12_register_11 (by decide) ?_
    refine s_icmp_lt (tgt := 23) C dX12_register_12 (by decide) (fun c6 => ?_) (fun c6 => ?_)
    ·
      refine s_iload_n C dX12_register_23 rfl 3 rfl ?_
      refine g_cases (v := (0 : Int32)) (fun c7 => ?_) (fun c7 => ?_)
      ·
        refine s_tin (tgt := 52) C dX12_register_24 c7 (by decide) (by decide) rfl (by decide) ?_
        refine s_aload_n C dX12_register_52 rfl 0 rfl ?_
        refine s_getI C (fgX12_171_18 _) b4 dX12_register_53 ?_
        exact s_iretX C E ⟨by decide, by decide⟩ dX12_register_56
      ·
        refine g_cases (v := (1 : Int32)) (fun c8 => ?_) (fun c8 => ?_)
        ·
          refine s_tin (tgt := 57) C dX12_register_24 c8 (by decide) (by decide) rfl (by decide) ?_
          refine s_aload_n C dX12_register_57 rfl 0 rfl ?_
          refine s_getI C (fgX12_174_18 _) b4 dX12_register_58 ?_
          exact s_iretX C E ⟨by decide, by decide⟩ dX12_register_61
        ·
          refine g_cases (v := (2 : Int32)) (fun c9 => ?_) (fun c9 => ?_)
          ·
            refine s_tin (tgt := 62) C dX12_register_24 c9 (by decide) (by decide) rfl (by decide) ?_
            refine s_aload_n C dX12_register_62 rfl 0 rfl ?_
            refine s_getI C (fgX12_177_18 _) b4 dX12_register_63 ?_
            exact s_iretX C E ⟨by decide, by decide⟩ dX12_register_66
          ·
            refine s_tout (tgt := 67) C dX12_register_24 (by have := ine (i := 0) (by decide) c7; have := ine (i := 1) (by decide) c8; have := ine (i := 2) (by decide) c9; omega) (by decide) ?_
            refine s_aload_n C dX12_register_67 rfl 0 rfl ?_
            refine s_getI C (fgX12_180_18 _) b4 dX12_register_68 ?_
            exact s_iretX C E ⟨by decide, by decide⟩ dX12_register_71
    ·
      exact g_wid (ca1 := 1) (sl1 := 6) (by decide) (by decide) <| g_sub [] rfl (hj15 μ2)
/-! PinEngines.fill(I)I -/
def fX12_fill (n0 : Nat) (p1 : Int32) (μ : Mem) : Option (RX Int32) :=
  bndX (fX12_existingEngine n0 p1 μ) fun a2 μ1 =>
  ckB a2 52 <|
  some (.inr (μ1.1 18 a2 5), μ1)
set_option maxHeartbeats 4000000 in
set_option maxRecDepth 100000 in
theorem kX12_fill (l : Launch) (hls : l.stackTraces = false) (n0 : Nat) (g0 : n0 < 1) (p1 : Int32) : KonX 0 l yX12_fill cX12_fill 2 (some .int) 7 110 1 6 (fun ad => [.ref (ad 0 n0), .int p1]) rvI (fun μ => fX12_fill n0 p1 μ) := by
  refine konX_of (by decide) (fun _ => Nat.le_of_ble_eq_true rfl) (fun X r0 μ hXl hXn V C E => ?_)
  have hN : ∀ i : Nat, i < 2 → i < xn X := fun i h => hXn.symm ▸ h
  have R0 := fex_rm E
  have hT : (xl X).stackTraces = false := hXl.symm ▸ hls
  show G X r0 0 0 μ 0 [(0, .ref (xa X 0 n0)), (1, .int p1)] [] (fX12_fill n0 p1 μ)
  unfold fX12_fill
  refine s_aload_n C dX12_fill_0 rfl 0 rfl ?_
  refine s_iload_n C dX12_fill_1 rfl 1 rfl ?_
  refine s_callVX C E (kX12_existingEngine (xl X) hT n0 g0 p1) (Nat.le_trans (by decide) V) mmX12_existingEngine miX12_existingEngine q1274 (rc0 _) g0 rfl rfl rfl (Nat.le_of_ble_eq_true rfl) ⟨Nat.le_of_ble_eq_true rfl, Nat.le_of_ble_eq_true rfl, Nat.le_of_ble_eq_true rfl, Nat.le_of_ble_eq_true rfl⟩ dX12_fill_2 (fun a2 μ1 => ?_)
  refine g_st (st' := [.ref (xa X 18 a2)]) rfl ?_
  refine g_ckB (fun b3 => ?_)
  refine s_getI C (fgX12_183_18 _) b3 dX12_fill_5 ?_
  exact s_iretX C E ⟨by decide, by decide⟩ dX12_fill_8
/-! PinEngines.spent(I)I -/
def fX12_spent (n0 : Nat) (p1 : Int32) (μ : Mem) : Option (RX Int32) :=
  bndX (fX12_existingEngine n0 p1 μ) fun a2 μ1 =>
  ckB a2 52 <|
  some (.inr (μ1.1 18 a2 6), μ1)
set_option maxHeartbeats 4000000 in
set_option maxRecDepth 100000 in
theorem kX12_spent (l : Launch) (hls : l.stackTraces = false) (n0 : Nat) (g0 : n0 < 1) (p1 : Int32) : KonX 0 l yX12_spent cX12_spent 2 (some .int) 7 110 1 6 (fun ad => [.ref (ad 0 n0), .int p1]) rvI (fun μ => fX12_spent n0 p1 μ) := by
  refine konX_of (by decide) (fun _ => Nat.le_of_ble_eq_true rfl) (fun X r0 μ hXl hXn V C E => ?_)
  have hN : ∀ i : Nat, i < 2 → i < xn X := fun i h => hXn.symm ▸ h
  have R0 := fex_rm E
  have hT : (xl X).stackTraces = false := hXl.symm ▸ hls
  show G X r0 0 0 μ 0 [(0, .ref (xa X 0 n0)), (1, .int p1)] [] (fX12_spent n0 p1 μ)
  unfold fX12_spent
  refine s_aload_n C dX12_spent_0 rfl 0 rfl ?_
  refine s_iload_n C dX12_spent_1 rfl 1 rfl ?_
  refine s_callVX C E (kX12_existingEngine (xl X) hT n0 g0 p1) (Nat.le_trans (by decide) V) mmX12_existingEngine miX12_existingEngine q1274 (rc0 _) g0 rfl rfl rfl (Nat.le_of_ble_eq_true rfl) ⟨Nat.le_of_ble_eq_true rfl, Nat.le_of_ble_eq_true rfl, Nat.le_of_ble_eq_true rfl, Nat.le_of_ble_eq_true rfl⟩ dX12_spent_2 (fun a2 μ1 => ?_)
  refine g_st (st' := [.ref (xa X 18 a2)]) rfl ?_
  refine g_ckB (fun b3 => ?_)
  refine s_getI C (fgX12_186_18 _) b3 dX12_spent_5 ?_
  exact s_iretX C E ⟨by decide, by decide⟩ dX12_spent_8
/-! PinEngines.delayLeft(I)I -/
def fX12_delayLeft (n0 : Nat) (p1 : Int32) (μ : Mem) : Option (RX Int32) :=
  bndX (fX12_existingEngine n0 p1 μ) fun a2 μ1 =>
  ckB a2 52 <|
  some (.inr (μ1.1 18 a2 7), μ1)
set_option maxHeartbeats 4000000 in
set_option maxRecDepth 100000 in
theorem kX12_delayLeft (l : Launch) (hls : l.stackTraces = false) (n0 : Nat) (g0 : n0 < 1) (p1 : Int32) : KonX 0 l yX12_delayLeft cX12_delayLeft 2 (some .int) 7 110 1 6 (fun ad => [.ref (ad 0 n0), .int p1]) rvI (fun μ => fX12_delayLeft n0 p1 μ) := by
  refine konX_of (by decide) (fun _ => Nat.le_of_ble_eq_true rfl) (fun X r0 μ hXl hXn V C E => ?_)
  have hN : ∀ i : Nat, i < 2 → i < xn X := fun i h => hXn.symm ▸ h
  have R0 := fex_rm E
  have hT : (xl X).stackTraces = false := hXl.symm ▸ hls
  show G X r0 0 0 μ 0 [(0, .ref (xa X 0 n0)), (1, .int p1)] [] (fX12_delayLeft n0 p1 μ)
  unfold fX12_delayLeft
  refine s_aload_n C dX12_delayLeft_0 rfl 0 rfl ?_
  refine s_iload_n C dX12_delayLeft_1 rfl 1 rfl ?_
  refine s_callVX C E (kX12_existingEngine (xl X) hT n0 g0 p1) (Nat.le_trans (by decide) V) mmX12_existingEngine miX12_existingEngine q1274 (rc0 _) g0 rfl rfl rfl (Nat.le_of_ble_eq_true rfl) ⟨Nat.le_of_ble_eq_true rfl, Nat.le_of_ble_eq_true rfl, Nat.le_of_ble_eq_true rfl, Nat.le_of_ble_eq_true rfl⟩ dX12_delayLeft_2 (fun a2 μ1 => ?_)
  refine g_st (st' := [.ref (xa X 18 a2)]) rfl ?_
  refine g_ckB (fun b3 => ?_)
  refine s_getI C (fgX12_189_18 _) b3 dX12_delayLeft_5 ?_
  exact s_iretX C E ⟨by decide, by decide⟩ dX12_delayLeft_8
/-! PinEngines.stall(I)I -/
def fX12_stall (n0 : Nat) (p1 : Int32) (μ : Mem) : Option (RX Int32) :=
  bndX (fX12_existingEngine n0 p1 μ) fun a2 μ1 =>
  ckB a2 52 <|
  some (.inr (μ1.1 18 a2 8), μ1)
set_option maxHeartbeats 4000000 in
set_option maxRecDepth 100000 in
theorem kX12_stall (l : Launch) (hls : l.stackTraces = false) (n0 : Nat) (g0 : n0 < 1) (p1 : Int32) : KonX 0 l yX12_stall cX12_stall 2 (some .int) 7 110 1 6 (fun ad => [.ref (ad 0 n0), .int p1]) rvI (fun μ => fX12_stall n0 p1 μ) := by
  refine konX_of (by decide) (fun _ => Nat.le_of_ble_eq_true rfl) (fun X r0 μ hXl hXn V C E => ?_)
  have hN : ∀ i : Nat, i < 2 → i < xn X := fun i h => hXn.symm ▸ h
  have R0 := fex_rm E
  have hT : (xl X).stackTraces = false := hXl.symm ▸ hls
  show G X r0 0 0 μ 0 [(0, .ref (xa X 0 n0)), (1, .int p1)] [] (fX12_stall n0 p1 μ)
  unfold fX12_stall
  refine s_aload_n C dX12_stall_0 rfl 0 rfl ?_
  refine s_iload_n C dX12_stall_1 rfl 1 rfl ?_
  refine s_callVX C E (kX12_existingEngine (xl X) hT n0 g0 p1) (Nat.le_trans (by decide) V) mmX12_existingEngine miX12_existingEngine q1274 (rc0 _) g0 rfl rfl rfl (Nat.le_of_ble_eq_true rfl) ⟨Nat.le_of_ble_eq_true rfl, Nat.le_of_ble_eq_true rfl, Nat.le_of_ble_eq_true rfl, Nat.le_of_ble_eq_true rfl⟩ dX12_stall_2 (fun a2 μ1 => ?_)
  refine g_st (st' := [.ref (xa X 18 a2)]) rfl ?_
  refine g_ckB (fun b3 => ?_)
  refine s_getI C (fgX12_192_18 _) b3 dX12_stall_5 ?_
  exact s_iretX C E ⟨by decide, by decide⟩ dX12_stall_8
/-! PinEngines.isEnabled(I)Z -/
def fX12_isEnabled (n0 : Nat) (p1 : Int32) (μ : Mem) : Option (RX Int32) :=
  bndX (fX12_existingEngine n0 p1 μ) fun a2 μ1 =>
  ckB a2 52 <|
  ckZ (μ1.1 18 a2 10) (some (.inr (μ1.1 18 a2 10), μ1))
set_option maxHeartbeats 4000000 in
set_option maxRecDepth 100000 in
theorem kX12_isEnabled (l : Launch) (hls : l.stackTraces = false) (n0 : Nat) (g0 : n0 < 1) (p1 : Int32) : KonX 0 l yX12_isEnabled cX12_isEnabled 2 (some .boolean) 7 110 1 6 (fun ad => [.ref (ad 0 n0), .int p1]) rvI (fun μ => fX12_isEnabled n0 p1 μ) := by
  refine konX_of (by decide) (fun _ => Nat.le_of_ble_eq_true rfl) (fun X r0 μ hXl hXn V C E => ?_)
  have hN : ∀ i : Nat, i < 2 → i < xn X := fun i h => hXn.symm ▸ h
  have R0 := fex_rm E
  have hT : (xl X).stackTraces = false := hXl.symm ▸ hls
  show G X r0 0 0 μ 0 [(0, .ref (xa X 0 n0)), (1, .int p1)] [] (fX12_isEnabled n0 p1 μ)
  unfold fX12_isEnabled
  refine s_aload_n C dX12_isEnabled_0 rfl 0 rfl ?_
  refine s_iload_n C dX12_isEnabled_1 rfl 1 rfl ?_
  refine s_callVX C E (kX12_existingEngine (xl X) hT n0 g0 p1) (Nat.le_trans (by decide) V) mmX12_existingEngine miX12_existingEngine q1274 (rc0 _) g0 rfl rfl rfl (Nat.le_of_ble_eq_true rfl) ⟨Nat.le_of_ble_eq_true rfl, Nat.le_of_ble_eq_true rfl, Nat.le_of_ble_eq_true rfl, Nat.le_of_ble_eq_true rfl⟩ dX12_isEnabled_2 (fun a2 μ1 => ?_)
  refine g_st (st' := [.ref (xa X 18 a2)]) rfl ?_
  refine g_ckB (fun b3 => ?_)
  refine s_getI C (fgX12_195_18 _) b3 dX12_isEnabled_5 ?_
  exact s_zretX C E ⟨by decide, by decide⟩ dX12_isEnabled_8
/-! PinEngines.queueSize(IZ)I -/
def fX12_queueSize (n0 : Nat) (p1 : Int32) (p2 : Int32) (μ : Mem) : Option (RX Int32) :=
  bndX (fX12_existingQueue n0 p1 p2 μ) fun a2 μ1 =>
  ckB a2 104 <|
  some (.inr (μ1.1 19 a2 0), μ1)
set_option maxHeartbeats 4000000 in
set_option maxRecDepth 100000 in
theorem kX12_queueSize (l : Launch) (hls : l.stackTraces = false) (n0 : Nat) (g0 : n0 < 1) (p1 : Int32) (p2 : Int32) : KonX 0 l yX12_queueSize cX12_queueSize 3 (some .int) 8 133 1 6 (fun ad => [.ref (ad 0 n0), .int p1, .int p2]) rvI (fun μ => fX12_queueSize n0 p1 p2 μ) := by
  refine konX_of (by decide) (fun _ => Nat.le_of_ble_eq_true rfl) (fun X r0 μ hXl hXn V C E => ?_)
  have hN : ∀ i : Nat, i < 3 → i < xn X := fun i h => hXn.symm ▸ h
  have R0 := fex_rm E
  have hT : (xl X).stackTraces = false := hXl.symm ▸ hls
  show G X r0 0 0 μ 0 [(0, .ref (xa X 0 n0)), (1, .int p1), (2, .int p2)] [] (fX12_queueSize n0 p1 p2 μ)
  unfold fX12_queueSize
  refine s_aload_n C dX12_queueSize_0 rfl 0 rfl ?_
  refine s_iload_n C dX12_queueSize_1 rfl 1 rfl ?_
  refine s_iload_n C dX12_queueSize_2 rfl 2 rfl ?_
  refine s_callVX C E (kX12_existingQueue (xl X) hT n0 g0 p1 p2) (Nat.le_trans (by decide) V) mmX12_existingQueue miX12_existingQueue q1328 (rc0 _) g0 rfl rfl rfl (Nat.le_of_ble_eq_true rfl) ⟨Nat.le_of_ble_eq_true rfl, Nat.le_of_ble_eq_true rfl, Nat.le_of_ble_eq_true rfl, Nat.le_of_ble_eq_true rfl⟩ dX12_queueSize_3 (fun a2 μ1 => ?_)
  refine g_st (st' := [.ref (xa X 19 a2)]) rfl ?_
  refine g_ckB (fun b3 => ?_)
  refine s_getI C (fgX12_202_19 _) b3 dX12_queueSize_6 ?_
  exact s_iretX C E ⟨by decide, by decide⟩ dX12_queueSize_9
/-! PinEngines.queued(IZI)J -/
def fX12_queued (n0 : Nat) (p1 : Int32) (p2 : Int32) (p3 : Int32) (μ : Mem) : Option (RX Int64) :=
  bndX (fX12_existingQueue n0 p1 p2 μ) fun a2 μ1 =>
  ckB a2 104 <|
  if 0 ≤ p3 then (
    jn (fun (μ5 : Mem) (y6 : Int64) =>
      some (.inr y6, μ5)
    ) fun j44 =>
    if (μ1.1 19 a2 0) ≤ p3 then (
      j44 μ1 (-1 : Int64)
    ) else (
      bnd (fX7_wordAt a2 p3 μ1) fun x9 μ8 =>
      bnd (fX12_unsigned x9 μ8) fun y11 μ10 =>
      j44 μ10 y11
    )
  ) else (
    some (.inl 1, μ1)
  )
set_option maxHeartbeats 4000000 in
set_option maxRecDepth 100000 in
theorem kX12_queued (l : Launch) (hls : l.stackTraces = false) (n0 : Nat) (g0 : n0 < 1) (p1 : Int32) (p2 : Int32) (p3 : Int32) : KonX 0 l yX12_queued cX12_queued 5 (some .long) 8 133 2 12 (fun ad => [.ref (ad 0 n0), .int p1, .int p2, .int p3]) rvJ (fun μ => fX12_queued n0 p1 p2 p3 μ) := by
  refine konX_of (by decide) (fun _ => Nat.le_of_ble_eq_true rfl) (fun X r0 μ hXl hXn V C E => ?_)
  have hN : ∀ i : Nat, i < 5 → i < xn X := fun i h => hXn.symm ▸ h
  have R0 := fex_rm E
  have hT : (xl X).stackTraces = false := hXl.symm ▸ hls
  show G X r0 0 0 μ 0 [(0, .ref (xa X 0 n0)), (1, .int p1), (2, .int p2), (3, .int p3)] [] (fX12_queued n0 p1 p2 p3 μ)
  unfold fX12_queued
  refine s_aload_n C dX12_queued_0 rfl 0 rfl ?_
  refine s_iload_n C dX12_queued_1 rfl 1 rfl ?_
  refine s_iload_n C dX12_queued_2 rfl 2 rfl ?_
  refine s_callVX C E (kX12_existingQueue (xl X) hT n0 g0 p1 p2) (Nat.le_trans (by decide) V) mmX12_existingQueue miX12_existingQueue q1328 (rc0 _) g0 rfl rfl rfl (Nat.le_of_ble_eq_true rfl) ⟨Nat.le_of_ble_eq_true rfl, Nat.le_of_ble_eq_true rfl, Nat.le_of_ble_eq_true rfl, Nat.le_of_ble_eq_true rfl⟩ dX12_queued_3 (fun a2 μ1 => ?_)
  refine g_st (st' := [.ref (xa X 19 a2)]) rfl ?_
  refine g_ckB (fun b3 => ?_)
  refine s_astore (L' := [(4, .ref (xa X 19 a2)), (0, .ref (xa X 0 n0)), (1, .int p1), (2, .int p2), (3, .int p3)]) C dX12_queued_6 (hN 4 (by decide)) rfl ?_
  refine s_iload_n C dX12_queued_8 rfl 4 rfl ?_
  refine s_if_ge (tgt := 20) C dX12_queued_9 (by decide) (fun c4 => ?_) (fun c4 => ?_)
  ·
    refine g_jn (P := fun j44 => ∀ (μ5 : Mem) (y6 : Int64), G X r0 1 6 μ5 44 [] [.long y6] (j44 μ5 y6)) ?_ (fun j44 hj44 => ?_)
    · intro μ5 y6
      exact s_lretX C E ⟨by decide, by decide⟩ dX12_queued_44
    refine s_iload_n C dX12_queued_20 rfl 4 rfl ?_
    refine s_aload C dX12_queued_21 0 rfl ?_
    refine s_getI C (fgX12_202_19 _) b3 dX12_queued_23 ?_
    refine s_icmp_ge (tgt := 41) C dX12_queued_26 (by decide) (fun c7 => ?_) (fun c7 => ?_)
    ·
      refine s_ldc2 (v := (-1 : Int64)) C q1347 dX12_queued_41 ?_
      exact g_wid (ca1 := 1) (sl1 := 6) (by decide) (by decide) <| g_sub [] rfl (hj44 μ1 (-1 : Int64))
    ·
      refine s_aload C dX12_queued_29 0 rfl ?_
      refine s_iload_n C dX12_queued_31 rfl 4 rfl ?_
      refine s_callV C R0 (kX7_wordAt (xl X) a2 b3 p3) (Nat.le_trans (by decide) V) mmX7_wordAt miX7_wordAt q1339 (rc19 _) b3 rfl rfl rfl (Nat.le_of_ble_eq_true rfl) ⟨Nat.le_of_ble_eq_true rfl, Nat.le_of_ble_eq_true rfl, Nat.le_of_ble_eq_true rfl, Nat.le_of_ble_eq_true rfl⟩ dX12_queued_32 (fun x9 μ8 => ?_)
      refine g_st (st' := [.int x9]) rfl ?_
      refine s_callS C R0 (kX12_unsigned (xl X) x9) (Nat.le_trans (by decide) V) mmX12_unsigned q1344 q1343 rfl rfl rfl rfl (Nat.le_of_ble_eq_true rfl) ⟨Nat.le_of_ble_eq_true rfl, Nat.le_of_ble_eq_true rfl, Nat.le_of_ble_eq_true rfl, Nat.le_of_ble_eq_true rfl⟩ dX12_queued_35 (fun y11 μ10 => ?_)
      refine g_st (st' := [.long y11]) rfl ?_
      refine s_goto (tgt := 44) C dX12_queued_38 (by decide) ?_
      exact g_wid (ca1 := 1) (sl1 := 6) (by decide) (by decide) <| g_sub [] rfl (hj44 μ10 y11)
  ·
    exact s_throw (k := 1) (names := ["java/lang/RuntimeException", "java/lang/Exception"]) hT C E (by decide +kernel) (by decide +kernel) q1220 q181 th12n tg12n dX12_queued_12 dX12_queued_15 dX12_queued_16 dX12_queued_19 ⟨by decide, by decide, by decide, by decide⟩
/-! PinEngines.count(II)I -/
def fX12_count (n0 : Nat) (p1 : Int32) (p2 : Int32) (μ : Mem) : Option (RX Int32) :=
  jn (fun (μ1 : Mem) =>
    some (.inl 1, μ1)
  ) fun j16 =>
  bndX (fX12_existingEngine n0 p1 μ) fun a3 μ2 =>
  ckB a3 52 <|
  if p2 < 0 then (
    j16 μ2
  ) else (
    if p2 < (6 : Int32) then (
      ckI p2 (6) <|
      some (.inr (μ2.1 21 a3 p2.toNatClampNeg), μ2)
    ) else (
      j16 μ2
    )
  )
set_option maxHeartbeats 4000000 in
set_option maxRecDepth 100000 in
theorem kX12_count (l : Launch) (hls : l.stackTraces = false) (n0 : Nat) (g0 : n0 < 1) (p1 : Int32) (p2 : Int32) : KonX 0 l yX12_count cX12_count 4 (some .int) 7 110 2 12 (fun ad => [.ref (ad 0 n0), .int p1, .int p2]) rvI (fun μ => fX12_count n0 p1 p2 μ) := by
  refine konX_of (by decide) (fun _ => Nat.le_of_ble_eq_true rfl) (fun X r0 μ hXl hXn V C E => ?_)
  have hN : ∀ i : Nat, i < 4 → i < xn X := fun i h => hXn.symm ▸ h
  have R0 := fex_rm E
  have hT : (xl X).stackTraces = false := hXl.symm ▸ hls
  show G X r0 0 0 μ 0 [(0, .ref (xa X 0 n0)), (1, .int p1), (2, .int p2)] [] (fX12_count n0 p1 p2 μ)
  unfold fX12_count
  refine g_jn (P := fun j16 => ∀ (μ1 : Mem), G X r0 1 6 μ1 16 [] [] (j16 μ1)) ?_ (fun j16 hj16 => ?_)
  · intro μ1
    exact s_throw (k := 1) (names := ["java/lang/RuntimeException", "java/lang/Exception"]) hT C E (by decide +kernel) (by decide +kernel) q1220 q181 th12n tg12n dX12_count_16 dX12_count_19 dX12_count_20 dX12_count_23 ⟨by decide, by decide, by decide, by decide⟩
  refine s_aload_n C dX12_count_0 rfl 0 rfl ?_
  refine s_iload_n C dX12_count_1 rfl 1 rfl ?_
  refine s_callVX C E (kX12_existingEngine (xl X) hT n0 g0 p1) (Nat.le_trans (by decide) V) mmX12_existingEngine miX12_existingEngine q1274 (rc0 _) g0 rfl rfl rfl (Nat.le_of_ble_eq_true rfl) ⟨Nat.le_of_ble_eq_true rfl, Nat.le_of_ble_eq_true rfl, Nat.le_of_ble_eq_true rfl, Nat.le_of_ble_eq_true rfl⟩ dX12_count_2 (fun a3 μ2 => ?_)
  refine g_st (st' := [.ref (xa X 18 a3)]) rfl ?_
  refine g_ckB (fun b4 => ?_)
  refine s_astore_n (L' := [(3, .ref (xa X 18 a3)), (0, .ref (xa X 0 n0)), (1, .int p1), (2, .int p2)]) C dX12_count_5 rfl (hN 3 (by decide)) rfl ?_
  refine s_iload_n C dX12_count_6 rfl 3 rfl ?_
  refine s_if_lt (tgt := 16) C dX12_count_7 (by decide) (fun c5 => ?_) (fun c5 => ?_)
  ·
    exact g_wid (ca1 := 1) (sl1 := 6) (by decide) (by decide) <| g_sub [] rfl (hj16 μ2)
  ·
    refine s_iload_n C dX12_count_10 rfl 3 rfl ?_
    refine s_bipush (v := (6 : Int32)) C dX12_count_11 (by decide) ?_
    refine s_icmp_lt (tgt := 24) C dX12_count_13 (by decide) (fun c6 => ?_) (fun c6 => ?_)
    ·
      refine s_aload_n C dX12_count_24 rfl 0 rfl ?_
      refine s_getF C (fgX12_217_18 _) b4 dX12_count_25 ?_
      refine s_iload_n C dX12_count_28 rfl 3 rfl ?_
      refine s_iald C (ag21 _) b4 dX12_count_29 ?_
      exact s_iretX C E ⟨by decide, by decide⟩ dX12_count_30
    ·
      exact g_wid (ca1 := 1) (sl1 := 6) (by decide) (by decide) <| g_sub [] rfl (hj16 μ2)
