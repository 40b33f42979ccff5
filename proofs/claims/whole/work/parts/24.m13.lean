/-! PinEngines$ProgramReader.readInstruction()V -/
def fX5_readInstruction (fu : Nat) (n0 : Nat) (μ : Mem) : Option (Unit × Mem) :=
  jn (fun (μ1 : Mem) =>
    jn (fun (μ2 : Mem) (a3 : Nat) =>
      jn (fun (μ5 : Mem) =>
        some ((), μ5)
      ) fun j104 =>
      bnd (fX11_skip 0 16 μ2) fun x7 μ6 =>
      if x7 = 0 then (
        j104 μ6
      ) else (
        bnd (fX11_takeNumber 0 (0 : Int32) (31 : Int32) μ6) fun x10 μ9 =>
        nm (wI μ9 9 a3 7 x10) fun μ11 =>
        j104 μ11
      )
    ) fun j77 =>
    nm (μ1.2.1 10 n0 1) fun a12 =>
    ckB a12 2 <|
    bnd (fX11_takeRole 0 (1 : Int32) μ1) fun a15 μ14 =>
    ckB a15 74 <|
    bnd (fX4_add a12 a15 μ14) fun a18 μ17 =>
    ckB a18 66 <|
    bnd (fX5_readOperands fu n0 a18 μ17) fun _ μ20 =>
    bnd (fX11_skip 0 15 μ20) fun x22 μ21 =>
    if x22 = 0 then (
      j77 μ21 a18
    ) else (
      bnd (fX11_takeNumber 0 (0 : Int32) (15 : Int32) μ21) fun x25 μ24 =>
      nm (wI μ24 9 a18 6 x25) fun μ26 =>
      j77 μ26 a18
    )
  ) fun j29 =>
  bnd (fX11_atRole 0 (1 : Int32) μ) fun x28 μ27 =>
  if x28 = 0 then (
    j29 μ27
  ) else (
    nm (μ27.2.1 10 n0 1) fun a30 =>
    ckB a30 2 <|
    bnd (fX4_isFull a30 μ27) fun x33 μ32 =>
    if x33 = 0 then (
      j29 μ32
    ) else (
      bnd (fX11_fail 0 (3 : Int32) μ32) fun _ μ35 =>
      j29 μ35
    )
  )
set_option maxHeartbeats 4000000 in
set_option maxRecDepth 100000 in
theorem kX5_readInstruction (l : Launch) (fu : Nat) (n0 : Nat) (g0 : n0 < 1) : Kon 0 l yX5_readInstruction cX5_readInstruction 2 (none) 4 89 0 0 (fun ad => [.ref (ad 10 n0)]) rvV (fun μ => fX5_readInstruction fu n0 μ) := by
  refine kon_of (by decide) (fun _ => Nat.le_of_ble_eq_true rfl) (fun X r0 μ hXl hXn V C E => ?_)
  have hN : ∀ i : Nat, i < 2 → i < xn X := fun i h => hXn.symm ▸ h
  have R0 := fen_rm E
  show G X r0 0 0 μ 0 [(0, .ref (xa X 10 n0))] [] (fX5_readInstruction fu n0 μ)
  unfold fX5_readInstruction
  refine g_jn (P := fun j29 => ∀ (μ1 : Mem), G X r0 0 0 μ1 29 [(0, .ref (xa X 10 n0))] [] (j29 μ1)) ?_ (fun j29 hj29 => ?_)
  · intro μ1
    refine g_jn (P := fun j77 => ∀ (μ2 : Mem) (a3 : Nat), a3 < 66 → G X r0 0 0 μ2 77 [(0, .ref (xa X 10 n0)), (1, .ref (xa X 9 a3))] [] (j77 μ2 a3)) ?_ (fun j77 hj77 => ?_)
    · intro μ2 a3 b4
      refine g_jn (P := fun j104 => ∀ (μ5 : Mem), G X r0 0 0 μ5 104 [] [] (j104 μ5)) ?_ (fun j104 hj104 => ?_)
      · intro μ5
        exact s_vret C E dX5_readInstruction_104
      refine s_aload_n C dX5_readInstruction_77 rfl 0 rfl ?_
      refine s_getF C (fgX5_26_10 _) g0 dX5_readInstruction_78 ?_
      refine s_gsym (i := 16) C (by decide) rfl q1205 dX5_readInstruction_81 ?_
      refine s_callV C R0 (kX11_skip (xl X) 0 (by decide) 16 (by decide)) (Nat.le_trans (by decide) V) mmX11_skip miX11_skip q1052 (rc2 _) (by decide) rfl rfl rfl (Nat.le_of_ble_eq_true rfl) ⟨Nat.le_of_ble_eq_true rfl, Nat.le_of_ble_eq_true rfl, Nat.le_of_ble_eq_true rfl, Nat.le_of_ble_eq_true rfl⟩ dX5_readInstruction_84 (fun x7 μ6 => ?_)
      refine g_st (st' := [.int x7]) rfl ?_
      refine s_if_eq (tgt := 104) C dX5_readInstruction_87 (by decide) (fun c8 => ?_) (fun c8 => ?_)
      ·
        exact g_sub [] rfl (hj104 μ6)
      ·
        refine s_aload_n C dX5_readInstruction_90 rfl 1 rfl ?_
        refine s_aload_n C dX5_readInstruction_91 rfl 0 rfl ?_
        refine s_getF C (fgX5_26_10 _) g0 dX5_readInstruction_92 ?_
        refine s_iconst (v := (0 : Int32)) C dX5_readInstruction_95 (by decide) ?_
        refine s_bipush (v := (31 : Int32)) C dX5_readInstruction_96 (by decide) ?_
        refine s_callV C R0 (kX11_takeNumber (xl X) 0 (by decide) (0 : Int32) (31 : Int32)) (Nat.le_trans (by decide) V) mmX11_takeNumber miX11_takeNumber q1077 (rc2 _) (by decide) rfl rfl rfl (Nat.le_of_ble_eq_true rfl) ⟨Nat.le_of_ble_eq_true rfl, Nat.le_of_ble_eq_true rfl, Nat.le_of_ble_eq_true rfl, Nat.le_of_ble_eq_true rfl⟩ dX5_readInstruction_98 (fun x10 μ9 => ?_)
        refine g_st (st' := [.int x10, .ref (xa X 9 a3)]) rfl ?_
        refine s_putI C (fpX5_254_9 _) b4 dX5_readInstruction_101 ?_
        refine g_nmM (fun μ11 => ?_)
        exact g_sub [] rfl (hj104 μ11)
    refine s_aload_n C dX5_readInstruction_29 rfl 0 rfl ?_
    refine s_getM C (fgX5_30_10 _) g0 dX5_readInstruction_30 ?_
    refine g_nmA (fun a12 => ?_)
    refine g_ckB (fun b13 => ?_)
    refine s_aload_n C dX5_readInstruction_33 rfl 0 rfl ?_
    refine s_getF C (fgX5_26_10 _) g0 dX5_readInstruction_34 ?_
    refine s_iconst (v := (1 : Int32)) C dX5_readInstruction_37 (by decide) ?_
    refine s_callV C R0 (kX11_takeRole (xl X) 0 (by decide) (1 : Int32)) (Nat.le_trans (by decide) V) mmX11_takeRole miX11_takeRole q1106 (rc2 _) (by decide) rfl rfl rfl (Nat.le_of_ble_eq_true rfl) ⟨Nat.le_of_ble_eq_true rfl, Nat.le_of_ble_eq_true rfl, Nat.le_of_ble_eq_true rfl, Nat.le_of_ble_eq_true rfl⟩ dX5_readInstruction_38 (fun a15 μ14 => ?_)
    refine g_st (st' := [.ref (xa X 50 a15), .ref (xa X 5 a12)]) rfl ?_
    refine g_ckB (fun b16 => ?_)
    refine s_callV C R0 (kX4_add (xl X) a12 b13 a15 b16) (Nat.le_trans (by decide) V) mmX4_add miX4_add q1168 (rc5 _) b13 rfl rfl rfl (Nat.le_of_ble_eq_true rfl) ⟨Nat.le_of_ble_eq_true rfl, Nat.le_of_ble_eq_true rfl, Nat.le_of_ble_eq_true rfl, Nat.le_of_ble_eq_true rfl⟩ dX5_readInstruction_41 (fun a18 μ17 => ?_)
    refine g_st (st' := [.ref (xa X 9 a18)]) rfl ?_
    refine g_ckB (fun b19 => ?_)
    refine s_astore_n (L' := [(1, .ref (xa X 9 a18)), (0, .ref (xa X 10 n0))]) C dX5_readInstruction_44 rfl (hN 1 (by decide)) rfl ?_
    refine s_aload_n C dX5_readInstruction_45 rfl 1 rfl ?_
    refine s_aload_n C dX5_readInstruction_46 rfl 0 rfl ?_
    refine s_callV C R0 (kX5_readOperands (xl X) fu n0 g0 a18 b19) (Nat.le_trans (by decide) V) mmX5_readOperands miX5_readOperands q1177 (rc10 _) g0 rfl rfl rfl (Nat.le_of_ble_eq_true rfl) ⟨Nat.le_of_ble_eq_true rfl, Nat.le_of_ble_eq_true rfl, Nat.le_of_ble_eq_true rfl, Nat.le_of_ble_eq_true rfl⟩ dX5_readInstruction_47 (fun _ μ20 => ?_)
    refine g_st (st' := []) rfl ?_
    refine s_aload_n C dX5_readInstruction_50 rfl 1 rfl ?_
    refine s_getF C (fgX5_26_10 _) g0 dX5_readInstruction_51 ?_
    refine s_gsym (i := 15) C (by decide) rfl q1203 dX5_readInstruction_54 ?_
    refine s_callV C R0 (kX11_skip (xl X) 0 (by decide) 15 (by decide)) (Nat.le_trans (by decide) V) mmX11_skip miX11_skip q1052 (rc2 _) (by decide) rfl rfl rfl (Nat.le_of_ble_eq_true rfl) ⟨Nat.le_of_ble_eq_true rfl, Nat.le_of_ble_eq_true rfl, Nat.le_of_ble_eq_true rfl, Nat.le_of_ble_eq_true rfl⟩ dX5_readInstruction_57 (fun x22 μ21 => ?_)
    refine g_st (st' := [.int x22]) rfl ?_
    refine s_if_eq (tgt := 77) C dX5_readInstruction_60 (by decide) (fun c23 => ?_) (fun c23 => ?_)
    ·
      exact g_sub [1, 0] rfl (hj77 μ21 a18 b19)
    ·
      refine s_aload_n C dX5_readInstruction_63 rfl 0 rfl ?_
      refine s_aload_n C dX5_readInstruction_64 rfl 1 rfl ?_
      refine s_getF C (fgX5_26_10 _) g0 dX5_readInstruction_65 ?_
      refine s_iconst (v := (0 : Int32)) C dX5_readInstruction_68 (by decide) ?_
      refine s_bipush (v := (15 : Int32)) C dX5_readInstruction_69 (by decide) ?_
      refine s_callV C R0 (kX11_takeNumber (xl X) 0 (by decide) (0 : Int32) (15 : Int32)) (Nat.le_trans (by decide) V) mmX11_takeNumber miX11_takeNumber q1077 (rc2 _) (by decide) rfl rfl rfl (Nat.le_of_ble_eq_true rfl) ⟨Nat.le_of_ble_eq_true rfl, Nat.le_of_ble_eq_true rfl, Nat.le_of_ble_eq_true rfl, Nat.le_of_ble_eq_true rfl⟩ dX5_readInstruction_71 (fun x25 μ24 => ?_)
      refine g_st (st' := [.int x25, .ref (xa X 9 a18)]) rfl ?_
      refine s_putI C (fpX5_246_9 _) b19 dX5_readInstruction_74 ?_
      refine g_nmM (fun μ26 => ?_)
      exact g_sub [1, 0] rfl (hj77 μ26 a18 b19)
  refine s_aload_n C dX5_readInstruction_0 rfl 0 rfl ?_
  refine s_getF C (fgX5_26_10 _) g0 dX5_readInstruction_1 ?_
  refine s_iconst (v := (1 : Int32)) C dX5_readInstruction_4 (by decide) ?_
  refine s_callV C R0 (kX11_atRole (xl X) 0 (by decide) (1 : Int32)) (Nat.le_trans (by decide) V) mmX11_atRole miX11_atRole q1102 (rc2 _) (by decide) rfl rfl rfl (Nat.le_of_ble_eq_true rfl) ⟨Nat.le_of_ble_eq_true rfl, Nat.le_of_ble_eq_true rfl, Nat.le_of_ble_eq_true rfl, Nat.le_of_ble_eq_true rfl⟩ dX5_readInstruction_5 (fun x28 μ27 => ?_)
  refine g_st (st' := [.int x28]) rfl ?_
  refine s_if_eq (tgt := 29) C dX5_readInstruction_8 (by decide) (fun c29 => ?_) (fun c29 => ?_)
  ·
    exact g_sub [0] rfl (hj29 μ27)
  ·
    refine s_aload_n C dX5_readInstruction_11 rfl 0 rfl ?_
    refine s_getM C (fgX5_30_10 _) g0 dX5_readInstruction_12 ?_
    refine g_nmA (fun a30 => ?_)
    refine g_ckB (fun b31 => ?_)
    refine s_callV C R0 (kX4_isFull (xl X) a30 b31) (Nat.le_trans (by decide) V) mmX4_isFull miX4_isFull q1164 (rc5 _) b31 rfl rfl rfl (Nat.le_of_ble_eq_true rfl) ⟨Nat.le_of_ble_eq_true rfl, Nat.le_of_ble_eq_true rfl, Nat.le_of_ble_eq_true rfl, Nat.le_of_ble_eq_true rfl⟩ dX5_readInstruction_15 (fun x33 μ32 => ?_)
    refine g_st (st' := [.int x33]) rfl ?_
    refine s_if_eq (tgt := 29) C dX5_readInstruction_18 (by decide) (fun c34 => ?_) (fun c34 => ?_)
    ·
      exact g_sub [0] rfl (hj29 μ32)
    ·
      refine s_aload_n C dX5_readInstruction_21 rfl 0 rfl ?_
      refine s_getF C (fgX5_26_10 _) g0 dX5_readInstruction_22 ?_
      refine s_iconst (v := (3 : Int32)) C dX5_readInstruction_25 (by decide) ?_
      refine s_callV C R0 (kX11_fail (xl X) 0 (by decide) (3 : Int32)) (Nat.le_trans (by decide) V) mmX11_fail miX11_fail q1073 (rc2 _) (by decide) rfl rfl rfl (Nat.le_of_ble_eq_true rfl) ⟨Nat.le_of_ble_eq_true rfl, Nat.le_of_ble_eq_true rfl, Nat.le_of_ble_eq_true rfl, Nat.le_of_ble_eq_true rfl⟩ dX5_readInstruction_26 (fun _ μ35 => ?_)
      refine g_st (st' := []) rfl ?_
      exact g_sub [0] rfl (hj29 μ35)
/-! PinEngines$Simulator.execute(LPinEngines$Instruction;LPinEngines$Engine;LPinEngines$Setup;)I -/
def fX9_execute (n0 : Nat) (n1 : Nat) (n2 : Nat) (n3 : Nat) (μ : Mem) : Option (Int32 × Mem) :=
  nm (μ.2.1 9 n1 0) fun a1 =>
  ckB a1 74 <|
  ckI (syO.getD a1 0) 74 <|
  nm ((smL.getD (syO.getD a1 0).toNatClampNeg 0)) fun x3 =>
  if x3 = (1 : Int32) then (
    jn (fun (μ5 : Mem) =>
      some ((0 : Int32), μ5)
    ) fun j89 =>
    nm (μ.2.1 9 n1 2) fun a6 =>
    ckB a6 74 <|
    bnd (fX9_holds n0 a6 n2 n3 μ) fun x9 μ8 =>
    if x9 = 0 then (
      j89 μ8
    ) else (
      nm (wI μ8 22 n0 6 (μ8.1 9 n1 5)) fun μ11 =>
      j89 μ11
    )
  ) else (
  if x3 = (2 : Int32) then (
    bnd (fX9_awaitLevel n0 n1 n3 μ) fun x14 μ13 =>
    some (x14, μ13)
  ) else (
  if x3 = (3 : Int32) then (
    bnd (fX9_shiftIn n0 n1 n2 n3 μ) fun x17 μ16 =>
    some (x17, μ16)
  ) else (
  if x3 = (4 : Int32) then (
    bnd (fX9_shiftOut n0 n1 n2 n3 μ) fun x20 μ19 =>
    some (x20, μ19)
  ) else (
  if x3 = (5 : Int32) then (
    bnd (fX9_push n0 n1 n2 n3 μ) fun x23 μ22 =>
    some (x23, μ22)
  ) else (
  if x3 = (6 : Int32) then (
    bnd (fX9_pull n0 n1 n2 n3 μ) fun x26 μ25 =>
    some (x26, μ25)
  ) else (
  if x3 = (7 : Int32) then (
    nm (μ.2.1 9 n1 2) fun a28 =>
    ckB a28 74 <|
    bnd (fX9_moved n0 n1 n2 n3 μ) fun x31 μ30 =>
    bnd (fX9_deliver n0 a28 x31 n2 n3 μ30) fun _ μ32 =>
    some ((0 : Int32), μ32)
  ) else (
  if x3 = (8 : Int32) then (
    nm (wI μ 22 n0 4 ((μ.1 22 n0 4) ||| ((1 : Int32) <<< ((μ.1 9 n1 5) &&& 31)))) fun μ34 =>
    some ((0 : Int32), μ34)
  ) else (
  if x3 = (9 : Int32) then (
    nm (wI μ 22 n0 5 ((μ.1 22 n0 5) ||| ((1 : Int32) <<< ((μ.1 9 n1 5) &&& 31)))) fun μ36 =>
    some ((0 : Int32), μ36)
  ) else (
  if x3 = (10 : Int32) then (
    bnd (fX9_signal n0 n1 n2 μ) fun x39 μ38 =>
    some (x39, μ38)
  ) else (
  if x3 = (11 : Int32) then (
    bnd (fX9_set n0 n1 n2 n3 μ) fun _ μ41 =>
    some ((0 : Int32), μ41)
  ) else (
  some ((0 : Int32), μ)
  )))))))))))
set_option maxHeartbeats 4000000 in
set_option maxRecDepth 100000 in
theorem kX9_execute (l : Launch) (n0 : Nat) (g0 : n0 < 1) (n1 : Nat) (g1 : n1 < 66) (n2 : Nat) (g2 : n2 < 52) (n3 : Nat) (g3 : n3 < 8) : Kon 0 l yX9_execute cX9_execute 4 (some .int) 4 90 0 0 (fun ad => [.ref (ad 22 n0), .ref (ad 9 n1), .ref (ad 18 n2), .ref (ad 8 n3)]) rvI (fun μ => fX9_execute n0 n1 n2 n3 μ) := by
  refine kon_of (by decide) (fun _ => Nat.le_of_ble_eq_true rfl) (fun X r0 μ hXl hXn V C E => ?_)
  have hN : ∀ i : Nat, i < 4 → i < xn X := fun i h => hXn.symm ▸ h
  have R0 := fen_rm E
  show G X r0 0 0 μ 0 [(0, .ref (xa X 22 n0)), (1, .ref (xa X 9 n1)), (2, .ref (xa X 18 n2)), (3, .ref (xa X 8 n3))] [] (fX9_execute n0 n1 n2 n3 μ)
  unfold fX9_execute
  refine s_gmap C q1541 dX9_execute_0 ?_
  refine s_aload_n C dX9_execute_3 rfl 1 rfl ?_
  refine s_getM C (fgX9_145_9 _) g1 dX9_execute_4 ?_
  refine g_nmA (fun a1 => ?_)
  refine g_ckB (fun b2 => ?_)
  refine s_ordn C R0 b2 q1542 ⟨Nat.le_of_ble_eq_true rfl, Nat.le_of_ble_eq_true rfl, Nat.le_of_ble_eq_true rfl, Nat.le_of_ble_eq_true rfl⟩ (Nat.le_of_ble_eq_true rfl) dX9_execute_7 ?_
  refine s_mapld C dX9_execute_10 ?_
  refine g_nmI (fun x3 => ?_)
  refine g_cases (v := (1 : Int32)) (fun c4 => ?_) (fun c4 => ?_)
  ·
    refine s_tin (tgt := 68) C dX9_execute_11 c4 (by decide) (by decide) rfl (by decide) ?_
    refine g_jn (P := fun j89 => ∀ (μ5 : Mem), G X r0 0 0 μ5 89 [] [] (j89 μ5)) ?_ (fun j89 hj89 => ?_)
    · intro μ5
      refine s_iconst (v := (0 : Int32)) C dX9_execute_89 (by decide) ?_
      exact s_iret C E dX9_execute_90
    refine s_aload_n C dX9_execute_68 rfl 0 rfl ?_
    refine s_aload_n C dX9_execute_69 rfl 1 rfl ?_
    refine s_getM C (fgX9_154_9 _) g1 dX9_execute_70 ?_
    refine g_nmA (fun a6 => ?_)
    refine g_ckB (fun b7 => ?_)
    refine s_aload_n C dX9_execute_73 rfl 2 rfl ?_
    refine s_aload_n C dX9_execute_74 rfl 3 rfl ?_
    refine s_callV C R0 (kX9_holds (xl X) n0 g0 a6 b7 n2 g2 n3 g3) (Nat.le_trans (by decide) V) mmX9_holds miX9_holds q1543 (rc22 _) g0 rfl rfl rfl (Nat.le_of_ble_eq_true rfl) ⟨Nat.le_of_ble_eq_true rfl, Nat.le_of_ble_eq_true rfl, Nat.le_of_ble_eq_true rfl, Nat.le_of_ble_eq_true rfl⟩ dX9_execute_75 (fun x9 μ8 => ?_)
    refine g_st (st' := [.int x9]) rfl ?_
    refine s_if_eq (tgt := 89) C dX9_execute_78 (by decide) (fun c10 => ?_) (fun c10 => ?_)
    ·
      exact g_sub [] rfl (hj89 μ8)
    ·
      refine s_aload_n C dX9_execute_81 rfl 0 rfl ?_
      refine s_aload_n C dX9_execute_82 rfl 1 rfl ?_
      refine s_getI C (fgX9_161_9 _) g1 dX9_execute_83 ?_
      refine s_putI C (fpX9_111_22 _) g0 dX9_execute_86 ?_
      refine g_nmM (fun μ11 => ?_)
      exact g_sub [] rfl (hj89 μ11)
  ·
    refine g_cases (v := (2 : Int32)) (fun c12 => ?_) (fun c12 => ?_)
    ·
      refine s_tin (tgt := 91) C dX9_execute_11 c12 (by decide) (by decide) rfl (by decide) ?_
      refine s_aload_n C dX9_execute_91 rfl 0 rfl ?_
      refine s_aload_n C dX9_execute_92 rfl 1 rfl ?_
      refine s_aload_n C dX9_execute_93 rfl 3 rfl ?_
      refine s_callV C R0 (kX9_awaitLevel (xl X) n0 g0 n1 g1 n3 g3) (Nat.le_trans (by decide) V) mmX9_awaitLevel miX9_awaitLevel q1547 (rc22 _) g0 rfl rfl rfl (Nat.le_of_ble_eq_true rfl) ⟨Nat.le_of_ble_eq_true rfl, Nat.le_of_ble_eq_true rfl, Nat.le_of_ble_eq_true rfl, Nat.le_of_ble_eq_true rfl⟩ dX9_execute_94 (fun x14 μ13 => ?_)
      refine g_st (st' := [.int x14]) rfl ?_
      exact s_iret C E dX9_execute_97
    ·
      refine g_cases (v := (3 : Int32)) (fun c15 => ?_) (fun c15 => ?_)
      ·
        refine s_tin (tgt := 98) C dX9_execute_11 c15 (by decide) (by decide) rfl (by decide) ?_
        refine s_aload_n C dX9_execute_98 rfl 0 rfl ?_
        refine s_aload_n C dX9_execute_99 rfl 1 rfl ?_
        refine s_aload_n C dX9_execute_100 rfl 2 rfl ?_
        refine s_aload_n C dX9_execute_101 rfl 3 rfl ?_
        refine s_callV C R0 (kX9_shiftIn (xl X) n0 g0 n1 g1 n2 g2 n3 g3) (Nat.le_trans (by decide) V) mmX9_shiftIn miX9_shiftIn q1552 (rc22 _) g0 rfl rfl rfl (Nat.le_of_ble_eq_true rfl) ⟨Nat.le_of_ble_eq_true rfl, Nat.le_of_ble_eq_true rfl, Nat.le_of_ble_eq_true rfl, Nat.le_of_ble_eq_true rfl⟩ dX9_execute_102 (fun x17 μ16 => ?_)
        refine g_st (st' := [.int x17]) rfl ?_
        exact s_iret C E dX9_execute_105
      ·
        refine g_cases (v := (4 : Int32)) (fun c18 => ?_) (fun c18 => ?_)
        ·
          refine s_tin (tgt := 106) C dX9_execute_11 c18 (by decide) (by decide) rfl (by decide) ?_
          refine s_aload_n C dX9_execute_106 rfl 0 rfl ?_
          refine s_aload_n C dX9_execute_107 rfl 1 rfl ?_
          refine s_aload_n C dX9_execute_108 rfl 2 rfl ?_
          refine s_aload_n C dX9_execute_109 rfl 3 rfl ?_
          refine s_callV C R0 (kX9_shiftOut (xl X) n0 g0 n1 g1 n2 g2 n3 g3) (Nat.le_trans (by decide) V) mmX9_shiftOut miX9_shiftOut q1573 (rc22 _) g0 rfl rfl rfl (Nat.le_of_ble_eq_true rfl) ⟨Nat.le_of_ble_eq_true rfl, Nat.le_of_ble_eq_true rfl, Nat.le_of_ble_eq_true rfl, Nat.le_of_ble_eq_true rfl⟩ dX9_execute_110 (fun x20 μ19 => ?_)
          refine g_st (st' := [.int x20]) rfl ?_
          exact s_iret C E dX9_execute_113
        ·
          refine g_cases (v := (5 : Int32)) (fun c21 => ?_) (fun c21 => ?_)
          ·
            refine s_tin (tgt := 114) C dX9_execute_11 c21 (by decide) (by decide) rfl (by decide) ?_
            refine s_aload_n C dX9_execute_114 rfl 0 rfl ?_
            refine s_aload_n C dX9_execute_115 rfl 1 rfl ?_
            refine s_aload_n C dX9_execute_116 rfl 2 rfl ?_
            refine s_aload_n C dX9_execute_117 rfl 3 rfl ?_
            refine s_callV C R0 (kX9_push (xl X) n0 g0 n1 g1 n2 g2 n3 g3) (Nat.le_trans (by decide) V) mmX9_push miX9_push q1602 (rc22 _) g0 rfl rfl rfl (Nat.le_of_ble_eq_true rfl) ⟨Nat.le_of_ble_eq_true rfl, Nat.le_of_ble_eq_true rfl, Nat.le_of_ble_eq_true rfl, Nat.le_of_ble_eq_true rfl⟩ dX9_execute_118 (fun x23 μ22 => ?_)
            refine g_st (st' := [.int x23]) rfl ?_
            exact s_iret C E dX9_execute_121
          ·
            refine g_cases (v := (6 : Int32)) (fun c24 => ?_) (fun c24 => ?_)
            ·
              refine s_tin (tgt := 122) C dX9_execute_11 c24 (by decide) (by decide) rfl (by decide) ?_
              refine s_aload_n C dX9_execute_122 rfl 0 rfl ?_
              refine s_aload_n C dX9_execute_123 rfl 1 rfl ?_
              refine s_aload_n C dX9_execute_124 rfl 2 rfl ?_
              refine s_aload_n C dX9_execute_125 rfl 3 rfl ?_
              refine s_callV C R0 (kX9_pull (xl X) n0 g0 n1 g1 n2 g2 n3 g3) (Nat.le_trans (by decide) V) mmX9_pull miX9_pull q1608 (rc22 _) g0 rfl rfl rfl (Nat.le_of_ble_eq_true rfl) ⟨Nat.le_of_ble_eq_true rfl, Nat.le_of_ble_eq_true rfl, Nat.le_of_ble_eq_true rfl, Nat.le_of_ble_eq_true rfl⟩ dX9_execute_126 (fun x26 μ25 => ?_)
              refine g_st (st' := [.int x26]) rfl ?_
              exact s_iret C E dX9_execute_129
            ·
              refine g_cases (v := (7 : Int32)) (fun c27 => ?_) (fun c27 => ?_)
              ·
                refine s_tin (tgt := 130) C dX9_execute_11 c27 (by decide) (by decide) rfl (by decide) ?_
                refine s_aload_n C dX9_execute_130 rfl 0 rfl ?_
                refine s_aload_n C dX9_execute_131 rfl 1 rfl ?_
                refine s_getM C (fgX9_154_9 _) g1 dX9_execute_132 ?_
                refine g_nmA (fun a28 => ?_)
                refine g_ckB (fun b29 => ?_)
                refine s_aload_n C dX9_execute_135 rfl 0 rfl ?_
                refine s_aload_n C dX9_execute_136 rfl 1 rfl ?_
                refine s_aload_n C dX9_execute_137 rfl 2 rfl ?_
                refine s_aload_n C dX9_execute_138 rfl 3 rfl ?_
                refine s_callV C R0 (kX9_moved (xl X) n0 g0 n1 g1 n2 g2 n3 g3) (Nat.le_trans (by decide) V) mmX9_moved miX9_moved q1613 (rc22 _) g0 rfl rfl rfl (Nat.le_of_ble_eq_true rfl) ⟨Nat.le_of_ble_eq_true rfl, Nat.le_of_ble_eq_true rfl, Nat.le_of_ble_eq_true rfl, Nat.le_of_ble_eq_true rfl⟩ dX9_execute_139 (fun x31 μ30 => ?_)
                refine g_st (st' := [.int x31, .ref (xa X 50 a28), .ref (xa X 22 n0)]) rfl ?_
                refine s_aload_n C dX9_execute_142 rfl 2 rfl ?_
                refine s_aload_n C dX9_execute_143 rfl 3 rfl ?_
                refine s_callV C R0 (kX9_deliver (xl X) n0 g0 a28 b29 x31 n2 g2 n3 g3) (Nat.le_trans (by decide) V) mmX9_deliver miX9_deliver q1583 (rc22 _) g0 rfl rfl rfl (Nat.le_of_ble_eq_true rfl) ⟨Nat.le_of_ble_eq_true rfl, Nat.le_of_ble_eq_true rfl, Nat.le_of_ble_eq_true rfl, Nat.le_of_ble_eq_true rfl⟩ dX9_execute_144 (fun _ μ32 => ?_)
                refine g_st (st' := []) rfl ?_
                refine s_iconst (v := (0 : Int32)) C dX9_execute_147 (by decide) ?_
                exact s_iret C E dX9_execute_148
              ·
                refine g_cases (v := (8 : Int32)) (fun c33 => ?_) (fun c33 => ?_)
                ·
                  refine s_tin (tgt := 149) C dX9_execute_11 c33 (by decide) (by decide) rfl (by decide) ?_
                  refine s_aload_n C dX9_execute_149 rfl 0 rfl ?_
                  refine s_dup C dX9_execute_150 rfl ?_
                  refine s_getI C (fgX9_35_22 _) g0 dX9_execute_151 ?_
                  refine s_iconst (v := (1 : Int32)) C dX9_execute_154 (by decide) ?_
                  refine s_aload_n C dX9_execute_155 rfl 1 rfl ?_
                  refine s_getI C (fgX9_161_9 _) g1 dX9_execute_156 ?_
                  refine s_ishl C dX9_execute_159 ?_
                  refine s_ior C dX9_execute_160 ?_
                  refine s_putI C (fpX9_35_22 _) g0 dX9_execute_161 ?_
                  refine g_nmM (fun μ34 => ?_)
                  refine s_iconst (v := (0 : Int32)) C dX9_execute_164 (by decide) ?_
                  exact s_iret C E dX9_execute_165
                ·
                  refine g_cases (v := (9 : Int32)) (fun c35 => ?_) (fun c35 => ?_)
                  ·
                    refine s_tin (tgt := 166) C dX9_execute_11 c35 (by decide) (by decide) rfl (by decide) ?_
                    refine s_aload_n C dX9_execute_166 rfl 0 rfl ?_
                    refine s_dup C dX9_execute_167 rfl ?_
                    refine s_getI C (fgX9_38_22 _) g0 dX9_execute_168 ?_
                    refine s_iconst (v := (1 : Int32)) C dX9_execute_171 (by decide) ?_
                    refine s_aload_n C dX9_execute_172 rfl 1 rfl ?_
                    refine s_getI C (fgX9_161_9 _) g1 dX9_execute_173 ?_
                    refine s_ishl C dX9_execute_176 ?_
                    refine s_ior C dX9_execute_177 ?_
                    refine s_putI C (fpX9_38_22 _) g0 dX9_execute_178 ?_
                    refine g_nmM (fun μ36 => ?_)
                    refine s_iconst (v := (0 : Int32)) C dX9_execute_181 (by decide) ?_
                    exact s_iret C E dX9_execute_182
                  ·
                    refine g_cases (v := (10 : Int32)) (fun c37 => ?_) (fun c37 => ?_)
                    ·
                      refine s_tin (tgt := 183) C dX9_execute_11 c37 (by decide) (by decide) rfl (by decide) ?_
                      refine s_aload_n C dX9_execute_183 rfl 0 rfl ?_
                      refine s_aload_n C dX9_execute_184 rfl 1 rfl ?_
                      refine s_aload_n C dX9_execute_185 rfl 2 rfl ?_
                      refine s_callV C R0 (kX9_signal (xl X) n0 g0 n1 g1 n2 g2) (Nat.le_trans (by decide) V) mmX9_signal miX9_signal q1631 (rc22 _) g0 rfl rfl rfl (Nat.le_of_ble_eq_true rfl) ⟨Nat.le_of_ble_eq_true rfl, Nat.le_of_ble_eq_true rfl, Nat.le_of_ble_eq_true rfl, Nat.le_of_ble_eq_true rfl⟩ dX9_execute_186 (fun x39 μ38 => ?_)
                      refine g_st (st' := [.int x39]) rfl ?_
                      exact s_iret C E dX9_execute_189
                    ·
                      refine g_cases (v := (11 : Int32)) (fun c40 => ?_) (fun c40 => ?_)
                      ·
                        refine s_tin (tgt := 190) C dX9_execute_11 c40 (by decide) (by decide) rfl (by decide) ?_
                        refine s_aload_n C dX9_execute_190 rfl 0 rfl ?_
                        refine s_aload_n C dX9_execute_191 rfl 1 rfl ?_
                        refine s_aload_n C dX9_execute_192 rfl 2 rfl ?_
                        refine s_aload_n C dX9_execute_193 rfl 3 rfl ?_
                        refine s_callV C R0 (kX9_set (xl X) n0 g0 n1 g1 n2 g2 n3 g3) (Nat.le_trans (by decide) V) mmX9_set miX9_set q1635 (rc22 _) g0 rfl rfl rfl (Nat.le_of_ble_eq_true rfl) ⟨Nat.le_of_ble_eq_true rfl, Nat.le_of_ble_eq_true rfl, Nat.le_of_ble_eq_true rfl, Nat.le_of_ble_eq_true rfl⟩ dX9_execute_194 (fun _ μ41 => ?_)
                        refine g_st (st' := []) rfl ?_
                        refine s_iconst (v := (0 : Int32)) C dX9_execute_197 (by decide) ?_
                        exact s_iret C E dX9_execute_198
                      ·
                        refine s_tout (tgt := 199) C dX9_execute_11 (by have := ine (i := 1) (by decide) c4; have := ine (i := 2) (by decide) c12; have := ine (i := 3) (by decide) c15; have := ine (i := 4) (by decide) c18; have := ine (i := 5) (by decide) c21; have := ine (i := 6) (by decide) c24; have := ine (i := 7) (by decide) c27; have := ine (i := 8) (by decide) c33; have := ine (i := 9) (by decide) c35; have := ine (i := 10) (by decide) c37; have := ine (i := 11) (by decide) c40; omega) (by decide) ?_
                        refine s_iconst (v := (0 : Int32)) C dX9_execute_199 (by decide) ?_
                        exact s_iret C E dX9_execute_200
/-! PinEnginesModel.tick(I)V -/
def fX13_tick (fu : Nat) (n0 : Nat) (p1 : Int32) (μ : Mem) : Option (Unit × Mem) :=
  bnd (fX13_of n0 p1 (8 : Int32) μ) fun x2 μ1 =>
  if x2 ≤ 0 then (
    jn (fun (μ4 : Mem) =>
      jn (fun (μ5 : Mem) (x6 : Int32) (x7 : Int32) (a8 : Nat) (x10 : Int32) (x11 : Int32) =>
        jn (fun (μ12 : Mem) =>
          some ((), μ12)
        ) fun j125 =>
        bnd (fX13_note a8 x10 x11 μ5) fun _ μ13 =>
        if ¬ x7 = 0 then (
          j125 μ13
        ) else (
          jn (fun (μ15 : Mem) (a16 : Nat) (x18 : Int32) (x19 : Int32) (x20 : Int32) =>
            bnd (fX13_set a16 x18 x19 x20 μ15) fun _ μ21 =>
            j125 μ21
          ) fun j122 =>
          bnd (fX13_set n0 p1 (8 : Int32) x6 μ13) fun _ μ22 =>
          if (μ22.1 26 n0 19) = (-1 : Int32) then (
            bnd (fX13_nextAddress n0 p1 μ22) fun x25 μ24 =>
            j122 μ24 n0 p1 (1 : Int32) x25
          ) else (
            j122 μ22 n0 p1 (1 : Int32) (μ22.1 26 n0 19)
          )
        )
      ) fun j84 =>
      nm (wI μ4 26 n0 19 (-1 : Int32)) fun μ26 =>
      bnd (fX13_codeOf n0 p1 (5 : Int32) μ26) fun x28 μ27 =>
      bnd (fX13_execute fu n0 p1 μ27) fun x30 μ29 =>
      bnd (fX13_set n0 p1 (9 : Int32) x30 μ29) fun _ μ31 =>
      if ¬ x30 = 0 then (
        j84 μ31 x28 x30 n0 p1 (1 : Int32)
      ) else (
        j84 μ31 x28 x30 n0 p1 (0 : Int32)
      )
    ) fun j47 =>
    bnd (fX13_of n0 p1 (9 : Int32) μ1) fun x34 μ33 =>
    if ¬ x34 = 0 then (
      j47 μ33
    ) else (
      bnd (fX13_codeOf n0 p1 (4 : Int32) μ33) fun x37 μ36 =>
      ckI p1 (mil.getD 6 0) <|
      nm (wI μ36 28 6 p1.toNatClampNeg x37) fun μ38 =>
      j47 μ38
    )
  ) else (
    bnd (fX13_add n0 p1 (8 : Int32) (-1 : Int32) μ1) fun _ μ39 =>
    bnd (fX13_note n0 p1 (2 : Int32) μ39) fun _ μ40 =>
    some ((), μ40)
  )
set_option maxHeartbeats 4000000 in
set_option maxRecDepth 100000 in
theorem kX13_tick (l : Launch) (fu : Nat) (n0 : Nat) (g0 : n0 < 1) (p1 : Int32) : Kon 1 l yX13_tick cX13_tick 4 (none) 5 119 0 0 (fun ad => [.ref (ad 26 n0), .int p1]) rvV (fun μ => fX13_tick fu n0 p1 μ) := by
  refine kon_of (by decide) (fun _ => Nat.le_of_ble_eq_true rfl) (fun X r0 μ hXl hXn V C E => ?_)
  have hN : ∀ i : Nat, i < 4 → i < xn X := fun i h => hXn.symm ▸ h
  have R0 := fen_rm E
  show G X r0 0 0 μ 0 [(0, .ref (xa X 26 n0)), (1, .int p1)] [] (fX13_tick fu n0 p1 μ)
  unfold fX13_tick
  refine s_aload_n C dX13_tick_0 rfl 0 rfl ?_
  refine s_iload_n C dX13_tick_1 rfl 1 rfl ?_
  refine s_bipush (v := (8 : Int32)) C dX13_tick_2 (by decide) ?_
  refine s_callV C R0 (kX13_of (xl X) n0 g0 p1 (8 : Int32)) (Nat.le_trans (by decide) V) mmX13_of miX13_of q2307 (rc26 (Nat.le_trans (by decide) V)) g0 rfl rfl rfl (Nat.le_of_ble_eq_true rfl) ⟨Nat.le_of_ble_eq_true rfl, Nat.le_of_ble_eq_true rfl, Nat.le_of_ble_eq_true rfl, Nat.le_of_ble_eq_true rfl⟩ dX13_tick_4 (fun x2 μ1 => ?_)
  refine g_st (st' := [.int x2]) rfl ?_
  refine s_if_le (tgt := 25) C dX13_tick_7 (by decide) (fun c3 => ?_) (fun c3 => ?_)
  ·
    refine g_jn (P := fun j47 => ∀ (μ4 : Mem), G X r0 0 0 μ4 47 [(0, .ref (xa X 26 n0)), (1, .int p1)] [] (j47 μ4)) ?_ (fun j47 hj47 => ?_)
    · intro μ4
      refine g_jn (P := fun j84 => ∀ (μ5 : Mem) (x6 : Int32) (x7 : Int32) (a8 : Nat) (x10 : Int32) (x11 : Int32), a8 < 1 → G X r0 0 0 μ5 84 [(0, .ref (xa X 26 n0)), (1, .int p1), (2, .int x6), (3, .int x7)] [.int x11, .int x10, .ref (xa X 26 a8)] (j84 μ5 x6 x7 a8 x10 x11)) ?_ (fun j84 hj84 => ?_)
      · intro μ5 x6 x7 a8 x10 x11 b9
        refine g_jn (P := fun j125 => ∀ (μ12 : Mem), G X r0 0 0 μ12 125 [] [] (j125 μ12)) ?_ (fun j125 hj125 => ?_)
        · intro μ12
          exact s_vret C E dX13_tick_125
        refine s_callV C R0 (kX13_note (xl X) a8 b9 x10 x11) (Nat.le_trans (by decide) V) mmX13_note miX13_note q2473 (rc26 (Nat.le_trans (by decide) V)) b9 rfl rfl rfl (Nat.le_of_ble_eq_true rfl) ⟨Nat.le_of_ble_eq_true rfl, Nat.le_of_ble_eq_true rfl, Nat.le_of_ble_eq_true rfl, Nat.le_of_ble_eq_true rfl⟩ dX13_tick_84 (fun _ μ13 => ?_)
        refine g_st (st' := []) rfl ?_
        refine s_iload_n C dX13_tick_87 rfl 3 rfl ?_
        refine s_if_ne (tgt := 125) C dX13_tick_88 (by decide) (fun c14 => ?_) (fun c14 => ?_)
        ·
          exact g_sub [] rfl (hj125 μ13)
        ·
          refine g_jn (P := fun j122 => ∀ (μ15 : Mem) (a16 : Nat) (x18 : Int32) (x19 : Int32) (x20 : Int32), a16 < 1 → G X r0 0 0 μ15 122 [] [.int x20, .int x19, .int x18, .ref (xa X 26 a16)] (j122 μ15 a16 x18 x19 x20)) ?_ (fun j122 hj122 => ?_)
          · intro μ15 a16 x18 x19 x20 b17
            refine s_callV C R0 (kX13_set (xl X) a16 b17 x18 x19 x20) (Nat.le_trans (by decide) V) mmX13_set miX13_set q2383 (rc26 (Nat.le_trans (by decide) V)) b17 rfl rfl rfl (Nat.le_of_ble_eq_true rfl) ⟨Nat.le_of_ble_eq_true rfl, Nat.le_of_ble_eq_true rfl, Nat.le_of_ble_eq_true rfl, Nat.le_of_ble_eq_true rfl⟩ dX13_tick_122 (fun _ μ21 => ?_)
            refine g_st (st' := []) rfl ?_
            exact g_sub [] rfl (hj125 μ21)
          refine s_aload_n C dX13_tick_91 rfl 0 rfl ?_
          refine s_iload_n C dX13_tick_92 rfl 1 rfl ?_
          refine s_bipush (v := (8 : Int32)) C dX13_tick_93 (by decide) ?_
          refine s_iload_n C dX13_tick_95 rfl 2 rfl ?_
          refine s_callV C R0 (kX13_set (xl X) n0 g0 p1 (8 : Int32) x6) (Nat.le_trans (by decide) V) mmX13_set miX13_set q2383 (rc26 (Nat.le_trans (by decide) V)) g0 rfl rfl rfl (Nat.le_of_ble_eq_true rfl) ⟨Nat.le_of_ble_eq_true rfl, Nat.le_of_ble_eq_true rfl, Nat.le_of_ble_eq_true rfl, Nat.le_of_ble_eq_true rfl⟩ dX13_tick_96 (fun _ μ22 => ?_)
          refine g_st (st' := []) rfl ?_
          refine s_aload_n C dX13_tick_99 rfl 0 rfl ?_
          refine s_iload_n C dX13_tick_100 rfl 1 rfl ?_
          refine s_iconst (v := (1 : Int32)) C dX13_tick_101 (by decide) ?_
          refine s_aload_n C dX13_tick_102 rfl 0 rfl ?_
          refine s_getI C (fgX13_332_26 (Nat.le_trans (by decide) V)) g0 dX13_tick_103 ?_
          refine s_iconst (v := (-1 : Int32)) C dX13_tick_106 (by decide) ?_
          refine s_icmp_eq (tgt := 117) C dX13_tick_107 (by decide) (fun c23 => ?_) (fun c23 => ?_)
          ·
            refine s_aload_n C dX13_tick_117 rfl 0 rfl ?_
            refine s_iload_n C dX13_tick_118 rfl 1 rfl ?_
            refine s_callV C R0 (kX13_nextAddress (xl X) n0 g0 p1) (Nat.le_trans (by decide) V) mmX13_nextAddress miX13_nextAddress q2564 (rc26 (Nat.le_trans (by decide) V)) g0 rfl rfl rfl (Nat.le_of_ble_eq_true rfl) ⟨Nat.le_of_ble_eq_true rfl, Nat.le_of_ble_eq_true rfl, Nat.le_of_ble_eq_true rfl, Nat.le_of_ble_eq_true rfl⟩ dX13_tick_119 (fun x25 μ24 => ?_)
            refine g_st (st' := [.int x25, .int (1 : Int32), .int p1, .ref (xa X 26 n0)]) rfl ?_
            exact g_sub [] rfl (hj122 μ24 n0 p1 (1 : Int32) x25 g0)
          ·
            refine s_aload_n C dX13_tick_110 rfl 0 rfl ?_
            refine s_getI C (fgX13_332_26 (Nat.le_trans (by decide) V)) g0 dX13_tick_111 ?_
            refine s_goto (tgt := 122) C dX13_tick_114 (by decide) ?_
            exact g_sub [] rfl (hj122 μ22 n0 p1 (1 : Int32) (μ22.1 26 n0 19) g0)
      refine s_aload_n C dX13_tick_47 rfl 0 rfl ?_
      refine s_iconst (v := (-1 : Int32)) C dX13_tick_48 (by decide) ?_
      refine s_putI C (fpX13_332_26 (Nat.le_trans (by decide) V)) g0 dX13_tick_49 ?_
      refine g_nmM (fun μ26 => ?_)
      refine s_aload_n C dX13_tick_52 rfl 0 rfl ?_
      refine s_iload_n C dX13_tick_53 rfl 1 rfl ?_
      refine s_iconst (v := (5 : Int32)) C dX13_tick_54 (by decide) ?_
      refine s_callV C R0 (kX13_codeOf (xl X) n0 g0 p1 (5 : Int32)) (Nat.le_trans (by decide) V) mmX13_codeOf miX13_codeOf q2461 (rc26 (Nat.le_trans (by decide) V)) g0 rfl rfl rfl (Nat.le_of_ble_eq_true rfl) ⟨Nat.le_of_ble_eq_true rfl, Nat.le_of_ble_eq_true rfl, Nat.le_of_ble_eq_true rfl, Nat.le_of_ble_eq_true rfl⟩ dX13_tick_55 (fun x28 μ27 => ?_)
      refine g_st (st' := [.int x28]) rfl ?_
      refine s_istore_n (L' := [(2, .int x28), (0, .ref (xa X 26 n0)), (1, .int p1)]) C dX13_tick_58 rfl (hN 2 (by decide)) rfl ?_
      refine s_aload_n C dX13_tick_59 rfl 1 rfl ?_
      refine s_iload_n C dX13_tick_60 rfl 2 rfl ?_
      refine s_callV C R0 (kX13_execute (xl X) fu n0 g0 p1) (Nat.le_trans (by decide) V) mmX13_execute miX13_execute q2477 (rc26 (Nat.le_trans (by decide) V)) g0 rfl rfl rfl (Nat.le_of_ble_eq_true rfl) ⟨Nat.le_of_ble_eq_true rfl, Nat.le_of_ble_eq_true rfl, Nat.le_of_ble_eq_true rfl, Nat.le_of_ble_eq_true rfl⟩ dX13_tick_61 (fun x30 μ29 => ?_)
      refine g_st (st' := [.int x30]) rfl ?_
      refine s_istore_n (L' := [(3, .int x30), (2, .int x28), (0, .ref (xa X 26 n0)), (1, .int p1)]) C dX13_tick_64 rfl (hN 3 (by decide)) rfl ?_
      refine s_aload_n C dX13_tick_65 rfl 2 rfl ?_
      refine s_iload_n C dX13_tick_66 rfl 3 rfl ?_
      refine s_bipush (v := (9 : Int32)) C dX13_tick_67 (by decide) ?_
      refine s_iload_n C dX13_tick_69 rfl 0 rfl ?_
      refine s_callV C R0 (kX13_set (xl X) n0 g0 p1 (9 : Int32) x30) (Nat.le_trans (by decide) V) mmX13_set miX13_set q2383 (rc26 (Nat.le_trans (by decide) V)) g0 rfl rfl rfl (Nat.le_of_ble_eq_true rfl) ⟨Nat.le_of_ble_eq_true rfl, Nat.le_of_ble_eq_true rfl, Nat.le_of_ble_eq_true rfl, Nat.le_of_ble_eq_true rfl⟩ dX13_tick_70 (fun _ μ31 => ?_)
      refine g_st (st' := []) rfl ?_
      refine s_aload_n C dX13_tick_73 rfl 2 rfl ?_
      refine s_iload_n C dX13_tick_74 rfl 3 rfl ?_
      refine s_iload_n C dX13_tick_75 rfl 0 rfl ?_
      refine s_if_ne (tgt := 83) C dX13_tick_76 (by decide) (fun c32 => ?_) (fun c32 => ?_)
      ·
        refine s_iconst (v := (1 : Int32)) C dX13_tick_83 (by decide) ?_
        exact g_sub [2, 3, 1, 0] rfl (hj84 μ31 x28 x30 n0 p1 (1 : Int32) g0)
      ·
        refine s_iconst (v := (0 : Int32)) C dX13_tick_79 (by decide) ?_
        refine s_goto (tgt := 84) C dX13_tick_80 (by decide) ?_
        exact g_sub [2, 3, 1, 0] rfl (hj84 μ31 x28 x30 n0 p1 (0 : Int32) g0)
    refine s_aload_n C dX13_tick_25 rfl 0 rfl ?_
    refine s_iload_n C dX13_tick_26 rfl 1 rfl ?_
    refine s_bipush (v := (9 : Int32)) C dX13_tick_27 (by decide) ?_
    refine s_callV C R0 (kX13_of (xl X) n0 g0 p1 (9 : Int32)) (Nat.le_trans (by decide) V) mmX13_of miX13_of q2307 (rc26 (Nat.le_trans (by decide) V)) g0 rfl rfl rfl (Nat.le_of_ble_eq_true rfl) ⟨Nat.le_of_ble_eq_true rfl, Nat.le_of_ble_eq_true rfl, Nat.le_of_ble_eq_true rfl, Nat.le_of_ble_eq_true rfl⟩ dX13_tick_29 (fun x34 μ33 => ?_)
    refine g_st (st' := [.int x34]) rfl ?_
    refine s_if_ne (tgt := 47) C dX13_tick_32 (by decide) (fun c35 => ?_) (fun c35 => ?_)
    ·
      exact g_sub [0, 1] rfl (hj47 μ33)
    ·
      refine s_aload_n C dX13_tick_35 rfl 0 rfl ?_
      refine s_getF C (fgX13_47_26 (Nat.le_trans (by decide) V)) g0 dX13_tick_36 ?_
      refine s_iload_n C dX13_tick_39 rfl 1 rfl ?_
      refine s_aload_n C dX13_tick_40 rfl 0 rfl ?_
      refine s_iload_n C dX13_tick_41 rfl 1 rfl ?_
      refine s_iconst (v := (4 : Int32)) C dX13_tick_42 (by decide) ?_
      refine s_callV C R0 (kX13_codeOf (xl X) n0 g0 p1 (4 : Int32)) (Nat.le_trans (by decide) V) mmX13_codeOf miX13_codeOf q2461 (rc26 (Nat.le_trans (by decide) V)) g0 rfl rfl rfl (Nat.le_of_ble_eq_true rfl) ⟨Nat.le_of_ble_eq_true rfl, Nat.le_of_ble_eq_true rfl, Nat.le_of_ble_eq_true rfl, Nat.le_of_ble_eq_true rfl⟩ dX13_tick_43 (fun x37 μ36 => ?_)
      refine g_st (st' := [.int x37, .int p1, .ref (xa X 28 6)]) rfl ?_
      refine s_iast C (ag28 (Nat.le_trans (by decide) V)) (by decide) dX13_tick_46 ?_
      refine g_nmM (fun μ38 => ?_)
      exact g_sub [0, 1] rfl (hj47 μ38)
  ·
    refine s_aload_n C dX13_tick_10 rfl 0 rfl ?_
    refine s_iload_n C dX13_tick_11 rfl 1 rfl ?_
    refine s_bipush (v := (8 : Int32)) C dX13_tick_12 (by decide) ?_
    refine s_iconst (v := (-1 : Int32)) C dX13_tick_14 (by decide) ?_
    refine s_callV C R0 (kX13_add (xl X) n0 g0 p1 (8 : Int32) (-1 : Int32)) (Nat.le_trans (by decide) V) mmX13_add miX13_add q2387 (rc26 (Nat.le_trans (by decide) V)) g0 rfl rfl rfl (Nat.le_of_ble_eq_true rfl) ⟨Nat.le_of_ble_eq_true rfl, Nat.le_of_ble_eq_true rfl, Nat.le_of_ble_eq_true rfl, Nat.le_of_ble_eq_true rfl⟩ dX13_tick_15 (fun _ μ39 => ?_)
    refine g_st (st' := []) rfl ?_
    refine s_aload_n C dX13_tick_18 rfl 0 rfl ?_
    refine s_iload_n C dX13_tick_19 rfl 1 rfl ?_
    refine s_iconst (v := (2 : Int32)) C dX13_tick_20 (by decide) ?_
    refine s_callV C R0 (kX13_note (xl X) n0 g0 p1 (2 : Int32)) (Nat.le_trans (by decide) V) mmX13_note miX13_note q2473 (rc26 (Nat.le_trans (by decide) V)) g0 rfl rfl rfl (Nat.le_of_ble_eq_true rfl) ⟨Nat.le_of_ble_eq_true rfl, Nat.le_of_ble_eq_true rfl, Nat.le_of_ble_eq_true rfl, Nat.le_of_ble_eq_true rfl⟩ dX13_tick_21 (fun _ μ40 => ?_)
    refine g_st (st' := []) rfl ?_
    exact s_vret C E dX13_tick_24
/-! PinEngines$ProgramReader.readClauses()V -/
def fX5_readClauses (fu : Nat) (n0 : Nat) (μ : Mem) : Option (Unit × Mem) :=
  jn (lp (fun _ _ => none) fu (fun j16 (μ1 : Mem) (x2 : Int32) =>
    jn (fun (μ3 : Mem) =>
      some ((), μ3)
    ) fun j100 =>
    if (1000 : Int32) ≤ x2 then (
      j100 μ1
    ) else (
      bnd (fX11_at 0 1 μ1) fun x6 μ5 =>
      if ¬ x6 = 0 then (
        j100 μ5
      ) else (
        jn (fun (μ8 : Mem) (x9 : Int32) =>
          bnd (fX11_expect 0 6 μ8) fun _ μ10 =>
          nm (x9 + (1 : Int32)) fun x11 =>
          j16 μ10 x11
        ) fun j84 =>
        bnd (fX11_skip 0 12 μ5) fun x13 μ12 =>
        if x13 = 0 then (
          bnd (fX11_skip 0 14 μ12) fun x16 μ15 =>
          if x16 = 0 then (
            bnd (fX5_readLabel fu n0 μ15) fun _ μ18 =>
            bnd (fX5_readInstruction fu n0 μ18) fun _ μ19 =>
            j84 μ19 x2
          ) else (
            bnd (fX5_readLevel n0 μ15) fun _ μ20 =>
            j84 μ20 x2
          )
        ) else (
          bnd (fX5_readEngine fu n0 μ12) fun _ μ21 =>
          j84 μ21 x2
        )
      )
    )
  )) fun j16 =>
  nm (μ.2.1 10 n0 1) fun a22 =>
  ckB a22 2 <|
  bnd (fX4_clear fu a22 μ) fun _ μ24 =>
  bnd (fX11_rewind 0 μ24) fun _ μ25 =>
  j16 μ25 (0 : Int32)
set_option maxHeartbeats 4000000 in
set_option maxRecDepth 100000 in
theorem kX5_readClauses (l : Launch) (fu : Nat) (n0 : Nat) (g0 : n0 < 1) : Kon 0 l yX5_readClauses cX5_readClauses 2 (none) 5 114 0 0 (fun ad => [.ref (ad 10 n0)]) rvV (fun μ => fX5_readClauses fu n0 μ) := by
  refine kon_of (by decide) (fun _ => Nat.le_of_ble_eq_true rfl) (fun X r0 μ hXl hXn V C E => ?_)
  have hN : ∀ i : Nat, i < 2 → i < xn X := fun i h => hXn.symm ▸ h
  have R0 := fen_rm E
  show G X r0 0 0 μ 0 [(0, .ref (xa X 10 n0))] [] (fX5_readClauses fu n0 μ)
  unfold fX5_readClauses
  refine g_jl (P := fun j16 => ∀ (μ1 : Mem) (x2 : Int32), G X r0 0 0 μ1 16 [(0, .ref (xa X 10 n0)), (1, .int x2)] [] (j16 μ1 x2)) (fun _ _ => g_none) (fun j16 hj16 => ?_) (fun j16 hj16 => ?_)
  · intro μ1 x2
    refine g_jn (P := fun j100 => ∀ (μ3 : Mem), G X r0 0 0 μ3 100 [] [] (j100 μ3)) ?_ (fun j100 hj100 => ?_)
    · intro μ3
      exact s_vret C E dX5_readClauses_100
    refine s_iload_n C dX5_readClauses_16 rfl 1 rfl ?_
    refine s_sipush (v := (1000 : Int32)) C dX5_readClauses_17 (by decide) ?_
    refine s_icmp_ge (tgt := 100) C dX5_readClauses_20 (by decide) (fun c4 => ?_) (fun c4 => ?_)
    ·
      exact g_sub [] rfl (hj100 μ1)
    ·
      refine s_aload_n C dX5_readClauses_23 rfl 0 rfl ?_
      refine s_getF C (fgX5_26_10 _) g0 dX5_readClauses_24 ?_
      refine s_gsym (i := 1) C (by decide) rfl q1045 dX5_readClauses_27 ?_
      refine s_callV C R0 (kX11_at (xl X) 0 (by decide) 1 (by decide)) (Nat.le_trans (by decide) V) mmX11_at miX11_at q1046 (rc2 _) (by decide) rfl rfl rfl (Nat.le_of_ble_eq_true rfl) ⟨Nat.le_of_ble_eq_true rfl, Nat.le_of_ble_eq_true rfl, Nat.le_of_ble_eq_true rfl, Nat.le_of_ble_eq_true rfl⟩ dX5_readClauses_30 (fun x6 μ5 => ?_)
      refine g_st (st' := [.int x6]) rfl ?_
      refine s_if_ne (tgt := 100) C dX5_readClauses_33 (by decide) (fun c7 => ?_) (fun c7 => ?_)
      ·
        exact g_sub [] rfl (hj100 μ5)
      ·
        refine g_jn (P := fun j84 => ∀ (μ8 : Mem) (x9 : Int32), G X r0 0 0 μ8 84 [(0, .ref (xa X 10 n0)), (1, .int x9)] [] (j84 μ8 x9)) ?_ (fun j84 hj84 => ?_)
        · intro μ8 x9
          refine s_aload_n C dX5_readClauses_84 rfl 0 rfl ?_
          refine s_getF C (fgX5_26_10 _) g0 dX5_readClauses_85 ?_
          refine s_gsym (i := 6) C (by decide) rfl q1207 dX5_readClauses_88 ?_
          refine s_callV C R0 (kX11_expect (xl X) 0 (by decide) 6 (by decide)) (Nat.le_trans (by decide) V) mmX11_expect miX11_expect q1084 (rc2 _) (by decide) rfl rfl rfl (Nat.le_of_ble_eq_true rfl) ⟨Nat.le_of_ble_eq_true rfl, Nat.le_of_ble_eq_true rfl, Nat.le_of_ble_eq_true rfl, Nat.le_of_ble_eq_true rfl⟩ dX5_readClauses_91 (fun _ μ10 => ?_)
          refine g_st (st' := []) rfl ?_
          refine g_nmQ (fun x11 ex11 => ?_)
          refine s_iinc (v := x11) (j := 1) (L' := [(1, .int x11), (0, .ref (xa X 10 n0))]) C dX5_readClauses_94 rfl (by rw [ex11]; rfl) (hN 1 (by decide)) rfl ?_
          refine s_goto (tgt := 16) C dX5_readClauses_97 (by decide) ?_
          exact g_sub [1, 0] rfl (hj16 μ10 x11)
        refine s_aload_n C dX5_readClauses_36 rfl 0 rfl ?_
        refine s_getF C (fgX5_26_10 _) g0 dX5_readClauses_37 ?_
        refine s_gsym (i := 12) C (by decide) rfl q1050 dX5_readClauses_40 ?_
        refine s_callV C R0 (kX11_skip (xl X) 0 (by decide) 12 (by decide)) (Nat.le_trans (by decide) V) mmX11_skip miX11_skip q1052 (rc2 _) (by decide) rfl rfl rfl (Nat.le_of_ble_eq_true rfl) ⟨Nat.le_of_ble_eq_true rfl, Nat.le_of_ble_eq_true rfl, Nat.le_of_ble_eq_true rfl, Nat.le_of_ble_eq_true rfl⟩ dX5_readClauses_43 (fun x13 μ12 => ?_)
        refine g_st (st' := [.int x13]) rfl ?_
        refine s_if_eq (tgt := 56) C dX5_readClauses_46 (by decide) (fun c14 => ?_) (fun c14 => ?_)
        ·
          refine s_aload_n C dX5_readClauses_56 rfl 0 rfl ?_
          refine s_getF C (fgX5_26_10 _) g0 dX5_readClauses_57 ?_
          refine s_gsym (i := 14) C (by decide) rfl q1144 dX5_readClauses_60 ?_
          refine s_callV C R0 (kX11_skip (xl X) 0 (by decide) 14 (by decide)) (Nat.le_trans (by decide) V) mmX11_skip miX11_skip q1052 (rc2 _) (by decide) rfl rfl rfl (Nat.le_of_ble_eq_true rfl) ⟨Nat.le_of_ble_eq_true rfl, Nat.le_of_ble_eq_true rfl, Nat.le_of_ble_eq_true rfl, Nat.le_of_ble_eq_true rfl⟩ dX5_readClauses_63 (fun x16 μ15 => ?_)
          refine g_st (st' := [.int x16]) rfl ?_
          refine s_if_eq (tgt := 76) C dX5_readClauses_66 (by decide) (fun c17 => ?_) (fun c17 => ?_)
          ·
            refine s_aload_n C dX5_readClauses_76 rfl 0 rfl ?_
            refine s_callV C R0 (kX5_readLabel (xl X) fu n0 g0) (Nat.le_trans (by decide) V) mmX5_readLabel miX5_readLabel q1150 (rc10 _) g0 rfl rfl rfl (Nat.le_of_ble_eq_true rfl) ⟨Nat.le_of_ble_eq_true rfl, Nat.le_of_ble_eq_true rfl, Nat.le_of_ble_eq_true rfl, Nat.le_of_ble_eq_true rfl⟩ dX5_readClauses_77 (fun _ μ18 => ?_)
            refine g_st (st' := []) rfl ?_
            refine s_aload_n C dX5_readClauses_80 rfl 0 rfl ?_
            refine s_callV C R0 (kX5_readInstruction (xl X) fu n0 g0) (Nat.le_trans (by decide) V) mmX5_readInstruction miX5_readInstruction q1160 (rc10 _) g0 rfl rfl rfl (Nat.le_of_ble_eq_true rfl) ⟨Nat.le_of_ble_eq_true rfl, Nat.le_of_ble_eq_true rfl, Nat.le_of_ble_eq_true rfl, Nat.le_of_ble_eq_true rfl⟩ dX5_readClauses_81 (fun _ μ19 => ?_)
            refine g_st (st' := []) rfl ?_
            exact g_sub [0, 1] rfl (hj84 μ19 x2)
          ·
            refine s_aload_n C dX5_readClauses_69 rfl 0 rfl ?_
            refine s_callV C R0 (kX5_readLevel (xl X) n0 g0) (Nat.le_trans (by decide) V) mmX5_readLevel miX5_readLevel q1146 (rc10 _) g0 rfl rfl rfl (Nat.le_of_ble_eq_true rfl) ⟨Nat.le_of_ble_eq_true rfl, Nat.le_of_ble_eq_true rfl, Nat.le_of_ble_eq_true rfl, Nat.le_of_ble_eq_true rfl⟩ dX5_readClauses_70 (fun _ μ20 => ?_)
            refine g_st (st' := []) rfl ?_
            refine s_goto (tgt := 84) C dX5_readClauses_73 (by decide) ?_
            exact g_sub [0, 1] rfl (hj84 μ20 x2)
        ·
          refine s_aload_n C dX5_readClauses_49 rfl 0 rfl ?_
          refine s_callV C R0 (kX5_readEngine (xl X) fu n0 g0) (Nat.le_trans (by decide) V) mmX5_readEngine miX5_readEngine q1057 (rc10 _) g0 rfl rfl rfl (Nat.le_of_ble_eq_true rfl) ⟨Nat.le_of_ble_eq_true rfl, Nat.le_of_ble_eq_true rfl, Nat.le_of_ble_eq_true rfl, Nat.le_of_ble_eq_true rfl⟩ dX5_readClauses_50 (fun _ μ21 => ?_)
          refine g_st (st' := []) rfl ?_
          refine s_goto (tgt := 84) C dX5_readClauses_53 (by decide) ?_
          exact g_sub [0, 1] rfl (hj84 μ21 x2)
  refine s_aload_n C dX5_readClauses_0 rfl 0 rfl ?_
  refine s_getM C (fgX5_30_10 _) g0 dX5_readClauses_1 ?_
  refine g_nmA (fun a22 => ?_)
  refine g_ckB (fun b23 => ?_)
  refine s_callV C R0 (kX4_clear (xl X) fu a22 b23) (Nat.le_trans (by decide) V) mmX4_clear miX4_clear q1039 (rc5 _) b23 rfl rfl rfl (Nat.le_of_ble_eq_true rfl) ⟨Nat.le_of_ble_eq_true rfl, Nat.le_of_ble_eq_true rfl, Nat.le_of_ble_eq_true rfl, Nat.le_of_ble_eq_true rfl⟩ dX5_readClauses_4 (fun _ μ24 => ?_)
  refine g_st (st' := []) rfl ?_
  refine s_aload_n C dX5_readClauses_7 rfl 0 rfl ?_
  refine s_getF C (fgX5_26_10 _) g0 dX5_readClauses_8 ?_
  refine s_callV C R0 (kX11_rewind (xl X) 0 (by decide)) (Nat.le_trans (by decide) V) mmX11_rewind miX11_rewind q1044 (rc2 _) (by decide) rfl rfl rfl (Nat.le_of_ble_eq_true rfl) ⟨Nat.le_of_ble_eq_true rfl, Nat.le_of_ble_eq_true rfl, Nat.le_of_ble_eq_true rfl, Nat.le_of_ble_eq_true rfl⟩ dX5_readClauses_11 (fun _ μ25 => ?_)
  refine g_st (st' := []) rfl ?_
  refine s_iconst (v := (0 : Int32)) C dX5_readClauses_14 (by decide) ?_
  refine s_istore_n (L' := [(1, .int (0 : Int32)), (0, .ref (xa X 10 n0))]) C dX5_readClauses_15 rfl (hN 1 (by decide)) rfl ?_
  exact g_sub [1, 0] rfl (hj16 μ25 (0 : Int32))
/-! PinEngines$Simulator.doTick(LPinEngines$Engine;LPinEngines$Setup;Z)Z -/
def fX9_doTick (n0 : Nat) (n1 : Nat) (n2 : Nat) (p3 : Int32) (μ : Mem) : Option (Int32 × Mem) :=
  if (μ.1 18 n1 7) ≤ 0 then (
    jn (fun (μ2 : Mem) (a3 : Nat) (x5 : Int32) =>
      jn (fun (μ6 : Mem) (x7 : Int32) (x8 : Int32) =>
        jn (fun (μ9 : Mem) (x10 : Int32) =>
          nm (wI μ9 18 n1 8 x10) fun μ11 =>
          if x10 = 0 then (
            nm (wI μ11 18 n1 7 (μ11.1 9 a3 7)) fun μ13 =>
            nm (wI μ13 18 n1 0 (μ13.1 22 n0 6)) fun μ14 =>
            ckI (0 : Int32) (6) <|
            ckI (0 : Int32) (6) <|
            nm (wI μ14 21 n1 (0 : Int32).toNatClampNeg ((μ14.1 21 n1 (0 : Int32).toNatClampNeg) + (1 : Int32))) fun μ15 =>
            ckZ (1 : Int32) (some ((1 : Int32), μ15))
          ) else (
            ckI (1 : Int32) (6) <|
            ckI (1 : Int32) (6) <|
            nm (wI μ11 21 n1 (1 : Int32).toNatClampNeg ((μ11.1 21 n1 (1 : Int32).toNatClampNeg) + (1 : Int32))) fun μ16 =>
            ckZ (0 : Int32) (some ((0 : Int32), μ16))
          )
        ) fun j138 =>
        if x7 = 0 then (
          j138 μ6 x8
        ) else (
          if (μ6.1 9 a3 6) = (-1 : Int32) then (
            j138 μ6 x8
          ) else (
            nm (μ6.2.1 22 n0 1) fun a19 =>
            ckB a19 13 <|
            bnd (fX12_rotatedPins (μ6.1 9 a3 6) (μ6.1 8 n2 9) μ6) fun x22 μ21 =>
            bnd (fX3_writeLatches a19 (μ6.1 8 n2 10) x22 μ21) fun _ μ23 =>
            j138 μ23 x8
          )
        )
      ) fun j99 =>
      nm (μ2.2.1 22 n0 0) fun a24 =>
      ckB a24 2 <|
      bnd (fX4_addressAfter a24 (μ2.1 18 n1 0) n2 μ2) fun x27 μ26 =>
      nm (wI μ26 22 n0 6 x27) fun μ28 =>
      bnd (fX2_usesPort a3 μ28) fun x30 μ29 =>
      if x30 = 0 then (
        bnd (fX9_execute n0 a3 n1 n2 μ29) fun x33 μ32 =>
        j99 μ32 x5 x33
      ) else (
        bnd (fX9_access n0 a3 n1 p3 μ29) fun x35 μ34 =>
        j99 μ34 x5 x35
      )
    ) fun j54 =>
    nm (μ.2.1 22 n0 0) fun a36 =>
    ckB a36 2 <|
    bnd (fX4_instructionAt a36 (μ.1 18 n1 0) μ) fun a39 μ38 =>
    ckB a39 66 <|
    if ¬ (μ38.1 18 n1 8) = 0 then (
      j54 μ38 a39 (0 : Int32)
    ) else (
      j54 μ38 a39 (1 : Int32)
    )
  ) else (
    nm (wI μ 18 n1 7 ((μ.1 18 n1 7) - (1 : Int32))) fun μ42 =>
    ckI (2 : Int32) (6) <|
    ckI (2 : Int32) (6) <|
    nm (wI μ42 21 n1 (2 : Int32).toNatClampNeg ((μ42.1 21 n1 (2 : Int32).toNatClampNeg) + (1 : Int32))) fun μ43 =>
    ckZ (0 : Int32) (some ((0 : Int32), μ43))
  )
set_option maxHeartbeats 4000000 in
set_option maxRecDepth 100000 in
theorem kX9_doTick (l : Launch) (n0 : Nat) (g0 : n0 < 1) (n1 : Nat) (g1 : n1 < 52) (n2 : Nat) (g2 : n2 < 8) (p3 : Int32) : Kon 0 l yX9_doTick cX9_doTick 7 (some .boolean) 5 113 0 0 (fun ad => [.ref (ad 22 n0), .ref (ad 18 n1), .ref (ad 8 n2), .int p3]) rvI (fun μ => fX9_doTick n0 n1 n2 p3 μ) := by
  refine kon_of (by decide) (fun _ => Nat.le_of_ble_eq_true rfl) (fun X r0 μ hXl hXn V C E => ?_)
  have hN : ∀ i : Nat, i < 7 → i < xn X := fun i h => hXn.symm ▸ h
  have R0 := fen_rm E
  show G X r0 0 0 μ 0 [(0, .ref (xa X 22 n0)), (1, .ref (xa X 18 n1)), (2, .ref (xa X 8 n2)), (3, .int p3)] [] (fX9_doTick n0 n1 n2 p3 μ)
  unfold fX9_doTick
  refine s_aload_n C dX9_doTick_0 rfl 1 rfl ?_
  refine s_getI C (fgX9_84_18 _) g1 dX9_doTick_1 ?_
  refine s_if_le (tgt := 29) C dX9_doTick_4 (by decide) (fun c1 => ?_) (fun c1 => ?_)
  ·
    refine g_jn (P := fun j54 => ∀ (μ2 : Mem) (a3 : Nat) (x5 : Int32), a3 < 66 → G X r0 0 0 μ2 54 [(0, .ref (xa X 22 n0)), (1, .ref (xa X 18 n1)), (2, .ref (xa X 8 n2)), (3, .int p3), (4, .ref (xa X 9 a3))] [.int x5] (j54 μ2 a3 x5)) ?_ (fun j54 hj54 => ?_)
    · intro μ2 a3 x5 b4
      refine g_jn (P := fun j99 => ∀ (μ6 : Mem) (x7 : Int32) (x8 : Int32), G X r0 0 0 μ6 99 [(0, .ref (xa X 22 n0)), (1, .ref (xa X 18 n1)), (2, .ref (xa X 8 n2)), (4, .ref (xa X 9 a3)), (5, .int x7)] [.int x8] (j99 μ6 x7 x8)) ?_ (fun j99 hj99 => ?_)
      · intro μ6 x7 x8
        refine g_jn (P := fun j138 => ∀ (μ9 : Mem) (x10 : Int32), G X r0 0 0 μ9 138 [(0, .ref (xa X 22 n0)), (1, .ref (xa X 18 n1)), (4, .ref (xa X 9 a3)), (6, .int x10)] [] (j138 μ9 x10)) ?_ (fun j138 hj138 => ?_)
        · intro μ9 x10
          refine s_aload_n C dX9_doTick_138 rfl 1 rfl ?_
          refine s_iload C dX9_doTick_139 3 rfl ?_
          refine s_putI C (fpX9_104_18 _) g1 dX9_doTick_141 ?_
          refine g_nmM (fun μ11 => ?_)
          refine s_iload C dX9_doTick_144 3 rfl ?_
          refine s_if_eq (tgt := 161) C dX9_doTick_146 (by decide) (fun c12 => ?_) (fun c12 => ?_)
          ·
            refine s_aload_n C dX9_doTick_161 rfl 1 rfl ?_
            refine s_aload C dX9_doTick_162 2 rfl ?_
            refine s_getI C (fgX9_139_9 _) b4 dX9_doTick_164 ?_
            refine s_putI C (fpX9_84_18 _) g1 dX9_doTick_167 ?_
            refine g_nmM (fun μ13 => ?_)
            refine s_aload_n C dX9_doTick_170 rfl 1 rfl ?_
            refine s_aload_n C dX9_doTick_171 rfl 0 rfl ?_
            refine s_getI C (fgX9_111_22 _) g0 dX9_doTick_172 ?_
            refine s_putI C (fpX9_87_18 _) g1 dX9_doTick_175 ?_
            refine g_nmM (fun μ14 => ?_)
            refine s_aload_n C dX9_doTick_178 rfl 1 rfl ?_
            refine s_getF C (fgX9_100_18 _) g1 dX9_doTick_179 ?_
            refine s_iconst (v := (0 : Int32)) C dX9_doTick_182 (by decide) ?_
            refine s_dup2 C dX9_doTick_183 rfl rfl ?_
            refine s_iald C (ag21 _) g1 dX9_doTick_184 ?_
            refine s_iconst (v := (1 : Int32)) C dX9_doTick_185 (by decide) ?_
            refine s_iadd C dX9_doTick_186 ?_
            refine s_iast C (ag21 _) g1 dX9_doTick_187 ?_
            refine g_nmM (fun μ15 => ?_)
            refine s_iconst (v := (1 : Int32)) C dX9_doTick_188 (by decide) ?_
            exact s_zret C E dX9_doTick_189
          ·
            refine s_aload_n C dX9_doTick_149 rfl 1 rfl ?_
            refine s_getF C (fgX9_100_18 _) g1 dX9_doTick_150 ?_
            refine s_iconst (v := (1 : Int32)) C dX9_doTick_153 (by decide) ?_
            refine s_dup2 C dX9_doTick_154 rfl rfl ?_
            refine s_iald C (ag21 _) g1 dX9_doTick_155 ?_
            refine s_iconst (v := (1 : Int32)) C dX9_doTick_156 (by decide) ?_
            refine s_iadd C dX9_doTick_157 ?_
            refine s_iast C (ag21 _) g1 dX9_doTick_158 ?_
            refine g_nmM (fun μ16 => ?_)
            refine s_iconst (v := (0 : Int32)) C dX9_doTick_159 (by decide) ?_
            exact s_zret C E dX9_doTick_160
        refine s_istore (L' := [(6, .int x8), (0, .ref (xa X 22 n0)), (1, .ref (xa X 18 n1)), (2, .ref (xa X 8 n2)), (4, .ref (xa X 9 a3)), (5, .int x7)]) C dX9_doTick_99 (hN 6 (by decide)) rfl ?_
        refine s_iload C dX9_doTick_101 5 rfl ?_
        refine s_if_eq (tgt := 138) C dX9_doTick_103 (by decide) (fun c17 => ?_) (fun c17 => ?_)
        ·
          exact g_sub [1, 2, 4, 0] rfl (hj138 μ6 x8)
        ·
          refine s_aload C dX9_doTick_106 4 rfl ?_
          refine s_getI C (fgX9_122_9 _) b4 dX9_doTick_108 ?_
          refine s_iconst (v := (-1 : Int32)) C dX9_doTick_111 (by decide) ?_
          refine s_icmp_eq (tgt := 138) C dX9_doTick_112 (by decide) (fun c18 => ?_) (fun c18 => ?_)
          ·
            exact g_sub [1, 2, 4, 0] rfl (hj138 μ6 x8)
          ·
            refine s_aload_n C dX9_doTick_115 rfl 1 rfl ?_
            refine s_getM C (fgX9_15_22 _) g0 dX9_doTick_116 ?_
            refine g_nmA (fun a19 => ?_)
            refine g_ckB (fun b20 => ?_)
            refine s_aload_n C dX9_doTick_119 rfl 3 rfl ?_
            refine s_getI C (fgX9_125_8 _) g2 dX9_doTick_120 ?_
            refine s_aload C dX9_doTick_123 4 rfl ?_
            refine s_getI C (fgX9_122_9 _) b4 dX9_doTick_125 ?_
            refine s_aload_n C dX9_doTick_128 rfl 3 rfl ?_
            refine s_getI C (fgX9_128_8 _) g2 dX9_doTick_129 ?_
            refine s_callSN (host := "PinEngines") C R0 (kX12_rotatedPins (xl X) (μ6.1 9 a3 6) (μ6.1 8 n2 9)) (Nat.le_trans (by decide) V) mmX12_rotatedPins q1137 qn1560 rfl rfl rfl (Nat.le_of_ble_eq_true rfl) ⟨Nat.le_of_ble_eq_true rfl, Nat.le_of_ble_eq_true rfl, Nat.le_of_ble_eq_true rfl, Nat.le_of_ble_eq_true rfl⟩ dX9_doTick_132 (fun x22 μ21 => ?_)
            refine g_st (st' := [.int x22, .int (μ6.1 8 n2 10), .ref (xa X 12 a19)]) rfl ?_
            refine s_callV C R0 (kX3_writeLatches (xl X) a19 b20 (μ6.1 8 n2 10) x22) (Nat.le_trans (by decide) V) mmX3_writeLatches miX3_writeLatches q1587 (rc12 _) b20 rfl rfl rfl (Nat.le_of_ble_eq_true rfl) ⟨Nat.le_of_ble_eq_true rfl, Nat.le_of_ble_eq_true rfl, Nat.le_of_ble_eq_true rfl, Nat.le_of_ble_eq_true rfl⟩ dX9_doTick_135 (fun _ μ23 => ?_)
            refine g_st (st' := []) rfl ?_
            exact g_sub [1, 2, 4, 0] rfl (hj138 μ23 x8)
      refine s_istore (L' := [(5, .int x5), (0, .ref (xa X 22 n0)), (1, .ref (xa X 18 n1)), (2, .ref (xa X 8 n2)), (3, .int p3), (4, .ref (xa X 9 a3))]) C dX9_doTick_54 (hN 5 (by decide)) rfl ?_
      refine s_aload_n C dX9_doTick_56 rfl 1 rfl ?_
      refine s_aload_n C dX9_doTick_57 rfl 1 rfl ?_
      refine s_getM C (fgX9_9_22 _) g0 dX9_doTick_58 ?_
      refine g_nmA (fun a24 => ?_)
      refine g_ckB (fun b25 => ?_)
      refine s_aload_n C dX9_doTick_61 rfl 2 rfl ?_
      refine s_getI C (fgX9_87_18 _) g1 dX9_doTick_62 ?_
      refine s_aload_n C dX9_doTick_65 rfl 3 rfl ?_
      refine s_callV C R0 (kX4_addressAfter (xl X) a24 b25 (μ2.1 18 n1 0) n2 g2) (Nat.le_trans (by decide) V) mmX4_addressAfter miX4_addressAfter q1514 (rc5 _) b25 rfl rfl rfl (Nat.le_of_ble_eq_true rfl) ⟨Nat.le_of_ble_eq_true rfl, Nat.le_of_ble_eq_true rfl, Nat.le_of_ble_eq_true rfl, Nat.le_of_ble_eq_true rfl⟩ dX9_doTick_66 (fun x27 μ26 => ?_)
      refine g_st (st' := [.int x27, .ref (xa X 22 n0)]) rfl ?_
      refine s_putI C (fpX9_111_22 _) g0 dX9_doTick_69 ?_
      refine g_nmM (fun μ28 => ?_)
      refine s_aload C dX9_doTick_72 5 rfl ?_
      refine s_callV C R0 (kX2_usesPort (xl X) a3 b4) (Nat.le_trans (by decide) V) mmX2_usesPort miX2_usesPort q1502 (rc9 _) b4 rfl rfl rfl (Nat.le_of_ble_eq_true rfl) ⟨Nat.le_of_ble_eq_true rfl, Nat.le_of_ble_eq_true rfl, Nat.le_of_ble_eq_true rfl, Nat.le_of_ble_eq_true rfl⟩ dX9_doTick_74 (fun x30 μ29 => ?_)
      refine g_st (st' := [.int x30]) rfl ?_
      refine s_if_eq (tgt := 91) C dX9_doTick_77 (by decide) (fun c31 => ?_) (fun c31 => ?_)
      ·
        refine s_aload_n C dX9_doTick_91 rfl 1 rfl ?_
        refine s_aload C dX9_doTick_92 5 rfl ?_
        refine s_aload_n C dX9_doTick_94 rfl 2 rfl ?_
        refine s_aload_n C dX9_doTick_95 rfl 3 rfl ?_
        refine s_callV C R0 (kX9_execute (xl X) n0 g0 a3 b4 n1 g1 n2 g2) (Nat.le_trans (by decide) V) mmX9_execute miX9_execute q1537 (rc22 _) g0 rfl rfl rfl (Nat.le_of_ble_eq_true rfl) ⟨Nat.le_of_ble_eq_true rfl, Nat.le_of_ble_eq_true rfl, Nat.le_of_ble_eq_true rfl, Nat.le_of_ble_eq_true rfl⟩ dX9_doTick_96 (fun x33 μ32 => ?_)
        refine g_st (st' := [.int x33]) rfl ?_
        exact g_sub [1, 2, 3, 5, 0] rfl (hj99 μ32 x5 x33)
      ·
        refine s_aload_n C dX9_doTick_80 rfl 1 rfl ?_
        refine s_aload C dX9_doTick_81 5 rfl ?_
        refine s_aload_n C dX9_doTick_83 rfl 2 rfl ?_
        refine s_iload_n C dX9_doTick_84 rfl 4 rfl ?_
        refine s_callV C R0 (kX9_access (xl X) n0 g0 a3 b4 n1 g1 p3) (Nat.le_trans (by decide) V) mmX9_access miX9_access q1518 (rc22 _) g0 rfl rfl rfl (Nat.le_of_ble_eq_true rfl) ⟨Nat.le_of_ble_eq_true rfl, Nat.le_of_ble_eq_true rfl, Nat.le_of_ble_eq_true rfl, Nat.le_of_ble_eq_true rfl⟩ dX9_doTick_85 (fun x35 μ34 => ?_)
        refine g_st (st' := [.int x35]) rfl ?_
        refine s_goto (tgt := 99) C dX9_doTick_88 (by decide) ?_
        exact g_sub [1, 2, 3, 5, 0] rfl (hj99 μ34 x5 x35)
    refine s_aload_n C dX9_doTick_29 rfl 0 rfl ?_
    refine s_getM C (fgX9_9_22 _) g0 dX9_doTick_30 ?_
    refine g_nmA (fun a36 => ?_)
    refine g_ckB (fun b37 => ?_)
    refine s_aload_n C dX9_doTick_33 rfl 1 rfl ?_
    refine s_getI C (fgX9_87_18 _) g1 dX9_doTick_34 ?_
    refine s_callV C R0 (kX4_instructionAt (xl X) a36 b37 (μ.1 18 n1 0)) (Nat.le_trans (by decide) V) mmX4_instructionAt miX4_instructionAt q1498 (rc5 _) b37 rfl rfl rfl (Nat.le_of_ble_eq_true rfl) ⟨Nat.le_of_ble_eq_true rfl, Nat.le_of_ble_eq_true rfl, Nat.le_of_ble_eq_true rfl, Nat.le_of_ble_eq_true rfl⟩ dX9_doTick_37 (fun a39 μ38 => ?_)
    refine g_st (st' := [.ref (xa X 9 a39)]) rfl ?_
    refine g_ckB (fun b40 => ?_)
    refine s_astore (L' := [(4, .ref (xa X 9 a39)), (0, .ref (xa X 22 n0)), (1, .ref (xa X 18 n1)), (2, .ref (xa X 8 n2)), (3, .int p3)]) C dX9_doTick_40 (hN 4 (by decide)) rfl ?_
    refine s_aload_n C dX9_doTick_42 rfl 2 rfl ?_
    refine s_getI C (fgX9_104_18 _) g1 dX9_doTick_43 ?_
    refine s_if_ne (tgt := 53) C dX9_doTick_46 (by decide) (fun c41 => ?_) (fun c41 => ?_)
    ·
      refine s_iconst (v := (0 : Int32)) C dX9_doTick_53 (by decide) ?_
      exact g_sub [1, 2, 3, 4, 0] rfl (hj54 μ38 a39 (0 : Int32) b40)
    ·
      refine s_iconst (v := (1 : Int32)) C dX9_doTick_49 (by decide) ?_
      refine s_goto (tgt := 54) C dX9_doTick_50 (by decide) ?_
      exact g_sub [1, 2, 3, 4, 0] rfl (hj54 μ38 a39 (1 : Int32) b40)
  ·
    refine s_aload_n C dX9_doTick_7 rfl 1 rfl ?_
    refine s_dup C dX9_doTick_8 rfl ?_
    refine s_getI C (fgX9_84_18 _) g1 dX9_doTick_9 ?_
    refine s_iconst (v := (1 : Int32)) C dX9_doTick_12 (by decide) ?_
    refine s_isub C dX9_doTick_13 ?_
    refine s_putI C (fpX9_84_18 _) g1 dX9_doTick_14 ?_
    refine g_nmM (fun μ42 => ?_)
    refine s_aload_n C dX9_doTick_17 rfl 1 rfl ?_
    refine s_getF C (fgX9_100_18 _) g1 dX9_doTick_18 ?_
    refine s_iconst (v := (2 : Int32)) C dX9_doTick_21 (by decide) ?_
    refine s_dup2 C dX9_doTick_22 rfl rfl ?_
    refine s_iald C (ag21 _) g1 dX9_doTick_23 ?_
    refine s_iconst (v := (1 : Int32)) C dX9_doTick_24 (by decide) ?_
    refine s_iadd C dX9_doTick_25 ?_
    refine s_iast C (ag21 _) g1 dX9_doTick_26 ?_
    refine g_nmM (fun μ43 => ?_)
    refine s_iconst (v := (0 : Int32)) C dX9_doTick_27 (by decide) ?_
    exact s_zret C E dX9_doTick_28
/-! PinEnginesModel.passCycle()V -/
def fX13_passCycle (fu : Nat) (n0 : Nat) (μ : Mem) : Option (Unit × Mem) :=
  jn (lp (fun _ _ => none) fu (fun j10 (μ1 : Mem) (x2 : Int32) =>
    if (4 : Int32) ≤ x2 then (
      jn (lp (fun _ _ => none) fu (fun j32 (μ4 : Mem) (x5 : Int32) =>
        if (4 : Int32) ≤ x5 then (
          jn (lp (fun _ _ => none) fu (fun j59 (μ7 : Mem) (x8 : Int32) =>
            if (4 : Int32) ≤ x8 then (
              jn (lp (fun _ _ => none) fu (fun j77 (μ10 : Mem) (x11 : Int32) =>
                if (8 : Int32) ≤ x11 then (
                  bnd (fX13_recordLevels fu n0 μ10) fun _ μ13 =>
                  ckI (1 : Int32) (if 0 = 4 then 7000 else 700) <|
                  ckI (1 : Int32) (if 0 = 4 then 7000 else 700) <|
                  nm (wI μ13 27 0 (1 : Int32).toNatClampNeg ((μ13.1 27 0 (1 : Int32).toNatClampNeg) + (1 : Int32))) fun μ14 =>
                  some ((), μ14)
                ) else (
                  jn (fun (μ15 : Mem) (x16 : Int32) (a17 : Nat) (x19 : Int32) (x20 : Int32) =>
                    ckI x19 (if a17 = 4 then 7000 else 700) <|
                    nm (wI μ15 27 a17 x19.toNatClampNeg x20) fun μ21 =>
                    nm (x16 + (1 : Int32)) fun x22 =>
                    j77 μ21 x22
                  ) fun j132 =>
                  if ¬ (((μ10.1 26 n0 16) >>> (x11 &&& 31)) &&& (1 : Int32)) = (1 : Int32) then (
                    if ¬ (((μ10.1 26 n0 17) >>> (x11 &&& 31)) &&& (1 : Int32)) = (1 : Int32) then (
                      ckI ((100 : Int32) + x11) (if 0 = 4 then 7000 else 700) <|
                      j132 μ10 x11 0 ((100 : Int32) + x11) (μ10.1 27 0 ((100 : Int32) + x11).toNatClampNeg)
                    ) else (
                      j132 μ10 x11 0 ((100 : Int32) + x11) (0 : Int32)
                    )
                  ) else (
                    j132 μ10 x11 0 ((100 : Int32) + x11) (1 : Int32)
                  )
                )
              )) fun j77 =>
              j77 μ7 (0 : Int32)
            ) else (
              bnd (fX13_writeAll fu n0 x8 μ7) fun _ μ25 =>
              nm (x8 + (1 : Int32)) fun x26 =>
              j59 μ25 x26
            )
          )) fun j59 =>
          j59 μ4 (0 : Int32)
        ) else (
          jn (fun (μ27 : Mem) (x28 : Int32) =>
            nm (x28 + (1 : Int32)) fun x29 =>
            j32 μ27 x29
          ) fun j51 =>
          ckI x5 (4) <|
          if (μ4.1 29 0 x5.toNatClampNeg) = 0 then (
            j51 μ4 x5
          ) else (
            bnd (fX13_tick fu n0 x5 μ4) fun _ μ31 =>
            j51 μ31 x5
          )
        )
      )) fun j32 =>
      bnd (fX13_givePort fu n0 μ1) fun _ μ32 =>
      j32 μ32 (0 : Int32)
    ) else (
      bnd (fX13_countOn n0 x2 μ1) fun _ μ33 =>
      nm (x2 + (1 : Int32)) fun x34 =>
      j10 μ33 x34
    )
  )) fun j10 =>
  bnd (fX13_applyScheduled fu n0 μ) fun _ μ35 =>
  bnd (fX13_readAll fu n0 μ35) fun _ μ36 =>
  j10 μ36 (0 : Int32)
set_option maxHeartbeats 4000000 in
set_option maxRecDepth 100000 in
theorem kX13_passCycle (l : Launch) (fu : Nat) (n0 : Nat) (g0 : n0 < 1) : Kon 1 l yX13_passCycle cX13_passCycle 2 (none) 6 142 0 0 (fun ad => [.ref (ad 26 n0)]) rvV (fun μ => fX13_passCycle fu n0 μ) := by
  refine kon_of (by decide) (fun _ => Nat.le_of_ble_eq_true rfl) (fun X r0 μ hXl hXn V C E => ?_)
  have hN : ∀ i : Nat, i < 2 → i < xn X := fun i h => hXn.symm ▸ h
  have R0 := fen_rm E
  show G X r0 0 0 μ 0 [(0, .ref (xa X 26 n0))] [] (fX13_passCycle fu n0 μ)
  unfold fX13_passCycle
  refine g_jl (P := fun j10 => ∀ (μ1 : Mem) (x2 : Int32), G X r0 0 0 μ1 10 [(0, .ref (xa X 26 n0)), (1, .int x2)] [] (j10 μ1 x2)) (fun _ _ => g_none) (fun j10 hj10 => ?_) (fun j10 hj10 => ?_)
  · intro μ1 x2
    refine s_iload_n C dX13_passCycle_10 rfl 1 rfl ?_
    refine s_iconst (v := (4 : Int32)) C dX13_passCycle_11 (by decide) ?_
    refine s_icmp_ge (tgt := 26) C dX13_passCycle_12 (by decide) (fun c3 => ?_) (fun c3 => ?_)
    ·
      refine g_jl (P := fun j32 => ∀ (μ4 : Mem) (x5 : Int32), G X r0 0 0 μ4 32 [(0, .ref (xa X 26 n0)), (1, .int x5)] [] (j32 μ4 x5)) (fun _ _ => g_none) (fun j32 hj32 => ?_) (fun j32 hj32 => ?_)
      · intro μ4 x5
        refine s_iload_n C dX13_passCycle_32 rfl 1 rfl ?_
        refine s_iconst (v := (4 : Int32)) C dX13_passCycle_33 (by decide) ?_
        refine s_icmp_ge (tgt := 57) C dX13_passCycle_34 (by decide) (fun c6 => ?_) (fun c6 => ?_)
        ·
          refine g_jl (P := fun j59 => ∀ (μ7 : Mem) (x8 : Int32), G X r0 0 0 μ7 59 [(0, .ref (xa X 26 n0)), (1, .int x8)] [] (j59 μ7 x8)) (fun _ _ => g_none) (fun j59 hj59 => ?_) (fun j59 hj59 => ?_)
          · intro μ7 x8
            refine s_iload_n C dX13_passCycle_59 rfl 1 rfl ?_
            refine s_iconst (v := (4 : Int32)) C dX13_passCycle_60 (by decide) ?_
            refine s_icmp_ge (tgt := 75) C dX13_passCycle_61 (by decide) (fun c9 => ?_) (fun c9 => ?_)
            ·
              refine g_jl (P := fun j77 => ∀ (μ10 : Mem) (x11 : Int32), G X r0 0 0 μ10 77 [(0, .ref (xa X 26 n0)), (1, .int x11)] [] (j77 μ10 x11)) (fun _ _ => g_none) (fun j77 hj77 => ?_) (fun j77 hj77 => ?_)
              · intro μ10 x11
                refine s_iload_n C dX13_passCycle_77 rfl 1 rfl ?_
                refine s_bipush (v := (8 : Int32)) C dX13_passCycle_78 (by decide) ?_
                refine s_icmp_ge (tgt := 139) C dX13_passCycle_80 (by decide) (fun c12 => ?_) (fun c12 => ?_)
                ·
                  refine s_aload_n C dX13_passCycle_139 rfl 0 rfl ?_
                  refine s_callV C R0 (kX13_recordLevels (xl X) fu n0 g0) (Nat.le_trans (by decide) V) mmX13_recordLevels miX13_recordLevels q2576 (rc26 (Nat.le_trans (by decide) V)) g0 rfl rfl rfl (Nat.le_of_ble_eq_true rfl) ⟨Nat.le_of_ble_eq_true rfl, Nat.le_of_ble_eq_true rfl, Nat.le_of_ble_eq_true rfl, Nat.le_of_ble_eq_true rfl⟩ dX13_passCycle_140 (fun _ μ13 => ?_)
                  refine g_st (st' := []) rfl ?_
                  refine s_aload_n C dX13_passCycle_143 rfl 0 rfl ?_
                  refine s_getF C (fgX13_9_26 (Nat.le_trans (by decide) V)) g0 dX13_passCycle_144 ?_
                  refine s_iconst (v := (1 : Int32)) C dX13_passCycle_147 (by decide) ?_
                  refine s_dup2 C dX13_passCycle_148 rfl rfl ?_
                  refine s_iald C (ag27 (Nat.le_trans (by decide) V)) (by decide) dX13_passCycle_149 ?_
                  refine s_iconst (v := (1 : Int32)) C dX13_passCycle_150 (by decide) ?_
                  refine s_iadd C dX13_passCycle_151 ?_
                  refine s_iast C (ag27 (Nat.le_trans (by decide) V)) (by decide) dX13_passCycle_152 ?_
                  refine g_nmM (fun μ14 => ?_)
                  exact s_vret C E dX13_passCycle_153
                ·
                  refine g_jn (P := fun j132 => ∀ (μ15 : Mem) (x16 : Int32) (a17 : Nat) (x19 : Int32) (x20 : Int32), a17 < 5 → G X r0 0 0 μ15 132 [(0, .ref (xa X 26 n0)), (1, .int x16)] [.int x20, .int x19, .ref (xa X 27 a17)] (j132 μ15 x16 a17 x19 x20)) ?_ (fun j132 hj132 => ?_)
                  · intro μ15 x16 a17 x19 x20 b18
                    refine s_iast C (ag27 (Nat.le_trans (by decide) V)) b18 dX13_passCycle_132 ?_
                    refine g_nmM (fun μ21 => ?_)
                    refine g_nmQ (fun x22 ex22 => ?_)
                    refine s_iinc (v := x22) (j := 1) (L' := [(1, .int x22), (0, .ref (xa X 26 n0))]) C dX13_passCycle_133 rfl (by rw [ex22]; rfl) (hN 1 (by decide)) rfl ?_
                    refine s_goto (tgt := 77) C dX13_passCycle_136 (by decide) ?_
                    exact g_sub [1, 0] rfl (hj77 μ21 x22)
                  refine s_aload_n C dX13_passCycle_83 rfl 0 rfl ?_
                  refine s_getF C (fgX13_9_26 (Nat.le_trans (by decide) V)) g0 dX13_passCycle_84 ?_
                  refine s_bipush (v := (100 : Int32)) C dX13_passCycle_87 (by decide) ?_
                  refine s_iload_n C dX13_passCycle_89 rfl 1 rfl ?_
                  refine s_iadd C dX13_passCycle_90 ?_
                  refine s_aload_n C dX13_passCycle_91 rfl 0 rfl ?_
                  refine s_getI C (fgX13_287_26 (Nat.le_trans (by decide) V)) g0 dX13_passCycle_92 ?_
                  refine s_iload_n C dX13_passCycle_95 rfl 1 rfl ?_
                  refine s_ishr C dX13_passCycle_96 ?_
                  refine s_iconst (v := (1 : Int32)) C dX13_passCycle_97 (by decide) ?_
                  refine s_iand C dX13_passCycle_98 ?_
                  refine s_iconst (v := (1 : Int32)) C dX13_passCycle_99 (by decide) ?_
                  refine s_icmp_ne (tgt := 107) C dX13_passCycle_100 (by decide) (fun c23 => ?_) (fun c23 => ?_)
                  ·
                    refine s_aload_n C dX13_passCycle_107 rfl 0 rfl ?_
                    refine s_getI C (fgX13_290_26 (Nat.le_trans (by decide) V)) g0 dX13_passCycle_108 ?_
                    refine s_iload_n C dX13_passCycle_111 rfl 1 rfl ?_
                    refine s_ishr C dX13_passCycle_112 ?_
                    refine s_iconst (v := (1 : Int32)) C dX13_passCycle_113 (by decide) ?_
                    refine s_iand C dX13_passCycle_114 ?_
                    refine s_iconst (v := (1 : Int32)) C dX13_passCycle_115 (by decide) ?_
                    refine s_icmp_ne (tgt := 123) C dX13_passCycle_116 (by decide) (fun c24 => ?_) (fun c24 => ?_)
                    ·
                      refine s_aload_n C dX13_passCycle_123 rfl 0 rfl ?_
                      refine s_getF C (fgX13_9_26 (Nat.le_trans (by decide) V)) g0 dX13_passCycle_124 ?_
                      refine s_bipush (v := (100 : Int32)) C dX13_passCycle_127 (by decide) ?_
                      refine s_iload_n C dX13_passCycle_129 rfl 1 rfl ?_
                      refine s_iadd C dX13_passCycle_130 ?_
                      refine s_iald C (ag27 (Nat.le_trans (by decide) V)) (by decide) dX13_passCycle_131 ?_
                      exact g_sub [0, 1] rfl (hj132 μ10 x11 0 ((100 : Int32) + x11) (μ10.1 27 0 ((100 : Int32) + x11).toNatClampNeg) (by decide))
                    ·
                      refine s_iconst (v := (0 : Int32)) C dX13_passCycle_119 (by decide) ?_
                      refine s_goto (tgt := 132) C dX13_passCycle_120 (by decide) ?_
                      exact g_sub [0, 1] rfl (hj132 μ10 x11 0 ((100 : Int32) + x11) (0 : Int32) (by decide))
                  ·
                    refine s_iconst (v := (1 : Int32)) C dX13_passCycle_103 (by decide) ?_
                    refine s_goto (tgt := 132) C dX13_passCycle_104 (by decide) ?_
                    exact g_sub [0, 1] rfl (hj132 μ10 x11 0 ((100 : Int32) + x11) (1 : Int32) (by decide))
              refine s_iconst (v := (0 : Int32)) C dX13_passCycle_75 (by decide) ?_
              refine s_istore_n (L' := [(1, .int (0 : Int32)), (0, .ref (xa X 26 n0))]) C dX13_passCycle_76 rfl (hN 1 (by decide)) rfl ?_
              exact g_sub [1, 0] rfl (hj77 μ7 (0 : Int32))
            ·
              refine s_aload_n C dX13_passCycle_64 rfl 0 rfl ?_
              refine s_iload_n C dX13_passCycle_65 rfl 1 rfl ?_
              refine s_callV C R0 (kX13_writeAll (xl X) fu n0 g0 x8) (Nat.le_trans (by decide) V) mmX13_writeAll miX13_writeAll q2568 (rc26 (Nat.le_trans (by decide) V)) g0 rfl rfl rfl (Nat.le_of_ble_eq_true rfl) ⟨Nat.le_of_ble_eq_true rfl, Nat.le_of_ble_eq_true rfl, Nat.le_of_ble_eq_true rfl, Nat.le_of_ble_eq_true rfl⟩ dX13_passCycle_66 (fun _ μ25 => ?_)
              refine g_st (st' := []) rfl ?_
              refine g_nmQ (fun x26 ex26 => ?_)
              refine s_iinc (v := x26) (j := 1) (L' := [(1, .int x26), (0, .ref (xa X 26 n0))]) C dX13_passCycle_69 rfl (by rw [ex26]; rfl) (hN 1 (by decide)) rfl ?_
              refine s_goto (tgt := 59) C dX13_passCycle_72 (by decide) ?_
              exact g_sub [1, 0] rfl (hj59 μ25 x26)
          refine s_iconst (v := (0 : Int32)) C dX13_passCycle_57 (by decide) ?_
          refine s_istore_n (L' := [(1, .int (0 : Int32)), (0, .ref (xa X 26 n0))]) C dX13_passCycle_58 rfl (hN 1 (by decide)) rfl ?_
          exact g_sub [1, 0] rfl (hj59 μ4 (0 : Int32))
        ·
          refine g_jn (P := fun j51 => ∀ (μ27 : Mem) (x28 : Int32), G X r0 0 0 μ27 51 [(0, .ref (xa X 26 n0)), (1, .int x28)] [] (j51 μ27 x28)) ?_ (fun j51 hj51 => ?_)
          · intro μ27 x28
            refine g_nmQ (fun x29 ex29 => ?_)
            refine s_iinc (v := x29) (j := 1) (L' := [(1, .int x29), (0, .ref (xa X 26 n0))]) C dX13_passCycle_51 rfl (by rw [ex29]; rfl) (hN 1 (by decide)) rfl ?_
            refine s_goto (tgt := 32) C dX13_passCycle_54 (by decide) ?_
            exact g_sub [1, 0] rfl (hj32 μ27 x29)
          refine s_aload_n C dX13_passCycle_37 rfl 0 rfl ?_
          refine s_getF C (fgX13_31_26 (Nat.le_trans (by decide) V)) g0 dX13_passCycle_38 ?_
          refine s_iload_n C dX13_passCycle_41 rfl 1 rfl ?_
          refine s_zald C (ag29 (Nat.le_trans (by decide) V)) (by decide) dX13_passCycle_42 ?_
          refine s_if_eq (tgt := 51) C dX13_passCycle_43 (by decide) (fun c30 => ?_) (fun c30 => ?_)
          ·
            exact g_sub [0, 1] rfl (hj51 μ4 x5)
          ·
            refine s_aload_n C dX13_passCycle_46 rfl 0 rfl ?_
            refine s_iload_n C dX13_passCycle_47 rfl 1 rfl ?_
            refine s_callV C R0 (kX13_tick (xl X) fu n0 g0 x5) (Nat.le_trans (by decide) V) mmX13_tick miX13_tick q2469 (rc26 (Nat.le_trans (by decide) V)) g0 rfl rfl rfl (Nat.le_of_ble_eq_true rfl) ⟨Nat.le_of_ble_eq_true rfl, Nat.le_of_ble_eq_true rfl, Nat.le_of_ble_eq_true rfl, Nat.le_of_ble_eq_true rfl⟩ dX13_passCycle_48 (fun _ μ31 => ?_)
            refine g_st (st' := []) rfl ?_
            exact g_sub [0, 1] rfl (hj51 μ31 x5)
      refine s_aload_n C dX13_passCycle_26 rfl 0 rfl ?_
      refine s_callV C R0 (kX13_givePort (xl X) fu n0 g0) (Nat.le_trans (by decide) V) mmX13_givePort miX13_givePort q2453 (rc26 (Nat.le_trans (by decide) V)) g0 rfl rfl rfl (Nat.le_of_ble_eq_true rfl) ⟨Nat.le_of_ble_eq_true rfl, Nat.le_of_ble_eq_true rfl, Nat.le_of_ble_eq_true rfl, Nat.le_of_ble_eq_true rfl⟩ dX13_passCycle_27 (fun _ μ32 => ?_)
      refine g_st (st' := []) rfl ?_
      refine s_iconst (v := (0 : Int32)) C dX13_passCycle_30 (by decide) ?_
      refine s_istore_n (L' := [(1, .int (0 : Int32)), (0, .ref (xa X 26 n0))]) C dX13_passCycle_31 rfl (hN 1 (by decide)) rfl ?_
      exact g_sub [1, 0] rfl (hj32 μ32 (0 : Int32))
    ·
      refine s_aload_n C dX13_passCycle_15 rfl 0 rfl ?_
      refine s_iload_n C dX13_passCycle_16 rfl 1 rfl ?_
      refine s_callV C R0 (kX13_countOn (xl X) n0 g0 x2) (Nat.le_trans (by decide) V) mmX13_countOn miX13_countOn q2449 (rc26 (Nat.le_trans (by decide) V)) g0 rfl rfl rfl (Nat.le_of_ble_eq_true rfl) ⟨Nat.le_of_ble_eq_true rfl, Nat.le_of_ble_eq_true rfl, Nat.le_of_ble_eq_true rfl, Nat.le_of_ble_eq_true rfl⟩ dX13_passCycle_17 (fun _ μ33 => ?_)
      refine g_st (st' := []) rfl ?_
      refine g_nmQ (fun x34 ex34 => ?_)
      refine s_iinc (v := x34) (j := 1) (L' := [(1, .int x34), (0, .ref (xa X 26 n0))]) C dX13_passCycle_20 rfl (by rw [ex34]; rfl) (hN 1 (by decide)) rfl ?_
      refine s_goto (tgt := 10) C dX13_passCycle_23 (by decide) ?_
      exact g_sub [1, 0] rfl (hj10 μ33 x34)
  refine s_aload_n C dX13_passCycle_0 rfl 0 rfl ?_
  refine s_callV C R0 (kX13_applyScheduled (xl X) fu n0 g0) (Nat.le_trans (by decide) V) mmX13_applyScheduled miX13_applyScheduled q2441 (rc26 (Nat.le_trans (by decide) V)) g0 rfl rfl rfl (Nat.le_of_ble_eq_true rfl) ⟨Nat.le_of_ble_eq_true rfl, Nat.le_of_ble_eq_true rfl, Nat.le_of_ble_eq_true rfl, Nat.le_of_ble_eq_true rfl⟩ dX13_passCycle_1 (fun _ μ35 => ?_)
  refine g_st (st' := []) rfl ?_
  refine s_aload_n C dX13_passCycle_4 rfl 0 rfl ?_
  refine s_callV C R0 (kX13_readAll (xl X) fu n0 g0) (Nat.le_trans (by decide) V) mmX13_readAll miX13_readAll q2445 (rc26 (Nat.le_trans (by decide) V)) g0 rfl rfl rfl (Nat.le_of_ble_eq_true rfl) ⟨Nat.le_of_ble_eq_true rfl, Nat.le_of_ble_eq_true rfl, Nat.le_of_ble_eq_true rfl, Nat.le_of_ble_eq_true rfl⟩ dX13_passCycle_5 (fun _ μ36 => ?_)
  refine g_st (st' := []) rfl ?_
  refine s_iconst (v := (0 : Int32)) C dX13_passCycle_8 (by decide) ?_
  refine s_istore_n (L' := [(1, .int (0 : Int32)), (0, .ref (xa X 26 n0))]) C dX13_passCycle_9 rfl (hN 1 (by decide)) rfl ?_
  exact g_sub [1, 0] rfl (hj10 μ36 (0 : Int32))
/-! PinEnginesModel.run(I)I -/
def fX13_run (fu : Nat) (n0 : Nat) (p1 : Int32) (μ : Mem) : Option (Int32 × Mem) :=
  nm (wI μ 26 n0 6 (0 : Int32)) fun μ1 =>
  bnd (fX13_inRange p1 (0 : Int32) (1000 : Int32) μ1) fun x3 μ2 =>
  if ¬ x3 = 0 then (
    ckI (1 : Int32) (if 0 = 4 then 7000 else 700) <|
    if ((μ2.1 27 0 (1 : Int32).toNatClampNeg) + p1) ≤ (1000000 : Int32) then (
      jn (lp (fun _ _ _ => none) fu (fun j50 (μ6 : Mem) (x7 : Int32) (x8 : Int32) =>
        if p1 ≤ x8 then (
          bnd (fX13_doneByAll fu n0 μ6) fun x11 μ10 =>
          some ((x11 - x7), μ10)
        ) else (
          bnd (fX13_passCycle fu n0 μ6) fun _ μ12 =>
          nm (x8 + (1 : Int32)) fun x13 =>
          j50 μ12 x7 x13
        )
      )) fun j50 =>
      bnd (fX13_record fu n0 μ2) fun _ μ14 =>
      bnd (fX13_doneByAll fu n0 μ14) fun x16 μ15 =>
      j50 μ15 x16 (0 : Int32)
    ) else (
      some ((-4 : Int32), μ2)
    )
  ) else (
    bnd (fX13_raise n0 (1 : Int32) μ2) fun x18 μ17 =>
    some (x18, μ17)
  )
set_option maxHeartbeats 4000000 in
set_option maxRecDepth 100000 in
theorem kX13_run (l : Launch) (fu : Nat) (n0 : Nat) (g0 : n0 < 1) (p1 : Int32) : Kon 1 l yX13_run cX13_run 4 (some .int) 7 163 0 0 (fun ad => [.ref (ad 26 n0), .int p1]) rvI (fun μ => fX13_run fu n0 p1 μ) := by
  refine kon_of (by decide) (fun _ => Nat.le_of_ble_eq_true rfl) (fun X r0 μ hXl hXn V C E => ?_)
  have hN : ∀ i : Nat, i < 4 → i < xn X := fun i h => hXn.symm ▸ h
  have R0 := fen_rm E
  show G X r0 0 0 μ 0 [(0, .ref (xa X 26 n0)), (1, .int p1)] [] (fX13_run fu n0 p1 μ)
  unfold fX13_run
  refine s_aload_n C dX13_run_0 rfl 0 rfl ?_
  refine s_iconst (v := (0 : Int32)) C dX13_run_1 (by decide) ?_
  refine s_putI C (fpX13_231_26 (Nat.le_trans (by decide) V)) g0 dX13_run_2 ?_
  refine g_nmM (fun μ1 => ?_)
  refine s_iload_n C dX13_run_5 rfl 1 rfl ?_
  refine s_iconst (v := (0 : Int32)) C dX13_run_6 (by decide) ?_
  refine s_sipush (v := (1000 : Int32)) C dX13_run_7 (by decide) ?_
  refine s_callS C R0 (kX13_inRange (xl X) p1 (0 : Int32) (1000 : Int32)) (Nat.le_trans (by decide) V) mmX13_inRange q2257 q2256 rfl rfl rfl rfl (Nat.le_of_ble_eq_true rfl) ⟨Nat.le_of_ble_eq_true rfl, Nat.le_of_ble_eq_true rfl, Nat.le_of_ble_eq_true rfl, Nat.le_of_ble_eq_true rfl⟩ dX13_run_10 (fun x3 μ2 => ?_)
  refine g_st (st' := [.int x3]) rfl ?_
  refine s_if_ne (tgt := 22) C dX13_run_13 (by decide) (fun c4 => ?_) (fun c4 => ?_)
  ·
    refine s_aload_n C dX13_run_22 rfl 0 rfl ?_
    refine s_getF C (fgX13_9_26 (Nat.le_trans (by decide) V)) g0 dX13_run_23 ?_
    refine s_iconst (v := (1 : Int32)) C dX13_run_26 (by decide) ?_
    refine s_iald C (ag27 (Nat.le_trans (by decide) V)) (by decide) dX13_run_27 ?_
    refine s_iload_n C dX13_run_28 rfl 1 rfl ?_
    refine s_iadd C dX13_run_29 ?_
    refine s_ldcw (v := (1000000 : Int32)) C q2424 dX13_run_30 ?_
    refine s_icmp_le (tgt := 39) C dX13_run_33 (by decide) (fun c5 => ?_) (fun c5 => ?_)
    ·
      refine g_jl (P := fun j50 => ∀ (μ6 : Mem) (x7 : Int32) (x8 : Int32), G X r0 0 0 μ6 50 [(0, .ref (xa X 26 n0)), (1, .int p1), (2, .int x7), (3, .int x8)] [] (j50 μ6 x7 x8)) (fun _ _ _ => g_none) (fun j50 hj50 => ?_) (fun j50 hj50 => ?_)
      · intro μ6 x7 x8
        refine s_iload_n C dX13_run_50 rfl 3 rfl ?_
        refine s_iload_n C dX13_run_51 rfl 1 rfl ?_
        refine s_icmp_ge (tgt := 65) C dX13_run_52 (by decide) (fun c9 => ?_) (fun c9 => ?_)
        ·
          refine s_aload_n C dX13_run_65 rfl 0 rfl ?_
          refine s_callV C R0 (kX13_doneByAll (xl X) fu n0 g0) (Nat.le_trans (by decide) V) mmX13_doneByAll miX13_doneByAll q2433 (rc26 (Nat.le_trans (by decide) V)) g0 rfl rfl rfl (Nat.le_of_ble_eq_true rfl) ⟨Nat.le_of_ble_eq_true rfl, Nat.le_of_ble_eq_true rfl, Nat.le_of_ble_eq_true rfl, Nat.le_of_ble_eq_true rfl⟩ dX13_run_66 (fun x11 μ10 => ?_)
          refine g_st (st' := [.int x11]) rfl ?_
          refine s_iload_n C dX13_run_69 rfl 2 rfl ?_
          refine s_isub C dX13_run_70 ?_
          exact s_iret C E dX13_run_71
        ·
          refine s_aload_n C dX13_run_55 rfl 0 rfl ?_
          refine s_callV C R0 (kX13_passCycle (xl X) fu n0 g0) (Nat.le_trans (by decide) V) mmX13_passCycle miX13_passCycle q2437 (rc26 (Nat.le_trans (by decide) V)) g0 rfl rfl rfl (Nat.le_of_ble_eq_true rfl) ⟨Nat.le_of_ble_eq_true rfl, Nat.le_of_ble_eq_true rfl, Nat.le_of_ble_eq_true rfl, Nat.le_of_ble_eq_true rfl⟩ dX13_run_56 (fun _ μ12 => ?_)
          refine g_st (st' := []) rfl ?_
          refine g_nmQ (fun x13 ex13 => ?_)
          refine s_iinc (v := x13) (j := 3) (L' := [(3, .int x13), (0, .ref (xa X 26 n0)), (1, .int p1), (2, .int x7)]) C dX13_run_59 rfl (by rw [ex13]; rfl) (hN 3 (by decide)) rfl ?_
          refine s_goto (tgt := 50) C dX13_run_62 (by decide) ?_
          exact g_sub [1, 2, 3, 0] rfl (hj50 μ12 x7 x13)
      refine s_aload_n C dX13_run_39 rfl 0 rfl ?_
      refine s_callV C R0 (kX13_record (xl X) fu n0 g0) (Nat.le_trans (by decide) V) mmX13_record miX13_record q2372 (rc26 (Nat.le_trans (by decide) V)) g0 rfl rfl rfl (Nat.le_of_ble_eq_true rfl) ⟨Nat.le_of_ble_eq_true rfl, Nat.le_of_ble_eq_true rfl, Nat.le_of_ble_eq_true rfl, Nat.le_of_ble_eq_true rfl⟩ dX13_run_40 (fun _ μ14 => ?_)
      refine g_st (st' := []) rfl ?_
      refine s_aload_n C dX13_run_43 rfl 0 rfl ?_
      refine s_callV C R0 (kX13_doneByAll (xl X) fu n0 g0) (Nat.le_trans (by decide) V) mmX13_doneByAll miX13_doneByAll q2433 (rc26 (Nat.le_trans (by decide) V)) g0 rfl rfl rfl (Nat.le_of_ble_eq_true rfl) ⟨Nat.le_of_ble_eq_true rfl, Nat.le_of_ble_eq_true rfl, Nat.le_of_ble_eq_true rfl, Nat.le_of_ble_eq_true rfl⟩ dX13_run_44 (fun x16 μ15 => ?_)
      refine g_st (st' := [.int x16]) rfl ?_
      refine s_istore_n (L' := [(2, .int x16), (0, .ref (xa X 26 n0)), (1, .int p1)]) C dX13_run_47 rfl (hN 2 (by decide)) rfl ?_
      refine s_iconst (v := (0 : Int32)) C dX13_run_48 (by decide) ?_
      refine s_istore_n (L' := [(3, .int (0 : Int32)), (2, .int x16), (0, .ref (xa X 26 n0)), (1, .int p1)]) C dX13_run_49 rfl (hN 3 (by decide)) rfl ?_
      exact g_sub [2, 3, 1, 0] rfl (hj50 μ15 x16 (0 : Int32))
    ·
      refine s_bipush (v := (-4 : Int32)) C dX13_run_36 (by decide) ?_
      exact s_iret C E dX13_run_38
  ·
    refine s_aload_n C dX13_run_16 rfl 0 rfl ?_
    refine s_iconst (v := (1 : Int32)) C dX13_run_17 (by decide) ?_
    refine s_callV C R0 (kX13_raise (xl X) n0 g0 (1 : Int32)) (Nat.le_trans (by decide) V) mmX13_raise miX13_raise q2259 (rc26 (Nat.le_trans (by decide) V)) g0 rfl rfl rfl (Nat.le_of_ble_eq_true rfl) ⟨Nat.le_of_ble_eq_true rfl, Nat.le_of_ble_eq_true rfl, Nat.le_of_ble_eq_true rfl, Nat.le_of_ble_eq_true rfl⟩ dX13_run_18 (fun x18 μ17 => ?_)
    refine g_st (st' := [.int x18]) rfl ?_
    exact s_iret C E dX13_run_21
/-! PinEnginesModel.cyclesUntil(III)I -/
def fX13_cyclesUntil (fu : Nat) (n0 : Nat) (p1 : Int32) (p2 : Int32) (p3 : Int32) (μ : Mem) : Option (Int32 × Mem) :=
  nm (wI μ 26 n0 6 (0 : Int32)) fun μ1 =>
  bnd (fX13_isPin p1 μ1) fun x3 μ2 =>
  if ¬ x3 = 0 then (
    jn (fun (μ5 : Mem) =>
      bnd (fX13_raise n0 (2 : Int32) μ5) fun x7 μ6 =>
      some (x7, μ6)
    ) fun j34 =>
    bnd (fX13_inRange p2 (0 : Int32) (1 : Int32) μ2) fun x9 μ8 =>
    if x9 = 0 then (
      j34 μ8
    ) else (
      bnd (fX13_isLimit p3 μ8) fun x12 μ11 =>
      if ¬ x12 = 0 then (
        jn (lp (fun _ _ => none) fu (fun j56 (μ14 : Mem) (x15 : Int32) =>
          jn (fun (μ16 : Mem) (x17 : Int32) =>
            jn (fun (μ18 : Mem) (x19 : Int32) =>
              bnd (fX13_copy fu 2 (0 : Int32) 0 (0 : Int32) μ18) fun _ μ20 =>
              some (x19, μ20)
            ) fun j96 =>
            bnd (fX13_levelOf n0 p1 μ16) fun x22 μ21 =>
            if ¬ x22 = p2 then (
              j96 μ21 (-1 : Int32)
            ) else (
              j96 μ21 x17
            )
          ) fun j81 =>
          if p3 ≤ x15 then (
            j81 μ14 x15
          ) else (
            bnd (fX13_levelOf n0 p1 μ14) fun x26 μ25 =>
            if x26 = p2 then (
              j81 μ25 x15
            ) else (
              bnd (fX13_passCycle fu n0 μ25) fun _ μ28 =>
              nm (x15 + (1 : Int32)) fun x29 =>
              j56 μ28 x29
            )
          )
        )) fun j56 =>
        bnd (fX13_copy fu 0 (0 : Int32) 2 (0 : Int32) μ11) fun _ μ30 =>
        j56 μ30 (0 : Int32)
      ) else (
        j34 μ11
      )
    )
  ) else (
    bnd (fX13_raise n0 (1 : Int32) μ2) fun x32 μ31 =>
    some (x32, μ31)
  )
set_option maxHeartbeats 4000000 in
set_option maxRecDepth 100000 in
theorem kX13_cyclesUntil (l : Launch) (fu : Nat) (n0 : Nat) (g0 : n0 < 1) (p1 : Int32) (p2 : Int32) (p3 : Int32) : Kon 1 l yX13_cyclesUntil cX13_cyclesUntil 6 (some .int) 7 163 0 0 (fun ad => [.ref (ad 26 n0), .int p1, .int p2, .int p3]) rvI (fun μ => fX13_cyclesUntil fu n0 p1 p2 p3 μ) := by
  refine kon_of (by decide) (fun _ => Nat.le_of_ble_eq_true rfl) (fun X r0 μ hXl hXn V C E => ?_)
  have hN : ∀ i : Nat, i < 6 → i < xn X := fun i h => hXn.symm ▸ h
  have R0 := fen_rm E
  show G X r0 0 0 μ 0 [(0, .ref (xa X 26 n0)), (1, .int p1), (2, .int p2), (3, .int p3)] [] (fX13_cyclesUntil fu n0 p1 p2 p3 μ)
  unfold fX13_cyclesUntil
  refine s_aload_n C dX13_cyclesUntil_0 rfl 0 rfl ?_
  refine s_iconst (v := (0 : Int32)) C dX13_cyclesUntil_1 (by decide) ?_
  refine s_putI C (fpX13_231_26 (Nat.le_trans (by decide) V)) g0 dX13_cyclesUntil_2 ?_
  refine g_nmM (fun μ1 => ?_)
  refine s_iload_n C dX13_cyclesUntil_5 rfl 1 rfl ?_
  refine s_callS C R0 (kX13_isPin (xl X) p1) (Nat.le_trans (by decide) V) mmX13_isPin q2254 q2253 rfl rfl rfl rfl (Nat.le_of_ble_eq_true rfl) ⟨Nat.le_of_ble_eq_true rfl, Nat.le_of_ble_eq_true rfl, Nat.le_of_ble_eq_true rfl, Nat.le_of_ble_eq_true rfl⟩ dX13_cyclesUntil_6 (fun x3 μ2 => ?_)
  refine g_st (st' := [.int x3]) rfl ?_
  refine s_if_ne (tgt := 18) C dX13_cyclesUntil_9 (by decide) (fun c4 => ?_) (fun c4 => ?_)
  ·
    refine g_jn (P := fun j34 => ∀ (μ5 : Mem), G X r0 0 0 μ5 34 [(0, .ref (xa X 26 n0))] [] (j34 μ5)) ?_ (fun j34 hj34 => ?_)
    · intro μ5
      refine s_aload_n C dX13_cyclesUntil_34 rfl 0 rfl ?_
      refine s_iconst (v := (2 : Int32)) C dX13_cyclesUntil_35 (by decide) ?_
      refine s_callV C R0 (kX13_raise (xl X) n0 g0 (2 : Int32)) (Nat.le_trans (by decide) V) mmX13_raise miX13_raise q2259 (rc26 (Nat.le_trans (by decide) V)) g0 rfl rfl rfl (Nat.le_of_ble_eq_true rfl) ⟨Nat.le_of_ble_eq_true rfl, Nat.le_of_ble_eq_true rfl, Nat.le_of_ble_eq_true rfl, Nat.le_of_ble_eq_true rfl⟩ dX13_cyclesUntil_36 (fun x7 μ6 => ?_)
      refine g_st (st' := [.int x7]) rfl ?_
      exact s_iret C E dX13_cyclesUntil_39
    refine s_iload_n C dX13_cyclesUntil_18 rfl 2 rfl ?_
    refine s_iconst (v := (0 : Int32)) C dX13_cyclesUntil_19 (by decide) ?_
    refine s_iconst (v := (1 : Int32)) C dX13_cyclesUntil_20 (by decide) ?_
    refine s_callS C R0 (kX13_inRange (xl X) p2 (0 : Int32) (1 : Int32)) (Nat.le_trans (by decide) V) mmX13_inRange q2257 q2256 rfl rfl rfl rfl (Nat.le_of_ble_eq_true rfl) ⟨Nat.le_of_ble_eq_true rfl, Nat.le_of_ble_eq_true rfl, Nat.le_of_ble_eq_true rfl, Nat.le_of_ble_eq_true rfl⟩ dX13_cyclesUntil_21 (fun x9 μ8 => ?_)
    refine g_st (st' := [.int x9]) rfl ?_
    refine s_if_eq (tgt := 34) C dX13_cyclesUntil_24 (by decide) (fun c10 => ?_) (fun c10 => ?_)
    ·
      exact g_sub [0] rfl (hj34 μ8)
    ·
      refine s_iload_n C dX13_cyclesUntil_27 rfl 3 rfl ?_
      refine s_callS C R0 (kX13_isLimit (xl X) p3) (Nat.le_trans (by decide) V) mmX13_isLimit q2585 q2584 rfl rfl rfl rfl (Nat.le_of_ble_eq_true rfl) ⟨Nat.le_of_ble_eq_true rfl, Nat.le_of_ble_eq_true rfl, Nat.le_of_ble_eq_true rfl, Nat.le_of_ble_eq_true rfl⟩ dX13_cyclesUntil_28 (fun x12 μ11 => ?_)
      refine g_st (st' := [.int x12]) rfl ?_
      refine s_if_ne (tgt := 40) C dX13_cyclesUntil_31 (by decide) (fun c13 => ?_) (fun c13 => ?_)
      ·
        refine g_jl (P := fun j56 => ∀ (μ14 : Mem) (x15 : Int32), G X r0 0 0 μ14 56 [(0, .ref (xa X 26 n0)), (1, .int p1), (2, .int p2), (3, .int p3), (4, .int x15)] [] (j56 μ14 x15)) (fun _ _ => g_none) (fun j56 hj56 => ?_) (fun j56 hj56 => ?_)
        · intro μ14 x15
          refine g_jn (P := fun j81 => ∀ (μ16 : Mem) (x17 : Int32), G X r0 0 0 μ16 81 [(0, .ref (xa X 26 n0)), (1, .int p1), (2, .int p2), (4, .int x17)] [] (j81 μ16 x17)) ?_ (fun j81 hj81 => ?_)
          · intro μ16 x17
            refine g_jn (P := fun j96 => ∀ (μ18 : Mem) (x19 : Int32), G X r0 0 0 μ18 96 [(0, .ref (xa X 26 n0))] [.int x19] (j96 μ18 x19)) ?_ (fun j96 hj96 => ?_)
            · intro μ18 x19
              refine s_istore (L' := [(5, .int x19), (0, .ref (xa X 26 n0))]) C dX13_cyclesUntil_96 (hN 5 (by decide)) rfl ?_
              refine s_aload_n C dX13_cyclesUntil_98 rfl 1 rfl ?_
              refine s_getF C (fgX13_16_26 (Nat.le_trans (by decide) V)) g0 dX13_cyclesUntil_99 ?_
              refine s_iconst (v := (0 : Int32)) C dX13_cyclesUntil_102 (by decide) ?_
              refine s_aload_n C dX13_cyclesUntil_103 rfl 1 rfl ?_
              refine s_getF C (fgX13_9_26 (Nat.le_trans (by decide) V)) g0 dX13_cyclesUntil_104 ?_
              refine s_iconst (v := (0 : Int32)) C dX13_cyclesUntil_107 (by decide) ?_
              refine s_callS C R0 (kX13_copy (xl X) fu 2 (by decide) (0 : Int32) 0 (by decide) (0 : Int32)) (Nat.le_trans (by decide) V) mmX13_copy q2377 q2376 rfl rfl rfl rfl (Nat.le_of_ble_eq_true rfl) ⟨Nat.le_of_ble_eq_true rfl, Nat.le_of_ble_eq_true rfl, Nat.le_of_ble_eq_true rfl, Nat.le_of_ble_eq_true rfl⟩ dX13_cyclesUntil_108 (fun _ μ20 => ?_)
              refine g_st (st' := []) rfl ?_
              refine s_iload C dX13_cyclesUntil_111 0 rfl ?_
              exact s_iret C E dX13_cyclesUntil_113
            refine s_aload_n C dX13_cyclesUntil_81 rfl 0 rfl ?_
            refine s_iload_n C dX13_cyclesUntil_82 rfl 1 rfl ?_
            refine s_callV C R0 (kX13_levelOf (xl X) n0 g0 p1) (Nat.le_trans (by decide) V) mmX13_levelOf miX13_levelOf q2263 (rc26 (Nat.le_trans (by decide) V)) g0 rfl rfl rfl (Nat.le_of_ble_eq_true rfl) ⟨Nat.le_of_ble_eq_true rfl, Nat.le_of_ble_eq_true rfl, Nat.le_of_ble_eq_true rfl, Nat.le_of_ble_eq_true rfl⟩ dX13_cyclesUntil_83 (fun x22 μ21 => ?_)
            refine g_st (st' := [.int x22]) rfl ?_
            refine s_iload_n C dX13_cyclesUntil_86 rfl 2 rfl ?_
            refine s_icmp_ne (tgt := 95) C dX13_cyclesUntil_87 (by decide) (fun c23 => ?_) (fun c23 => ?_)
            ·
              refine s_iconst (v := (-1 : Int32)) C dX13_cyclesUntil_95 (by decide) ?_
              exact g_sub [0] rfl (hj96 μ21 (-1 : Int32))
            ·
              refine s_iload C dX13_cyclesUntil_90 3 rfl ?_
              refine s_goto (tgt := 96) C dX13_cyclesUntil_92 (by decide) ?_
              exact g_sub [0] rfl (hj96 μ21 x17)
          refine s_iload C dX13_cyclesUntil_56 4 rfl ?_
          refine s_iload_n C dX13_cyclesUntil_58 rfl 3 rfl ?_
          refine s_icmp_ge (tgt := 81) C dX13_cyclesUntil_59 (by decide) (fun c24 => ?_) (fun c24 => ?_)
          ·
            exact g_sub [0, 1, 2, 4] rfl (hj81 μ14 x15)
          ·
            refine s_aload_n C dX13_cyclesUntil_62 rfl 0 rfl ?_
            refine s_iload_n C dX13_cyclesUntil_63 rfl 1 rfl ?_
            refine s_callV C R0 (kX13_levelOf (xl X) n0 g0 p1) (Nat.le_trans (by decide) V) mmX13_levelOf miX13_levelOf q2263 (rc26 (Nat.le_trans (by decide) V)) g0 rfl rfl rfl (Nat.le_of_ble_eq_true rfl) ⟨Nat.le_of_ble_eq_true rfl, Nat.le_of_ble_eq_true rfl, Nat.le_of_ble_eq_true rfl, Nat.le_of_ble_eq_true rfl⟩ dX13_cyclesUntil_64 (fun x26 μ25 => ?_)
            refine g_st (st' := [.int x26]) rfl ?_
            refine s_iload_n C dX13_cyclesUntil_67 rfl 2 rfl ?_
            refine s_icmp_eq (tgt := 81) C dX13_cyclesUntil_68 (by decide) (fun c27 => ?_) (fun c27 => ?_)
            ·
              exact g_sub [0, 1, 2, 4] rfl (hj81 μ25 x15)
            ·
              refine s_aload_n C dX13_cyclesUntil_71 rfl 0 rfl ?_
              refine s_callV C R0 (kX13_passCycle (xl X) fu n0 g0) (Nat.le_trans (by decide) V) mmX13_passCycle miX13_passCycle q2437 (rc26 (Nat.le_trans (by decide) V)) g0 rfl rfl rfl (Nat.le_of_ble_eq_true rfl) ⟨Nat.le_of_ble_eq_true rfl, Nat.le_of_ble_eq_true rfl, Nat.le_of_ble_eq_true rfl, Nat.le_of_ble_eq_true rfl⟩ dX13_cyclesUntil_72 (fun _ μ28 => ?_)
              refine g_st (st' := []) rfl ?_
              refine g_nmQ (fun x29 ex29 => ?_)
              refine s_iinc (v := x29) (j := 4) (L' := [(4, .int x29), (0, .ref (xa X 26 n0)), (1, .int p1), (2, .int p2), (3, .int p3)]) C dX13_cyclesUntil_75 rfl (by rw [ex29]; rfl) (hN 4 (by decide)) rfl ?_
              refine s_goto (tgt := 56) C dX13_cyclesUntil_78 (by decide) ?_
              exact g_sub [1, 2, 3, 4, 0] rfl (hj56 μ28 x29)
        refine s_aload_n C dX13_cyclesUntil_40 rfl 0 rfl ?_
        refine s_getF C (fgX13_9_26 (Nat.le_trans (by decide) V)) g0 dX13_cyclesUntil_41 ?_
        refine s_iconst (v := (0 : Int32)) C dX13_cyclesUntil_44 (by decide) ?_
        refine s_aload_n C dX13_cyclesUntil_45 rfl 0 rfl ?_
        refine s_getF C (fgX13_16_26 (Nat.le_trans (by decide) V)) g0 dX13_cyclesUntil_46 ?_
        refine s_iconst (v := (0 : Int32)) C dX13_cyclesUntil_49 (by decide) ?_
        refine s_callS C R0 (kX13_copy (xl X) fu 0 (by decide) (0 : Int32) 2 (by decide) (0 : Int32)) (Nat.le_trans (by decide) V) mmX13_copy q2377 q2376 rfl rfl rfl rfl (Nat.le_of_ble_eq_true rfl) ⟨Nat.le_of_ble_eq_true rfl, Nat.le_of_ble_eq_true rfl, Nat.le_of_ble_eq_true rfl, Nat.le_of_ble_eq_true rfl⟩ dX13_cyclesUntil_50 (fun _ μ30 => ?_)
        refine g_st (st' := []) rfl ?_
        refine s_iconst (v := (0 : Int32)) C dX13_cyclesUntil_53 (by decide) ?_
        refine s_istore (L' := [(4, .int (0 : Int32)), (0, .ref (xa X 26 n0)), (1, .int p1), (2, .int p2), (3, .int p3)]) C dX13_cyclesUntil_54 (hN 4 (by decide)) rfl ?_
        exact g_sub [1, 2, 3, 4, 0] rfl (hj56 μ30 (0 : Int32))
      ·
        exact g_sub [0] rfl (hj34 μ11)
  ·
    refine s_aload_n C dX13_cyclesUntil_12 rfl 0 rfl ?_
    refine s_iconst (v := (1 : Int32)) C dX13_cyclesUntil_13 (by decide) ?_
    refine s_callV C R0 (kX13_raise (xl X) n0 g0 (1 : Int32)) (Nat.le_trans (by decide) V) mmX13_raise miX13_raise q2259 (rc26 (Nat.le_trans (by decide) V)) g0 rfl rfl rfl (Nat.le_of_ble_eq_true rfl) ⟨Nat.le_of_ble_eq_true rfl, Nat.le_of_ble_eq_true rfl, Nat.le_of_ble_eq_true rfl, Nat.le_of_ble_eq_true rfl⟩ dX13_cyclesUntil_14 (fun x32 μ31 => ?_)
    refine g_st (st' := [.int x32]) rfl ?_
    exact s_iret C E dX13_cyclesUntil_17
/-! PinEnginesModel.cyclesTo(III)I -/
def fX13_cyclesTo (fu : Nat) (n0 : Nat) (p1 : Int32) (p2 : Int32) (p3 : Int32) (μ : Mem) : Option (Int32 × Mem) :=
  jn (fun (μ1 : Mem) =>
    bnd (fX13_raise n0 (1 : Int32) μ1) fun x3 μ2 =>
    some (x3, μ2)
  ) fun j29 =>
  nm (wI μ 26 n0 6 (0 : Int32)) fun μ4 =>
  bnd (fX13_exists n0 p1 μ4) fun x6 μ5 =>
  if x6 = 0 then (
    j29 μ5
  ) else (
    ckI (0 : Int32) (if 0 = 4 then 7000 else 700) <|
    bnd (fX13_inRange p2 (0 : Int32) ((μ5.1 27 0 (0 : Int32).toNatClampNeg) - (1 : Int32)) μ5) fun x9 μ8 =>
    if ¬ x9 = 0 then (
      bnd (fX13_isLimit p3 μ8) fun x12 μ11 =>
      if ¬ x12 = 0 then (
        jn (lp (fun _ _ => none) fu (fun j64 (μ14 : Mem) (x15 : Int32) =>
          jn (fun (μ16 : Mem) (x17 : Int32) =>
            jn (fun (μ18 : Mem) (x19 : Int32) =>
              bnd (fX13_copy fu 2 (0 : Int32) 0 (0 : Int32) μ18) fun _ μ20 =>
              some (x19, μ20)
            ) fun j106 =>
            bnd (fX13_of n0 p1 (1 : Int32) μ16) fun x22 μ21 =>
            if ¬ x22 = p2 then (
              j106 μ21 (-1 : Int32)
            ) else (
              j106 μ21 x17
            )
          ) fun j90 =>
          if p3 ≤ x15 then (
            j90 μ14 x15
          ) else (
            bnd (fX13_of n0 p1 (1 : Int32) μ14) fun x26 μ25 =>
            if x26 = p2 then (
              j90 μ25 x15
            ) else (
              bnd (fX13_passCycle fu n0 μ25) fun _ μ28 =>
              nm (x15 + (1 : Int32)) fun x29 =>
              j64 μ28 x29
            )
          )
        )) fun j64 =>
        bnd (fX13_copy fu 0 (0 : Int32) 2 (0 : Int32) μ11) fun _ μ30 =>
        j64 μ30 (0 : Int32)
      ) else (
        bnd (fX13_raise n0 (2 : Int32) μ11) fun x32 μ31 =>
        some (x32, μ31)
      )
    ) else (
      j29 μ8
    )
  )
set_option maxHeartbeats 4000000 in
set_option maxRecDepth 100000 in
theorem kX13_cyclesTo (l : Launch) (fu : Nat) (n0 : Nat) (g0 : n0 < 1) (p1 : Int32) (p2 : Int32) (p3 : Int32) : Kon 1 l yX13_cyclesTo cX13_cyclesTo 6 (some .int) 7 163 0 0 (fun ad => [.ref (ad 26 n0), .int p1, .int p2, .int p3]) rvI (fun μ => fX13_cyclesTo fu n0 p1 p2 p3 μ) := by
  refine kon_of (by decide) (fun _ => Nat.le_of_ble_eq_true rfl) (fun X r0 μ hXl hXn V C E => ?_)
  have hN : ∀ i : Nat, i < 6 → i < xn X := fun i h => hXn.symm ▸ h
  have R0 := fen_rm E
  show G X r0 0 0 μ 0 [(0, .ref (xa X 26 n0)), (1, .int p1), (2, .int p2), (3, .int p3)] [] (fX13_cyclesTo fu n0 p1 p2 p3 μ)
  unfold fX13_cyclesTo
  refine g_jn (P := fun j29 => ∀ (μ1 : Mem), G X r0 0 0 μ1 29 [(0, .ref (xa X 26 n0))] [] (j29 μ1)) ?_ (fun j29 hj29 => ?_)
  · intro μ1
    refine s_aload_n C dX13_cyclesTo_29 rfl 0 rfl ?_
    refine s_iconst (v := (1 : Int32)) C dX13_cyclesTo_30 (by decide) ?_
    refine s_callV C R0 (kX13_raise (xl X) n0 g0 (1 : Int32)) (Nat.le_trans (by decide) V) mmX13_raise miX13_raise q2259 (rc26 (Nat.le_trans (by decide) V)) g0 rfl rfl rfl (Nat.le_of_ble_eq_true rfl) ⟨Nat.le_of_ble_eq_true rfl, Nat.le_of_ble_eq_true rfl, Nat.le_of_ble_eq_true rfl, Nat.le_of_ble_eq_true rfl⟩ dX13_cyclesTo_31 (fun x3 μ2 => ?_)
    refine g_st (st' := [.int x3]) rfl ?_
    exact s_iret C E dX13_cyclesTo_34
  refine s_aload_n C dX13_cyclesTo_0 rfl 0 rfl ?_
  refine s_iconst (v := (0 : Int32)) C dX13_cyclesTo_1 (by decide) ?_
  refine s_putI C (fpX13_231_26 (Nat.le_trans (by decide) V)) g0 dX13_cyclesTo_2 ?_
  refine g_nmM (fun μ4 => ?_)
  refine s_aload_n C dX13_cyclesTo_5 rfl 0 rfl ?_
  refine s_iload_n C dX13_cyclesTo_6 rfl 1 rfl ?_
  refine s_callV C R0 (kX13_exists (xl X) n0 g0 p1) (Nat.le_trans (by decide) V) mmX13_exists miX13_exists q2303 (rc26 (Nat.le_trans (by decide) V)) g0 rfl rfl rfl (Nat.le_of_ble_eq_true rfl) ⟨Nat.le_of_ble_eq_true rfl, Nat.le_of_ble_eq_true rfl, Nat.le_of_ble_eq_true rfl, Nat.le_of_ble_eq_true rfl⟩ dX13_cyclesTo_7 (fun x6 μ5 => ?_)
  refine g_st (st' := [.int x6]) rfl ?_
  refine s_if_eq (tgt := 29) C dX13_cyclesTo_10 (by decide) (fun c7 => ?_) (fun c7 => ?_)
  ·
    exact g_sub [0] rfl (hj29 μ5)
  ·
    refine s_iload_n C dX13_cyclesTo_13 rfl 2 rfl ?_
    refine s_iconst (v := (0 : Int32)) C dX13_cyclesTo_14 (by decide) ?_
    refine s_aload_n C dX13_cyclesTo_15 rfl 0 rfl ?_
    refine s_getF C (fgX13_9_26 (Nat.le_trans (by decide) V)) g0 dX13_cyclesTo_16 ?_
    refine s_iconst (v := (0 : Int32)) C dX13_cyclesTo_19 (by decide) ?_
    refine s_iald C (ag27 (Nat.le_trans (by decide) V)) (by decide) dX13_cyclesTo_20 ?_
    refine s_iconst (v := (1 : Int32)) C dX13_cyclesTo_21 (by decide) ?_
    refine s_isub C dX13_cyclesTo_22 ?_
    refine s_callS C R0 (kX13_inRange (xl X) p2 (0 : Int32) ((μ5.1 27 0 (0 : Int32).toNatClampNeg) - (1 : Int32))) (Nat.le_trans (by decide) V) mmX13_inRange q2257 q2256 rfl rfl rfl rfl (Nat.le_of_ble_eq_true rfl) ⟨Nat.le_of_ble_eq_true rfl, Nat.le_of_ble_eq_true rfl, Nat.le_of_ble_eq_true rfl, Nat.le_of_ble_eq_true rfl⟩ dX13_cyclesTo_23 (fun x9 μ8 => ?_)
    refine g_st (st' := [.int x9]) rfl ?_
    refine s_if_ne (tgt := 35) C dX13_cyclesTo_26 (by decide) (fun c10 => ?_) (fun c10 => ?_)
    ·
      refine s_iload_n C dX13_cyclesTo_35 rfl 3 rfl ?_
      refine s_callS C R0 (kX13_isLimit (xl X) p3) (Nat.le_trans (by decide) V) mmX13_isLimit q2585 q2584 rfl rfl rfl rfl (Nat.le_of_ble_eq_true rfl) ⟨Nat.le_of_ble_eq_true rfl, Nat.le_of_ble_eq_true rfl, Nat.le_of_ble_eq_true rfl, Nat.le_of_ble_eq_true rfl⟩ dX13_cyclesTo_36 (fun x12 μ11 => ?_)
      refine g_st (st' := [.int x12]) rfl ?_
      refine s_if_ne (tgt := 48) C dX13_cyclesTo_39 (by decide) (fun c13 => ?_) (fun c13 => ?_)
      ·
        refine g_jl (P := fun j64 => ∀ (μ14 : Mem) (x15 : Int32), G X r0 0 0 μ14 64 [(0, .ref (xa X 26 n0)), (1, .int p1), (2, .int p2), (3, .int p3), (4, .int x15)] [] (j64 μ14 x15)) (fun _ _ => g_none) (fun j64 hj64 => ?_) (fun j64 hj64 => ?_)
        · intro μ14 x15
          refine g_jn (P := fun j90 => ∀ (μ16 : Mem) (x17 : Int32), G X r0 0 0 μ16 90 [(0, .ref (xa X 26 n0)), (1, .int p1), (2, .int p2), (4, .int x17)] [] (j90 μ16 x17)) ?_ (fun j90 hj90 => ?_)
          · intro μ16 x17
            refine g_jn (P := fun j106 => ∀ (μ18 : Mem) (x19 : Int32), G X r0 0 0 μ18 106 [(0, .ref (xa X 26 n0))] [.int x19] (j106 μ18 x19)) ?_ (fun j106 hj106 => ?_)
            · intro μ18 x19
              refine s_istore (L' := [(5, .int x19), (0, .ref (xa X 26 n0))]) C dX13_cyclesTo_106 (hN 5 (by decide)) rfl ?_
              refine s_aload_n C dX13_cyclesTo_108 rfl 1 rfl ?_
              refine s_getF C (fgX13_16_26 (Nat.le_trans (by decide) V)) g0 dX13_cyclesTo_109 ?_
              refine s_iconst (v := (0 : Int32)) C dX13_cyclesTo_112 (by decide) ?_
              refine s_aload_n C dX13_cyclesTo_113 rfl 1 rfl ?_
              refine s_getF C (fgX13_9_26 (Nat.le_trans (by decide) V)) g0 dX13_cyclesTo_114 ?_
              refine s_iconst (v := (0 : Int32)) C dX13_cyclesTo_117 (by decide) ?_
              refine s_callS C R0 (kX13_copy (xl X) fu 2 (by decide) (0 : Int32) 0 (by decide) (0 : Int32)) (Nat.le_trans (by decide) V) mmX13_copy q2377 q2376 rfl rfl rfl rfl (Nat.le_of_ble_eq_true rfl) ⟨Nat.le_of_ble_eq_true rfl, Nat.le_of_ble_eq_true rfl, Nat.le_of_ble_eq_true rfl, Nat.le_of_ble_eq_true rfl⟩ dX13_cyclesTo_118 (fun _ μ20 => ?_)
              refine g_st (st' := []) rfl ?_
              refine s_iload C dX13_cyclesTo_121 0 rfl ?_
              exact s_iret C E dX13_cyclesTo_123
            refine s_aload_n C dX13_cyclesTo_90 rfl 0 rfl ?_
            refine s_iload_n C dX13_cyclesTo_91 rfl 1 rfl ?_
            refine s_iconst (v := (1 : Int32)) C dX13_cyclesTo_92 (by decide) ?_
            refine s_callV C R0 (kX13_of (xl X) n0 g0 p1 (1 : Int32)) (Nat.le_trans (by decide) V) mmX13_of miX13_of q2307 (rc26 (Nat.le_trans (by decide) V)) g0 rfl rfl rfl (Nat.le_of_ble_eq_true rfl) ⟨Nat.le_of_ble_eq_true rfl, Nat.le_of_ble_eq_true rfl, Nat.le_of_ble_eq_true rfl, Nat.le_of_ble_eq_true rfl⟩ dX13_cyclesTo_93 (fun x22 μ21 => ?_)
            refine g_st (st' := [.int x22]) rfl ?_
            refine s_iload_n C dX13_cyclesTo_96 rfl 2 rfl ?_
            refine s_icmp_ne (tgt := 105) C dX13_cyclesTo_97 (by decide) (fun c23 => ?_) (fun c23 => ?_)
            ·
              refine s_iconst (v := (-1 : Int32)) C dX13_cyclesTo_105 (by decide) ?_
              exact g_sub [0] rfl (hj106 μ21 (-1 : Int32))
            ·
              refine s_iload C dX13_cyclesTo_100 3 rfl ?_
              refine s_goto (tgt := 106) C dX13_cyclesTo_102 (by decide) ?_
              exact g_sub [0] rfl (hj106 μ21 x17)
          refine s_iload C dX13_cyclesTo_64 4 rfl ?_
          refine s_iload_n C dX13_cyclesTo_66 rfl 3 rfl ?_
          refine s_icmp_ge (tgt := 90) C dX13_cyclesTo_67 (by decide) (fun c24 => ?_) (fun c24 => ?_)
          ·
            exact g_sub [0, 1, 2, 4] rfl (hj90 μ14 x15)
          ·
            refine s_aload_n C dX13_cyclesTo_70 rfl 0 rfl ?_
            refine s_iload_n C dX13_cyclesTo_71 rfl 1 rfl ?_
            refine s_iconst (v := (1 : Int32)) C dX13_cyclesTo_72 (by decide) ?_
            refine s_callV C R0 (kX13_of (xl X) n0 g0 p1 (1 : Int32)) (Nat.le_trans (by decide) V) mmX13_of miX13_of q2307 (rc26 (Nat.le_trans (by decide) V)) g0 rfl rfl rfl (Nat.le_of_ble_eq_true rfl) ⟨Nat.le_of_ble_eq_true rfl, Nat.le_of_ble_eq_true rfl, Nat.le_of_ble_eq_true rfl, Nat.le_of_ble_eq_true rfl⟩ dX13_cyclesTo_73 (fun x26 μ25 => ?_)
            refine g_st (st' := [.int x26]) rfl ?_
            refine s_iload_n C dX13_cyclesTo_76 rfl 2 rfl ?_
            refine s_icmp_eq (tgt := 90) C dX13_cyclesTo_77 (by decide) (fun c27 => ?_) (fun c27 => ?_)
            ·
              exact g_sub [0, 1, 2, 4] rfl (hj90 μ25 x15)
            ·
              refine s_aload_n C dX13_cyclesTo_80 rfl 0 rfl ?_
              refine s_callV C R0 (kX13_passCycle (xl X) fu n0 g0) (Nat.le_trans (by decide) V) mmX13_passCycle miX13_passCycle q2437 (rc26 (Nat.le_trans (by decide) V)) g0 rfl rfl rfl (Nat.le_of_ble_eq_true rfl) ⟨Nat.le_of_ble_eq_true rfl, Nat.le_of_ble_eq_true rfl, Nat.le_of_ble_eq_true rfl, Nat.le_of_ble_eq_true rfl⟩ dX13_cyclesTo_81 (fun _ μ28 => ?_)
              refine g_st (st' := []) rfl ?_
              refine g_nmQ (fun x29 ex29 => ?_)
              refine s_iinc (v := x29) (j := 4) (L' := [(4, .int x29), (0, .ref (xa X 26 n0)), (1, .int p1), (2, .int p2), (3, .int p3)]) C dX13_cyclesTo_84 rfl (by rw [ex29]; rfl) (hN 4 (by decide)) rfl ?_
              refine s_goto (tgt := 64) C dX13_cyclesTo_87 (by decide) ?_
              exact g_sub [1, 2, 3, 4, 0] rfl (hj64 μ28 x29)
        refine s_aload_n C dX13_cyclesTo_48 rfl 0 rfl ?_
        refine s_getF C (fgX13_9_26 (Nat.le_trans (by decide) V)) g0 dX13_cyclesTo_49 ?_
        refine s_iconst (v := (0 : Int32)) C dX13_cyclesTo_52 (by decide) ?_
        refine s_aload_n C dX13_cyclesTo_53 rfl 0 rfl ?_
        refine s_getF C (fgX13_16_26 (Nat.le_trans (by decide) V)) g0 dX13_cyclesTo_54 ?_
        refine s_iconst (v := (0 : Int32)) C dX13_cyclesTo_57 (by decide) ?_
        refine s_callS C R0 (kX13_copy (xl X) fu 0 (by decide) (0 : Int32) 2 (by decide) (0 : Int32)) (Nat.le_trans (by decide) V) mmX13_copy q2377 q2376 rfl rfl rfl rfl (Nat.le_of_ble_eq_true rfl) ⟨Nat.le_of_ble_eq_true rfl, Nat.le_of_ble_eq_true rfl, Nat.le_of_ble_eq_true rfl, Nat.le_of_ble_eq_true rfl⟩ dX13_cyclesTo_58 (fun _ μ30 => ?_)
        refine g_st (st' := []) rfl ?_
        refine s_iconst (v := (0 : Int32)) C dX13_cyclesTo_61 (by decide) ?_
        refine s_istore (L' := [(4, .int (0 : Int32)), (0, .ref (xa X 26 n0)), (1, .int p1), (2, .int p2), (3, .int p3)]) C dX13_cyclesTo_62 (hN 4 (by decide)) rfl ?_
        exact g_sub [1, 2, 3, 4, 0] rfl (hj64 μ30 (0 : Int32))
      ·
        refine s_aload_n C dX13_cyclesTo_42 rfl 0 rfl ?_
        refine s_iconst (v := (2 : Int32)) C dX13_cyclesTo_43 (by decide) ?_
        refine s_callV C R0 (kX13_raise (xl X) n0 g0 (2 : Int32)) (Nat.le_trans (by decide) V) mmX13_raise miX13_raise q2259 (rc26 (Nat.le_trans (by decide) V)) g0 rfl rfl rfl (Nat.le_of_ble_eq_true rfl) ⟨Nat.le_of_ble_eq_true rfl, Nat.le_of_ble_eq_true rfl, Nat.le_of_ble_eq_true rfl, Nat.le_of_ble_eq_true rfl⟩ dX13_cyclesTo_44 (fun x32 μ31 => ?_)
        refine g_st (st' := [.int x32]) rfl ?_
        exact s_iret C E dX13_cyclesTo_47
    ·
      exact g_sub [0] rfl (hj29 μ8)
/-! PinEnginesModel.period(II)I -/
def fX13_period (fu : Nat) (n0 : Nat) (p1 : Int32) (p2 : Int32) (μ : Mem) : Option (Int32 × Mem) :=
  nm (wI μ 26 n0 6 (0 : Int32)) fun μ1 =>
  bnd (fX13_isPin p1 μ1) fun x3 μ2 =>
  if ¬ x3 = 0 then (
    bnd (fX13_isLimit p2 μ2) fun x6 μ5 =>
    if ¬ x6 = 0 then (
      jn (lp (fun _ _ _ _ => none) fu (fun j52 (μ8 : Mem) (x9 : Int32) (x10 : Int32) (x11 : Int32) =>
        jn (fun (μ12 : Mem) (x13 : Int32) =>
          bnd (fX13_copy fu 2 (0 : Int32) 0 (0 : Int32) μ12) fun _ μ14 =>
          some (x13, μ14)
        ) fun j122 =>
        if p2 < x11 then (
          j122 μ8 x10
        ) else (
          if ¬ x10 = (-1 : Int32) then (
            j122 μ8 x10
          ) else (
            jn (fun (μ17 : Mem) (x18 : Int32) (x19 : Int32) (x20 : Int32) =>
              nm (x20 + (1 : Int32)) fun x21 =>
              j52 μ17 x18 x19 x21
            ) fun j116 =>
            bnd (fX13_levelOf n0 p1 μ8) fun x23 μ22 =>
            bnd (fX13_passCycle fu n0 μ22) fun _ μ24 =>
            if ¬ x23 = 0 then (
              j116 μ24 x9 x10 x11
            ) else (
              bnd (fX13_levelOf n0 p1 μ24) fun x27 μ26 =>
              if ¬ x27 = (1 : Int32) then (
                j116 μ26 x9 x10 x11
              ) else (
                jn (fun (μ29 : Mem) (x30 : Int32) (x31 : Int32) =>
                  jn (fun (μ32 : Mem) (x33 : Int32) (x34 : Int32) =>
                    j116 μ32 x34 x33 x11
                  ) fun j115 =>
                  if ¬ x30 = (-1 : Int32) then (
                    j115 μ29 x31 x30
                  ) else (
                    j115 μ29 x31 x11
                  )
                ) fun j102 =>
                if ¬ x9 = (-1 : Int32) then (
                  j102 μ26 x9 (x11 - x9)
                ) else (
                  j102 μ26 x9 (-1 : Int32)
                )
              )
            )
          )
        )
      )) fun j52 =>
      bnd (fX13_copy fu 0 (0 : Int32) 2 (0 : Int32) μ5) fun _ μ37 =>
      j52 μ37 (-1 : Int32) (-1 : Int32) (1 : Int32)
    ) else (
      bnd (fX13_raise n0 (2 : Int32) μ5) fun x39 μ38 =>
      some (x39, μ38)
    )
  ) else (
    bnd (fX13_raise n0 (1 : Int32) μ2) fun x41 μ40 =>
    some (x41, μ40)
  )
set_option maxHeartbeats 4000000 in
set_option maxRecDepth 100000 in
theorem kX13_period (l : Launch) (fu : Nat) (n0 : Nat) (g0 : n0 < 1) (p1 : Int32) (p2 : Int32) : Kon 1 l yX13_period cX13_period 7 (some .int) 7 163 0 0 (fun ad => [.ref (ad 26 n0), .int p1, .int p2]) rvI (fun μ => fX13_period fu n0 p1 p2 μ) := by
  refine kon_of (by decide) (fun _ => Nat.le_of_ble_eq_true rfl) (fun X r0 μ hXl hXn V C E => ?_)
  have hN : ∀ i : Nat, i < 7 → i < xn X := fun i h => hXn.symm ▸ h
  have R0 := fen_rm E
  show G X r0 0 0 μ 0 [(0, .ref (xa X 26 n0)), (1, .int p1), (2, .int p2)] [] (fX13_period fu n0 p1 p2 μ)
  unfold fX13_period
  refine s_aload_n C dX13_period_0 rfl 0 rfl ?_
  refine s_iconst (v := (0 : Int32)) C dX13_period_1 (by decide) ?_
  refine s_putI C (fpX13_231_26 (Nat.le_trans (by decide) V)) g0 dX13_period_2 ?_
  refine g_nmM (fun μ1 => ?_)
  refine s_iload_n C dX13_period_5 rfl 1 rfl ?_
  refine s_callS C R0 (kX13_isPin (xl X) p1) (Nat.le_trans (by decide) V) mmX13_isPin q2254 q2253 rfl rfl rfl rfl (Nat.le_of_ble_eq_true rfl) ⟨Nat.le_of_ble_eq_true rfl, Nat.le_of_ble_eq_true rfl, Nat.le_of_ble_eq_true rfl, Nat.le_of_ble_eq_true rfl⟩ dX13_period_6 (fun x3 μ2 => ?_)
  refine g_st (st' := [.int x3]) rfl ?_
  refine s_if_ne (tgt := 18) C dX13_period_9 (by decide) (fun c4 => ?_) (fun c4 => ?_)
  ·
    refine s_iload_n C dX13_period_18 rfl 2 rfl ?_
    refine s_callS C R0 (kX13_isLimit (xl X) p2) (Nat.le_trans (by decide) V) mmX13_isLimit q2585 q2584 rfl rfl rfl rfl (Nat.le_of_ble_eq_true rfl) ⟨Nat.le_of_ble_eq_true rfl, Nat.le_of_ble_eq_true rfl, Nat.le_of_ble_eq_true rfl, Nat.le_of_ble_eq_true rfl⟩ dX13_period_19 (fun x6 μ5 => ?_)
    refine g_st (st' := [.int x6]) rfl ?_
    refine s_if_ne (tgt := 31) C dX13_period_22 (by decide) (fun c7 => ?_) (fun c7 => ?_)
    ·
      refine g_jl (P := fun j52 => ∀ (μ8 : Mem) (x9 : Int32) (x10 : Int32) (x11 : Int32), G X r0 0 0 μ8 52 [(0, .ref (xa X 26 n0)), (1, .int p1), (2, .int p2), (3, .int x9), (4, .int x10), (5, .int x11)] [] (j52 μ8 x9 x10 x11)) (fun _ _ _ _ => g_none) (fun j52 hj52 => ?_) (fun j52 hj52 => ?_)
      · intro μ8 x9 x10 x11
        refine g_jn (P := fun j122 => ∀ (μ12 : Mem) (x13 : Int32), G X r0 0 0 μ12 122 [(0, .ref (xa X 26 n0)), (4, .int x13)] [] (j122 μ12 x13)) ?_ (fun j122 hj122 => ?_)
        · intro μ12 x13
          refine s_aload_n C dX13_period_122 rfl 0 rfl ?_
          refine s_getF C (fgX13_16_26 (Nat.le_trans (by decide) V)) g0 dX13_period_123 ?_
          refine s_iconst (v := (0 : Int32)) C dX13_period_126 (by decide) ?_
          refine s_aload_n C dX13_period_127 rfl 0 rfl ?_
          refine s_getF C (fgX13_9_26 (Nat.le_trans (by decide) V)) g0 dX13_period_128 ?_
          refine s_iconst (v := (0 : Int32)) C dX13_period_131 (by decide) ?_
          refine s_callS C R0 (kX13_copy (xl X) fu 2 (by decide) (0 : Int32) 0 (by decide) (0 : Int32)) (Nat.le_trans (by decide) V) mmX13_copy q2377 q2376 rfl rfl rfl rfl (Nat.le_of_ble_eq_true rfl) ⟨Nat.le_of_ble_eq_true rfl, Nat.le_of_ble_eq_true rfl, Nat.le_of_ble_eq_true rfl, Nat.le_of_ble_eq_true rfl⟩ dX13_period_132 (fun _ μ14 => ?_)
          refine g_st (st' := []) rfl ?_
          refine s_iload C dX13_period_135 1 rfl ?_
          exact s_iret C E dX13_period_137
        refine s_iload C dX13_period_52 5 rfl ?_
        refine s_iload_n C dX13_period_54 rfl 2 rfl ?_
        refine s_icmp_gt (tgt := 122) C dX13_period_55 (by decide) (fun c15 => ?_) (fun c15 => ?_)
        ·
          exact g_sub [0, 4] rfl (hj122 μ8 x10)
        ·
          refine s_iload C dX13_period_58 4 rfl ?_
          refine s_iconst (v := (-1 : Int32)) C dX13_period_60 (by decide) ?_
          refine s_icmp_ne (tgt := 122) C dX13_period_61 (by decide) (fun c16 => ?_) (fun c16 => ?_)
          ·
            exact g_sub [0, 4] rfl (hj122 μ8 x10)
          ·
            refine g_jn (P := fun j116 => ∀ (μ17 : Mem) (x18 : Int32) (x19 : Int32) (x20 : Int32), G X r0 0 0 μ17 116 [(0, .ref (xa X 26 n0)), (1, .int p1), (2, .int p2), (3, .int x18), (4, .int x19), (5, .int x20)] [] (j116 μ17 x18 x19 x20)) ?_ (fun j116 hj116 => ?_)
            · intro μ17 x18 x19 x20
              refine g_nmQ (fun x21 ex21 => ?_)
              refine s_iinc (v := x21) (j := 5) (L' := [(5, .int x21), (0, .ref (xa X 26 n0)), (1, .int p1), (2, .int p2), (3, .int x18), (4, .int x19)]) C dX13_period_116 rfl (by rw [ex21]; rfl) (hN 5 (by decide)) rfl ?_
              refine s_goto (tgt := 52) C dX13_period_119 (by decide) ?_
              exact g_sub [1, 2, 3, 4, 5, 0] rfl (hj52 μ17 x18 x19 x21)
            refine s_aload_n C dX13_period_64 rfl 0 rfl ?_
            refine s_iload_n C dX13_period_65 rfl 1 rfl ?_
            refine s_callV C R0 (kX13_levelOf (xl X) n0 g0 p1) (Nat.le_trans (by decide) V) mmX13_levelOf miX13_levelOf q2263 (rc26 (Nat.le_trans (by decide) V)) g0 rfl rfl rfl (Nat.le_of_ble_eq_true rfl) ⟨Nat.le_of_ble_eq_true rfl, Nat.le_of_ble_eq_true rfl, Nat.le_of_ble_eq_true rfl, Nat.le_of_ble_eq_true rfl⟩ dX13_period_66 (fun x23 μ22 => ?_)
            refine g_st (st' := [.int x23]) rfl ?_
            refine s_istore (L' := [(6, .int x23), (0, .ref (xa X 26 n0)), (1, .int p1), (2, .int p2), (3, .int x9), (4, .int x10), (5, .int x11)]) C dX13_period_69 (hN 6 (by decide)) rfl ?_
            refine s_aload_n C dX13_period_71 rfl 1 rfl ?_
            refine s_callV C R0 (kX13_passCycle (xl X) fu n0 g0) (Nat.le_trans (by decide) V) mmX13_passCycle miX13_passCycle q2437 (rc26 (Nat.le_trans (by decide) V)) g0 rfl rfl rfl (Nat.le_of_ble_eq_true rfl) ⟨Nat.le_of_ble_eq_true rfl, Nat.le_of_ble_eq_true rfl, Nat.le_of_ble_eq_true rfl, Nat.le_of_ble_eq_true rfl⟩ dX13_period_72 (fun _ μ24 => ?_)
            refine g_st (st' := []) rfl ?_
            refine s_iload C dX13_period_75 0 rfl ?_
            refine s_if_ne (tgt := 116) C dX13_period_77 (by decide) (fun c25 => ?_) (fun c25 => ?_)
            ·
              exact g_sub [1, 2, 3, 4, 5, 6] rfl (hj116 μ24 x9 x10 x11)
            ·
              refine s_aload_n C dX13_period_80 rfl 1 rfl ?_
              refine s_iload_n C dX13_period_81 rfl 2 rfl ?_
              refine s_callV C R0 (kX13_levelOf (xl X) n0 g0 p1) (Nat.le_trans (by decide) V) mmX13_levelOf miX13_levelOf q2263 (rc26 (Nat.le_trans (by decide) V)) g0 rfl rfl rfl (Nat.le_of_ble_eq_true rfl) ⟨Nat.le_of_ble_eq_true rfl, Nat.le_of_ble_eq_true rfl, Nat.le_of_ble_eq_true rfl, Nat.le_of_ble_eq_true rfl⟩ dX13_period_82 (fun x27 μ26 => ?_)
              refine g_st (st' := [.int x27]) rfl ?_
              refine s_iconst (v := (1 : Int32)) C dX13_period_85 (by decide) ?_
              refine s_icmp_ne (tgt := 116) C dX13_period_86 (by decide) (fun c28 => ?_) (fun c28 => ?_)
              ·
                exact g_sub [1, 2, 3, 4, 5, 6] rfl (hj116 μ26 x9 x10 x11)
              ·
                refine g_jn (P := fun j102 => ∀ (μ29 : Mem) (x30 : Int32) (x31 : Int32), G X r0 0 0 μ29 102 [(0, .ref (xa X 26 n0)), (1, .int p1), (2, .int p2), (3, .int x30), (5, .int x11)] [.int x31] (j102 μ29 x30 x31)) ?_ (fun j102 hj102 => ?_)
                · intro μ29 x30 x31
                  refine g_jn (P := fun j115 => ∀ (μ32 : Mem) (x33 : Int32) (x34 : Int32), G X r0 0 0 μ32 115 [(0, .ref (xa X 26 n0)), (1, .int p1), (2, .int p2), (4, .int x33), (5, .int x11)] [.int x34] (j115 μ32 x33 x34)) ?_ (fun j115 hj115 => ?_)
                  · intro μ32 x33 x34
                    refine s_istore_n (L' := [(3, .int x34), (0, .ref (xa X 26 n0)), (1, .int p1), (2, .int p2), (4, .int x33), (5, .int x11)]) C dX13_period_115 rfl (hN 3 (by decide)) rfl ?_
                    exact g_sub [1, 2, 3, 0, 4, 5] rfl (hj116 μ32 x34 x33 x11)
                  refine s_istore (L' := [(4, .int x31), (0, .ref (xa X 26 n0)), (1, .int p1), (2, .int p2), (3, .int x30), (5, .int x11)]) C dX13_period_102 (hN 4 (by decide)) rfl ?_
                  refine s_iload_n C dX13_period_104 rfl 4 rfl ?_
                  refine s_iconst (v := (-1 : Int32)) C dX13_period_105 (by decide) ?_
                  refine s_icmp_ne (tgt := 114) C dX13_period_106 (by decide) (fun c35 => ?_) (fun c35 => ?_)
                  ·
                    refine s_iload_n C dX13_period_114 rfl 4 rfl ?_
                    exact g_sub [1, 2, 3, 0, 5] rfl (hj115 μ29 x31 x30)
                  ·
                    refine s_iload C dX13_period_109 5 rfl ?_
                    refine s_goto (tgt := 115) C dX13_period_111 (by decide) ?_
                    exact g_sub [1, 2, 3, 0, 5] rfl (hj115 μ29 x31 x11)
                refine s_iload_n C dX13_period_89 rfl 4 rfl ?_
                refine s_iconst (v := (-1 : Int32)) C dX13_period_90 (by decide) ?_
                refine s_icmp_ne (tgt := 98) C dX13_period_91 (by decide) (fun c36 => ?_) (fun c36 => ?_)
                ·
                  refine s_iload C dX13_period_98 6 rfl ?_
                  refine s_iload_n C dX13_period_100 rfl 4 rfl ?_
                  refine s_isub C dX13_period_101 ?_
                  exact g_sub [1, 2, 3, 4, 6] rfl (hj102 μ26 x9 (x11 - x9))
                ·
                  refine s_iconst (v := (-1 : Int32)) C dX13_period_94 (by decide) ?_
                  refine s_goto (tgt := 102) C dX13_period_95 (by decide) ?_
                  exact g_sub [1, 2, 3, 4, 6] rfl (hj102 μ26 x9 (-1 : Int32))
      refine s_aload_n C dX13_period_31 rfl 0 rfl ?_
      refine s_getF C (fgX13_9_26 (Nat.le_trans (by decide) V)) g0 dX13_period_32 ?_
      refine s_iconst (v := (0 : Int32)) C dX13_period_35 (by decide) ?_
      refine s_aload_n C dX13_period_36 rfl 0 rfl ?_
      refine s_getF C (fgX13_16_26 (Nat.le_trans (by decide) V)) g0 dX13_period_37 ?_
      refine s_iconst (v := (0 : Int32)) C dX13_period_40 (by decide) ?_
      refine s_callS C R0 (kX13_copy (xl X) fu 0 (by decide) (0 : Int32) 2 (by decide) (0 : Int32)) (Nat.le_trans (by decide) V) mmX13_copy q2377 q2376 rfl rfl rfl rfl (Nat.le_of_ble_eq_true rfl) ⟨Nat.le_of_ble_eq_true rfl, Nat.le_of_ble_eq_true rfl, Nat.le_of_ble_eq_true rfl, Nat.le_of_ble_eq_true rfl⟩ dX13_period_41 (fun _ μ37 => ?_)
      refine g_st (st' := []) rfl ?_
      refine s_iconst (v := (-1 : Int32)) C dX13_period_44 (by decide) ?_
      refine s_istore_n (L' := [(3, .int (-1 : Int32)), (0, .ref (xa X 26 n0)), (1, .int p1), (2, .int p2)]) C dX13_period_45 rfl (hN 3 (by decide)) rfl ?_
      refine s_iconst (v := (-1 : Int32)) C dX13_period_46 (by decide) ?_
      refine s_istore (L' := [(4, .int (-1 : Int32)), (3, .int (-1 : Int32)), (0, .ref (xa X 26 n0)), (1, .int p1), (2, .int p2)]) C dX13_period_47 (hN 4 (by decide)) rfl ?_
      refine s_iconst (v := (1 : Int32)) C dX13_period_49 (by decide) ?_
      refine s_istore (L' := [(5, .int (1 : Int32)), (4, .int (-1 : Int32)), (3, .int (-1 : Int32)), (0, .ref (xa X 26 n0)), (1, .int p1), (2, .int p2)]) C dX13_period_50 (hN 5 (by decide)) rfl ?_
      exact g_sub [3, 4, 5, 2, 1, 0] rfl (hj52 μ37 (-1 : Int32) (-1 : Int32) (1 : Int32))
    ·
      refine s_aload_n C dX13_period_25 rfl 0 rfl ?_
      refine s_iconst (v := (2 : Int32)) C dX13_period_26 (by decide) ?_
      refine s_callV C R0 (kX13_raise (xl X) n0 g0 (2 : Int32)) (Nat.le_trans (by decide) V) mmX13_raise miX13_raise q2259 (rc26 (Nat.le_trans (by decide) V)) g0 rfl rfl rfl (Nat.le_of_ble_eq_true rfl) ⟨Nat.le_of_ble_eq_true rfl, Nat.le_of_ble_eq_true rfl, Nat.le_of_ble_eq_true rfl, Nat.le_of_ble_eq_true rfl⟩ dX13_period_27 (fun x39 μ38 => ?_)
      refine g_st (st' := [.int x39]) rfl ?_
      exact s_iret C E dX13_period_30
  ·
    refine s_aload_n C dX13_period_12 rfl 0 rfl ?_
    refine s_iconst (v := (1 : Int32)) C dX13_period_13 (by decide) ?_
    refine s_callV C R0 (kX13_raise (xl X) n0 g0 (1 : Int32)) (Nat.le_trans (by decide) V) mmX13_raise miX13_raise q2259 (rc26 (Nat.le_trans (by decide) V)) g0 rfl rfl rfl (Nat.le_of_ble_eq_true rfl) ⟨Nat.le_of_ble_eq_true rfl, Nat.le_of_ble_eq_true rfl, Nat.le_of_ble_eq_true rfl, Nat.le_of_ble_eq_true rfl⟩ dX13_period_14 (fun x41 μ40 => ?_)
    refine g_st (st' := [.int x41]) rfl ?_
    exact s_iret C E dX13_period_17
/-! PinEnginesModel.stuck(I)I -/
def fX13_stuck (fu : Nat) (n0 : Nat) (p1 : Int32) (μ : Mem) : Option (Int32 × Mem) :=
  nm (wI μ 26 n0 6 (0 : Int32)) fun μ1 =>
  bnd (fX13_isLimit p1 μ1) fun x3 μ2 =>
  if ¬ x3 = 0 then (
    jn (lp (fun _ _ => none) fu (fun j33 (μ5 : Mem) (x6 : Int32) =>
      if p1 ≤ x6 then (
        jn (lp (fun _ _ _ => none) fu (fun j52 (μ8 : Mem) (x9 : Int32) (x10 : Int32) =>
          if (4 : Int32) ≤ x10 then (
            bnd (fX13_copy fu 2 (0 : Int32) 0 (0 : Int32) μ8) fun _ μ12 =>
            some (x9, μ12)
          ) else (
            jn (fun (μ13 : Mem) (x14 : Int32) (x15 : Int32) (x16 : Int32) =>
              jn (fun (μ17 : Mem) (x18 : Int32) (x19 : Int32) (x20 : Int32) =>
                nm ((x19 ||| x20)) fun x21 =>
                nm (x18 + (1 : Int32)) fun x22 =>
                j52 μ17 x21 x22
              ) fun j125 =>
              if x16 = 0 then (
                j125 μ13 x15 x14 (0 : Int32)
              ) else (
                j125 μ13 x15 x14 ((1 : Int32) <<< (x15 &&& 31))
              )
            ) fun j110 =>
            jn (fun (μ24 : Mem) (x25 : Int32) (x26 : Int32) =>
              j110 μ24 x25 x26 (0 : Int32)
            ) fun j109 =>
            bnd (fX13_setting n0 x10 (0 : Int32) μ8) fun x28 μ27 =>
            if ¬ x28 = (1 : Int32) then (
              j109 μ27 x9 x10
            ) else (
              bnd (fX13_of n0 x10 (0 : Int32) μ27) fun x31 μ30 =>
              if ¬ x31 = (1 : Int32) then (
                j109 μ30 x9 x10
              ) else (
                bnd (fX13_of n0 x10 (29 : Int32) μ30) fun x34 μ33 =>
                ckI ((((560 : Int32) + ((35 : Int32) * x10)) + (29 : Int32)) + (0 : Int32)) (if 2 = 4 then 7000 else 700) <|
                if ¬ x34 = (μ33.1 27 2 ((((560 : Int32) + ((35 : Int32) * x10)) + (29 : Int32)) + (0 : Int32)).toNatClampNeg) then (
                  j109 μ33 x9 x10
                ) else (
                  j110 μ33 x9 x10 (1 : Int32)
                )
              )
            )
          )
        )) fun j52 =>
        j52 μ5 (0 : Int32) (0 : Int32)
      ) else (
        bnd (fX13_passCycle fu n0 μ5) fun _ μ36 =>
        nm (x6 + (1 : Int32)) fun x37 =>
        j33 μ36 x37
      )
    )) fun j33 =>
    bnd (fX13_copy fu 0 (0 : Int32) 2 (0 : Int32) μ2) fun _ μ38 =>
    j33 μ38 (0 : Int32)
  ) else (
    bnd (fX13_raise n0 (1 : Int32) μ2) fun x40 μ39 =>
    some (x40, μ39)
  )
set_option maxHeartbeats 4000000 in
set_option maxRecDepth 100000 in
theorem kX13_stuck (l : Launch) (fu : Nat) (n0 : Nat) (g0 : n0 < 1) (p1 : Int32) : Kon 1 l yX13_stuck cX13_stuck 5 (some .int) 7 163 0 0 (fun ad => [.ref (ad 26 n0), .int p1]) rvI (fun μ => fX13_stuck fu n0 p1 μ) := by
  refine kon_of (by decide) (fun _ => Nat.le_of_ble_eq_true rfl) (fun X r0 μ hXl hXn V C E => ?_)
  have hN : ∀ i : Nat, i < 5 → i < xn X := fun i h => hXn.symm ▸ h
  have R0 := fen_rm E
  show G X r0 0 0 μ 0 [(0, .ref (xa X 26 n0)), (1, .int p1)] [] (fX13_stuck fu n0 p1 μ)
  unfold fX13_stuck
  refine s_aload_n C dX13_stuck_0 rfl 0 rfl ?_
  refine s_iconst (v := (0 : Int32)) C dX13_stuck_1 (by decide) ?_
  refine s_putI C (fpX13_231_26 (Nat.le_trans (by decide) V)) g0 dX13_stuck_2 ?_
  refine g_nmM (fun μ1 => ?_)
  refine s_iload_n C dX13_stuck_5 rfl 1 rfl ?_
  refine s_callS C R0 (kX13_isLimit (xl X) p1) (Nat.le_trans (by decide) V) mmX13_isLimit q2585 q2584 rfl rfl rfl rfl (Nat.le_of_ble_eq_true rfl) ⟨Nat.le_of_ble_eq_true rfl, Nat.le_of_ble_eq_true rfl, Nat.le_of_ble_eq_true rfl, Nat.le_of_ble_eq_true rfl⟩ dX13_stuck_6 (fun x3 μ2 => ?_)
  refine g_st (st' := [.int x3]) rfl ?_
  refine s_if_ne (tgt := 18) C dX13_stuck_9 (by decide) (fun c4 => ?_) (fun c4 => ?_)
  ·
    refine g_jl (P := fun j33 => ∀ (μ5 : Mem) (x6 : Int32), G X r0 0 0 μ5 33 [(0, .ref (xa X 26 n0)), (1, .int p1), (2, .int x6)] [] (j33 μ5 x6)) (fun _ _ => g_none) (fun j33 hj33 => ?_) (fun j33 hj33 => ?_)
    · intro μ5 x6
      refine s_iload_n C dX13_stuck_33 rfl 2 rfl ?_
      refine s_iload_n C dX13_stuck_34 rfl 1 rfl ?_
      refine s_icmp_ge (tgt := 48) C dX13_stuck_35 (by decide) (fun c7 => ?_) (fun c7 => ?_)
      ·
        refine g_jl (P := fun j52 => ∀ (μ8 : Mem) (x9 : Int32) (x10 : Int32), G X r0 0 0 μ8 52 [(0, .ref (xa X 26 n0)), (2, .int x9), (3, .int x10)] [] (j52 μ8 x9 x10)) (fun _ _ _ => g_none) (fun j52 hj52 => ?_) (fun j52 hj52 => ?_)
        · intro μ8 x9 x10
          refine s_iload_n C dX13_stuck_52 rfl 2 rfl ?_
          refine s_iconst (v := (4 : Int32)) C dX13_stuck_53 (by decide) ?_
          refine s_icmp_ge (tgt := 133) C dX13_stuck_54 (by decide) (fun c11 => ?_) (fun c11 => ?_)
          ·
            refine s_aload_n C dX13_stuck_133 rfl 0 rfl ?_
            refine s_getF C (fgX13_16_26 (Nat.le_trans (by decide) V)) g0 dX13_stuck_134 ?_
            refine s_iconst (v := (0 : Int32)) C dX13_stuck_137 (by decide) ?_
            refine s_aload_n C dX13_stuck_138 rfl 0 rfl ?_
            refine s_getF C (fgX13_9_26 (Nat.le_trans (by decide) V)) g0 dX13_stuck_139 ?_
            refine s_iconst (v := (0 : Int32)) C dX13_stuck_142 (by decide) ?_
            refine s_callS C R0 (kX13_copy (xl X) fu 2 (by decide) (0 : Int32) 0 (by decide) (0 : Int32)) (Nat.le_trans (by decide) V) mmX13_copy q2377 q2376 rfl rfl rfl rfl (Nat.le_of_ble_eq_true rfl) ⟨Nat.le_of_ble_eq_true rfl, Nat.le_of_ble_eq_true rfl, Nat.le_of_ble_eq_true rfl, Nat.le_of_ble_eq_true rfl⟩ dX13_stuck_143 (fun _ μ12 => ?_)
            refine g_st (st' := []) rfl ?_
            refine s_iload_n C dX13_stuck_146 rfl 1 rfl ?_
            exact s_iret C E dX13_stuck_147
          ·
            refine g_jn (P := fun j110 => ∀ (μ13 : Mem) (x14 : Int32) (x15 : Int32) (x16 : Int32), G X r0 0 0 μ13 110 [(0, .ref (xa X 26 n0)), (2, .int x14), (3, .int x15)] [.int x16] (j110 μ13 x14 x15 x16)) ?_ (fun j110 hj110 => ?_)
            · intro μ13 x14 x15 x16
              refine g_jn (P := fun j125 => ∀ (μ17 : Mem) (x18 : Int32) (x19 : Int32) (x20 : Int32), G X r0 0 0 μ17 125 [(0, .ref (xa X 26 n0)), (3, .int x18)] [.int x20, .int x19] (j125 μ17 x18 x19 x20)) ?_ (fun j125 hj125 => ?_)
              · intro μ17 x18 x19 x20
                refine s_ior C dX13_stuck_125 ?_
                refine g_nmI (fun x21 => ?_)
                refine s_istore_n (L' := [(2, .int x21), (0, .ref (xa X 26 n0)), (3, .int x18)]) C dX13_stuck_126 rfl (hN 2 (by decide)) rfl ?_
                refine g_nmQ (fun x22 ex22 => ?_)
                refine s_iinc (v := x22) (j := 2) (L' := [(3, .int x22), (2, .int x21), (0, .ref (xa X 26 n0))]) C dX13_stuck_127 rfl (by rw [ex22]; rfl) (hN 3 (by decide)) rfl ?_
                refine s_goto (tgt := 52) C dX13_stuck_130 (by decide) ?_
                exact g_sub [2, 1, 0] rfl (hj52 μ17 x21 x22)
              refine s_istore (L' := [(4, .int x16), (0, .ref (xa X 26 n0)), (2, .int x14), (3, .int x15)]) C dX13_stuck_110 (hN 4 (by decide)) rfl ?_
              refine s_iload_n C dX13_stuck_112 rfl 2 rfl ?_
              refine s_iload C dX13_stuck_113 0 rfl ?_
              refine s_if_eq (tgt := 124) C dX13_stuck_115 (by decide) (fun c23 => ?_) (fun c23 => ?_)
              ·
                refine s_iconst (v := (0 : Int32)) C dX13_stuck_124 (by decide) ?_
                exact g_sub [1, 3] rfl (hj125 μ13 x15 x14 (0 : Int32))
              ·
                refine s_iconst (v := (1 : Int32)) C dX13_stuck_118 (by decide) ?_
                refine s_iload_n C dX13_stuck_119 rfl 3 rfl ?_
                refine s_ishl C dX13_stuck_120 ?_
                refine s_goto (tgt := 125) C dX13_stuck_121 (by decide) ?_
                exact g_sub [1, 3] rfl (hj125 μ13 x15 x14 ((1 : Int32) <<< (x15 &&& 31)))
            refine g_jn (P := fun j109 => ∀ (μ24 : Mem) (x25 : Int32) (x26 : Int32), G X r0 0 0 μ24 109 [(0, .ref (xa X 26 n0)), (2, .int x25), (3, .int x26)] [] (j109 μ24 x25 x26)) ?_ (fun j109 hj109 => ?_)
            · intro μ24 x25 x26
              refine s_iconst (v := (0 : Int32)) C dX13_stuck_109 (by decide) ?_
              exact g_sub [0, 1, 2] rfl (hj110 μ24 x25 x26 (0 : Int32))
            refine s_aload_n C dX13_stuck_57 rfl 0 rfl ?_
            refine s_iload_n C dX13_stuck_58 rfl 2 rfl ?_
            refine s_iconst (v := (0 : Int32)) C dX13_stuck_59 (by decide) ?_
            refine s_callV C R0 (kX13_setting (xl X) n0 g0 x10 (0 : Int32)) (Nat.le_trans (by decide) V) mmX13_setting miX13_setting q2241 (rc26 (Nat.le_trans (by decide) V)) g0 rfl rfl rfl (Nat.le_of_ble_eq_true rfl) ⟨Nat.le_of_ble_eq_true rfl, Nat.le_of_ble_eq_true rfl, Nat.le_of_ble_eq_true rfl, Nat.le_of_ble_eq_true rfl⟩ dX13_stuck_60 (fun x28 μ27 => ?_)
            refine g_st (st' := [.int x28]) rfl ?_
            refine s_iconst (v := (1 : Int32)) C dX13_stuck_63 (by decide) ?_
            refine s_icmp_ne (tgt := 109) C dX13_stuck_64 (by decide) (fun c29 => ?_) (fun c29 => ?_)
            ·
              exact g_sub [0, 1, 2] rfl (hj109 μ27 x9 x10)
            ·
              refine s_aload_n C dX13_stuck_67 rfl 0 rfl ?_
              refine s_iload_n C dX13_stuck_68 rfl 2 rfl ?_
              refine s_iconst (v := (0 : Int32)) C dX13_stuck_69 (by decide) ?_
              refine s_callV C R0 (kX13_of (xl X) n0 g0 x10 (0 : Int32)) (Nat.le_trans (by decide) V) mmX13_of miX13_of q2307 (rc26 (Nat.le_trans (by decide) V)) g0 rfl rfl rfl (Nat.le_of_ble_eq_true rfl) ⟨Nat.le_of_ble_eq_true rfl, Nat.le_of_ble_eq_true rfl, Nat.le_of_ble_eq_true rfl, Nat.le_of_ble_eq_true rfl⟩ dX13_stuck_70 (fun x31 μ30 => ?_)
              refine g_st (st' := [.int x31]) rfl ?_
              refine s_iconst (v := (1 : Int32)) C dX13_stuck_73 (by decide) ?_
              refine s_icmp_ne (tgt := 109) C dX13_stuck_74 (by decide) (fun c32 => ?_) (fun c32 => ?_)
              ·
                exact g_sub [0, 1, 2] rfl (hj109 μ30 x9 x10)
              ·
                refine s_aload_n C dX13_stuck_77 rfl 0 rfl ?_
                refine s_iload_n C dX13_stuck_78 rfl 2 rfl ?_
                refine s_bipush (v := (29 : Int32)) C dX13_stuck_79 (by decide) ?_
                refine s_callV C R0 (kX13_of (xl X) n0 g0 x10 (29 : Int32)) (Nat.le_trans (by decide) V) mmX13_of miX13_of q2307 (rc26 (Nat.le_trans (by decide) V)) g0 rfl rfl rfl (Nat.le_of_ble_eq_true rfl) ⟨Nat.le_of_ble_eq_true rfl, Nat.le_of_ble_eq_true rfl, Nat.le_of_ble_eq_true rfl, Nat.le_of_ble_eq_true rfl⟩ dX13_stuck_81 (fun x34 μ33 => ?_)
                refine g_st (st' := [.int x34]) rfl ?_
                refine s_aload_n C dX13_stuck_84 rfl 0 rfl ?_
                refine s_getF C (fgX13_16_26 (Nat.le_trans (by decide) V)) g0 dX13_stuck_85 ?_
                refine s_sipush (v := (560 : Int32)) C dX13_stuck_88 (by decide) ?_
                refine s_bipush (v := (35 : Int32)) C dX13_stuck_91 (by decide) ?_
                refine s_iload_n C dX13_stuck_93 rfl 2 rfl ?_
                refine s_imul C dX13_stuck_94 ?_
                refine s_iadd C dX13_stuck_95 ?_
                refine s_bipush (v := (29 : Int32)) C dX13_stuck_96 (by decide) ?_
                refine s_iadd C dX13_stuck_98 ?_
                refine s_iconst (v := (0 : Int32)) C dX13_stuck_99 (by decide) ?_
                refine s_iadd C dX13_stuck_100 ?_
                refine s_iald C (ag27 (Nat.le_trans (by decide) V)) (by decide) dX13_stuck_101 ?_
                refine s_icmp_ne (tgt := 109) C dX13_stuck_102 (by decide) (fun c35 => ?_) (fun c35 => ?_)
                ·
                  exact g_sub [0, 1, 2] rfl (hj109 μ33 x9 x10)
                ·
                  refine s_iconst (v := (1 : Int32)) C dX13_stuck_105 (by decide) ?_
                  refine s_goto (tgt := 110) C dX13_stuck_106 (by decide) ?_
                  exact g_sub [0, 1, 2] rfl (hj110 μ33 x9 x10 (1 : Int32))
        refine s_iconst (v := (0 : Int32)) C dX13_stuck_48 (by decide) ?_
        refine s_istore_n (L' := [(2, .int (0 : Int32)), (0, .ref (xa X 26 n0)), (1, .int p1)]) C dX13_stuck_49 rfl (hN 2 (by decide)) rfl ?_
        refine s_iconst (v := (0 : Int32)) C dX13_stuck_50 (by decide) ?_
        refine s_istore_n (L' := [(3, .int (0 : Int32)), (2, .int (0 : Int32)), (0, .ref (xa X 26 n0)), (1, .int p1)]) C dX13_stuck_51 rfl (hN 3 (by decide)) rfl ?_
        exact g_sub [2, 1, 0] rfl (hj52 μ5 (0 : Int32) (0 : Int32))
      ·
        refine s_aload_n C dX13_stuck_38 rfl 0 rfl ?_
        refine s_callV C R0 (kX13_passCycle (xl X) fu n0 g0) (Nat.le_trans (by decide) V) mmX13_passCycle miX13_passCycle q2437 (rc26 (Nat.le_trans (by decide) V)) g0 rfl rfl rfl (Nat.le_of_ble_eq_true rfl) ⟨Nat.le_of_ble_eq_true rfl, Nat.le_of_ble_eq_true rfl, Nat.le_of_ble_eq_true rfl, Nat.le_of_ble_eq_true rfl⟩ dX13_stuck_39 (fun _ μ36 => ?_)
        refine g_st (st' := []) rfl ?_
        refine g_nmQ (fun x37 ex37 => ?_)
        refine s_iinc (v := x37) (j := 2) (L' := [(2, .int x37), (0, .ref (xa X 26 n0)), (1, .int p1)]) C dX13_stuck_42 rfl (by rw [ex37]; rfl) (hN 2 (by decide)) rfl ?_
        refine s_goto (tgt := 33) C dX13_stuck_45 (by decide) ?_
        exact g_sub [1, 2, 0] rfl (hj33 μ36 x37)
    refine s_aload_n C dX13_stuck_18 rfl 0 rfl ?_
    refine s_getF C (fgX13_9_26 (Nat.le_trans (by decide) V)) g0 dX13_stuck_19 ?_
    refine s_iconst (v := (0 : Int32)) C dX13_stuck_22 (by decide) ?_
    refine s_aload_n C dX13_stuck_23 rfl 0 rfl ?_
    refine s_getF C (fgX13_16_26 (Nat.le_trans (by decide) V)) g0 dX13_stuck_24 ?_
    refine s_iconst (v := (0 : Int32)) C dX13_stuck_27 (by decide) ?_
    refine s_callS C R0 (kX13_copy (xl X) fu 0 (by decide) (0 : Int32) 2 (by decide) (0 : Int32)) (Nat.le_trans (by decide) V) mmX13_copy q2377 q2376 rfl rfl rfl rfl (Nat.le_of_ble_eq_true rfl) ⟨Nat.le_of_ble_eq_true rfl, Nat.le_of_ble_eq_true rfl, Nat.le_of_ble_eq_true rfl, Nat.le_of_ble_eq_true rfl⟩ dX13_stuck_28 (fun _ μ38 => ?_)
    refine g_st (st' := []) rfl ?_
    refine s_iconst (v := (0 : Int32)) C dX13_stuck_31 (by decide) ?_
    refine s_istore_n (L' := [(2, .int (0 : Int32)), (0, .ref (xa X 26 n0)), (1, .int p1)]) C dX13_stuck_32 rfl (hN 2 (by decide)) rfl ?_
    exact g_sub [1, 2, 0] rfl (hj33 μ38 (0 : Int32))
  ·
    refine s_aload_n C dX13_stuck_12 rfl 0 rfl ?_
    refine s_iconst (v := (1 : Int32)) C dX13_stuck_13 (by decide) ?_
    refine s_callV C R0 (kX13_raise (xl X) n0 g0 (1 : Int32)) (Nat.le_trans (by decide) V) mmX13_raise miX13_raise q2259 (rc26 (Nat.le_trans (by decide) V)) g0 rfl rfl rfl (Nat.le_of_ble_eq_true rfl) ⟨Nat.le_of_ble_eq_true rfl, Nat.le_of_ble_eq_true rfl, Nat.le_of_ble_eq_true rfl, Nat.le_of_ble_eq_true rfl⟩ dX13_stuck_14 (fun x40 μ39 => ?_)
    refine g_st (st' := [.int x40]) rfl ?_
    exact s_iret C E dX13_stuck_17
/-! PinEngines$ProgramReader.readProgram(LPinEngines$Program;)V -/
def fX5_readProgram (fu : Nat) (n0 : Nat) (n1 : Nat) (μ : Mem) : Option (Unit × Mem) :=
  jn (fun (μ1 : Mem) =>
    some ((), μ1)
  ) fun j38 =>
  nm (wR μ 10 n0 1 n1) fun μ2 =>
  ckZ (0 : Int32) <|
  nm (wI μ2 10 n0 2 (0 : Int32)) fun μ3 =>
  nm (wI μ3 10 n0 3 (0 : Int32)) fun μ4 =>
  bnd (fX5_readClauses fu n0 μ4) fun _ μ5 =>
  if ¬ (μ5.1 2 0 7) = 0 then (
    j38 μ5
  ) else (
    ckZ (1 : Int32) <|
    nm (wI μ5 10 n0 2 (1 : Int32)) fun μ7 =>
    bnd (fX5_readClauses fu n0 μ7) fun _ μ8 =>
    j38 μ8
  )
set_option maxHeartbeats 4000000 in
set_option maxRecDepth 100000 in
theorem kX5_readProgram (l : Launch) (fu : Nat) (n0 : Nat) (g0 : n0 < 1) (n1 : Nat) (g1 : n1 < 2) : Kon 0 l yX5_readProgram cX5_readProgram 2 (none) 6 135 0 0 (fun ad => [.ref (ad 10 n0), .ref (ad 5 n1)]) rvV (fun μ => fX5_readProgram fu n0 n1 μ) := by
  refine kon_of (by decide) (fun _ => Nat.le_of_ble_eq_true rfl) (fun X r0 μ hXl hXn V C E => ?_)
  have hN : ∀ i : Nat, i < 2 → i < xn X := fun i h => hXn.symm ▸ h
  have R0 := fen_rm E
  show G X r0 0 0 μ 0 [(0, .ref (xa X 10 n0)), (1, .ref (xa X 5 n1))] [] (fX5_readProgram fu n0 n1 μ)
  unfold fX5_readProgram
  refine g_jn (P := fun j38 => ∀ (μ1 : Mem), G X r0 0 0 μ1 38 [] [] (j38 μ1)) ?_ (fun j38 hj38 => ?_)
  · intro μ1
    exact s_vret C E dX5_readProgram_38
  refine s_aload_n C dX5_readProgram_0 rfl 0 rfl ?_
  refine s_aload_n C dX5_readProgram_1 rfl 1 rfl ?_
  refine s_putM C (fpX5_30_10 _) g0 dX5_readProgram_2 ?_
  refine g_nmM (fun μ2 => ?_)
  refine s_aload_n C dX5_readProgram_5 rfl 0 rfl ?_
  refine s_iconst (v := (0 : Int32)) C dX5_readProgram_6 (by decide) ?_
  refine s_putZ C (fpX5_9_10 _) g0 dX5_readProgram_7 ?_
  refine g_nmM (fun μ3 => ?_)
  refine s_aload_n C dX5_readProgram_10 rfl 0 rfl ?_
  refine s_iconst (v := (0 : Int32)) C dX5_readProgram_11 (by decide) ?_
  refine s_putI C (fpX5_15_10 _) g0 dX5_readProgram_12 ?_
  refine g_nmM (fun μ4 => ?_)
  refine s_aload_n C dX5_readProgram_15 rfl 0 rfl ?_
  refine s_callV C R0 (kX5_readClauses (xl X) fu n0 g0) (Nat.le_trans (by decide) V) mmX5_readClauses miX5_readClauses q1035 (rc10 _) g0 rfl rfl rfl (Nat.le_of_ble_eq_true rfl) ⟨Nat.le_of_ble_eq_true rfl, Nat.le_of_ble_eq_true rfl, Nat.le_of_ble_eq_true rfl, Nat.le_of_ble_eq_true rfl⟩ dX5_readProgram_16 (fun _ μ5 => ?_)
  refine g_st (st' := []) rfl ?_
  refine s_aload_n C dX5_readProgram_19 rfl 0 rfl ?_
  refine s_getF C (fgX5_26_10 _) g0 dX5_readProgram_20 ?_
  refine s_getI C (fgX5_37_2 _) (by decide) dX5_readProgram_23 ?_
  refine s_if_ne (tgt := 38) C dX5_readProgram_26 (by decide) (fun c6 => ?_) (fun c6 => ?_)
  ·
    exact g_sub [] rfl (hj38 μ5)
  ·
    refine s_aload_n C dX5_readProgram_29 rfl 0 rfl ?_
    refine s_iconst (v := (1 : Int32)) C dX5_readProgram_30 (by decide) ?_
    refine s_putZ C (fpX5_9_10 _) g0 dX5_readProgram_31 ?_
    refine g_nmM (fun μ7 => ?_)
    refine s_aload_n C dX5_readProgram_34 rfl 0 rfl ?_
    refine s_callV C R0 (kX5_readClauses (xl X) fu n0 g0) (Nat.le_trans (by decide) V) mmX5_readClauses miX5_readClauses q1035 (rc10 _) g0 rfl rfl rfl (Nat.le_of_ble_eq_true rfl) ⟨Nat.le_of_ble_eq_true rfl, Nat.le_of_ble_eq_true rfl, Nat.le_of_ble_eq_true rfl, Nat.le_of_ble_eq_true rfl⟩ dX5_readProgram_35 (fun _ μ8 => ?_)
    refine g_st (st' := []) rfl ?_
    exact g_sub [] rfl (hj38 μ8)
/-! PinEngines$Simulator.simulateCycle(LPinEngines$Machine;)I -/
def fX9_simulateCycle (fu : Nat) (n0 : Nat) (n1 : Nat) (μ : Mem) : Option (Int32 × Mem) :=
  jn (lp (fun _ _ _ _ _ => none) fu (fun j61 (μ1 : Mem) (x2 : Int32) (x3 : Int32) (x4 : Int32) (x5 : Int32) =>
    if (4 : Int32) ≤ x5 then (
      nm (μ1.2.1 22 n0 1) fun a7 =>
      ckB a7 13 <|
      nm (wI μ1 12 a7 4 (((μ1.1 22 n0 3) &&& ((μ1.1 22 n0 5) ^^^ (-1 : Int32))) ||| (μ1.1 22 n0 4))) fun μ9 =>
      nm (μ9.2.1 22 n0 1) fun a10 =>
      ckB a10 13 <|
      bnd (fX3_endCycle fu a10 μ9) fun _ μ12 =>
      some (x4, μ12)
    ) else (
      jn (fun (μ13 : Mem) (x14 : Int32) (x15 : Int32) (x16 : Int32) =>
        jn (fun (μ17 : Mem) (x18 : Int32) (x19 : Int32) =>
          nm (x19 + (1 : Int32)) fun x20 =>
          j61 μ17 x2 x3 x18 x20
        ) fun j130 =>
        if x16 = 0 then (
          j130 μ13 x14 x15
        ) else (
          jn (fun (μ22 : Mem) (x23 : Int32) (a24 : Nat) (a26 : Nat) (a28 : Nat) (x30 : Int32) =>
            bnd (fX9_doTick a24 a26 a28 x30 μ22) fun x32 μ31 =>
            if x32 = 0 then (
              j130 μ31 x23 x15
            ) else (
              nm (x23 + (1 : Int32)) fun x34 =>
              j130 μ31 x34 x15
            )
          ) fun j121 =>
          nm (μ13.2.1 22 n0 1) fun a35 =>
          ckB a35 13 <|
          ckI x15 (4) <|
          nm (μ13.2.1 22 n0 0) fun a39 =>
          ckB a39 2 <|
          ckI x15 (4) <|
          if ¬ x15 = x3 then (
            j121 μ13 x14 n0 (4 * a35 + x15.toNatClampNeg) (4 * a39 + x15.toNatClampNeg) (0 : Int32)
          ) else (
            j121 μ13 x14 n0 (4 * a35 + x15.toNatClampNeg) (4 * a39 + x15.toNatClampNeg) (1 : Int32)
          )
        )
      ) fun j82 =>
      if ¬ ((x2 >>> (x5 &&& 31)) &&& (1 : Int32)) = (1 : Int32) then (
        j82 μ1 x4 x5 (0 : Int32)
      ) else (
        j82 μ1 x4 x5 (1 : Int32)
      )
    )
  )) fun j61 =>
  nm (wR μ 22 n0 1 n1) fun μ45 =>
  nm (μ45.2.1 22 n0 1) fun a46 =>
  ckB a46 13 <|
  bnd (fX3_applyScheduled fu a46 μ45) fun _ μ48 =>
  nm (μ48.2.1 22 n0 1) fun a49 =>
  ckB a49 13 <|
  bnd (fX3_levels a49 μ48) fun x52 μ51 =>
  nm (wI μ51 22 n0 2 x52) fun μ53 =>
  nm (μ53.2.1 22 n0 1) fun a54 =>
  ckB a54 13 <|
  nm (wI μ53 22 n0 3 (μ53.1 12 a54 4)) fun μ56 =>
  nm (wI μ56 22 n0 4 (0 : Int32)) fun μ57 =>
  nm (wI μ57 22 n0 5 (0 : Int32)) fun μ58 =>
  bnd (fX9_tickingEngines fu n0 μ58) fun x60 μ59 =>
  bnd (fX9_grantPort fu n0 x60 μ59) fun x62 μ61 =>
  j61 μ61 x60 x62 (0 : Int32) (0 : Int32)
set_option maxHeartbeats 4000000 in
set_option maxRecDepth 100000 in
theorem kX9_simulateCycle (l : Launch) (fu : Nat) (n0 : Nat) (g0 : n0 < 1) (n1 : Nat) (g1 : n1 < 13) : Kon 0 l yX9_simulateCycle cX9_simulateCycle 7 (some .int) 6 139 0 0 (fun ad => [.ref (ad 22 n0), .ref (ad 12 n1)]) rvI (fun μ => fX9_simulateCycle fu n0 n1 μ) := by
  refine kon_of (by decide) (fun _ => Nat.le_of_ble_eq_true rfl) (fun X r0 μ hXl hXn V C E => ?_)
  have hN : ∀ i : Nat, i < 7 → i < xn X := fun i h => hXn.symm ▸ h
  have R0 := fen_rm E
  show G X r0 0 0 μ 0 [(0, .ref (xa X 22 n0)), (1, .ref (xa X 12 n1))] [] (fX9_simulateCycle fu n0 n1 μ)
  unfold fX9_simulateCycle
  refine g_jl (P := fun j61 => ∀ (μ1 : Mem) (x2 : Int32) (x3 : Int32) (x4 : Int32) (x5 : Int32), G X r0 0 0 μ1 61 [(0, .ref (xa X 22 n0)), (2, .int x2), (3, .int x3), (4, .int x4), (5, .int x5)] [] (j61 μ1 x2 x3 x4 x5)) (fun _ _ _ _ _ => g_none) (fun j61 hj61 => ?_) (fun j61 hj61 => ?_)
  · intro μ1 x2 x3 x4 x5
    refine s_iload C dX9_simulateCycle_61 4 rfl ?_
    refine s_iconst (v := (4 : Int32)) C dX9_simulateCycle_63 (by decide) ?_
    refine s_icmp_ge (tgt := 136) C dX9_simulateCycle_64 (by decide) (fun c6 => ?_) (fun c6 => ?_)
    ·
      refine s_aload_n C dX9_simulateCycle_136 rfl 0 rfl ?_
      refine s_getM C (fgX9_15_22 _) g0 dX9_simulateCycle_137 ?_
      refine g_nmA (fun a7 => ?_)
      refine g_ckB (fun b8 => ?_)
      refine s_aload_n C dX9_simulateCycle_140 rfl 0 rfl ?_
      refine s_getI C (fgX9_34_22 _) g0 dX9_simulateCycle_141 ?_
      refine s_aload_n C dX9_simulateCycle_144 rfl 0 rfl ?_
      refine s_getI C (fgX9_38_22 _) g0 dX9_simulateCycle_145 ?_
      refine s_iconst (v := (-1 : Int32)) C dX9_simulateCycle_148 (by decide) ?_
      refine s_ixor C dX9_simulateCycle_149 ?_
      refine s_iand C dX9_simulateCycle_150 ?_
      refine s_aload_n C dX9_simulateCycle_151 rfl 0 rfl ?_
      refine s_getI C (fgX9_35_22 _) g0 dX9_simulateCycle_152 ?_
      refine s_ior C dX9_simulateCycle_155 ?_
      refine s_putI C (fpX9_31_12 _) b8 dX9_simulateCycle_156 ?_
      refine g_nmM (fun μ9 => ?_)
      refine s_aload_n C dX9_simulateCycle_159 rfl 0 rfl ?_
      refine s_getM C (fgX9_15_22 _) g0 dX9_simulateCycle_160 ?_
      refine g_nmA (fun a10 => ?_)
      refine g_ckB (fun b11 => ?_)
      refine s_callV C R0 (kX3_endCycle (xl X) fu a10 b11) (Nat.le_trans (by decide) V) mmX3_endCycle miX3_endCycle q1643 (rc12 _) b11 rfl rfl rfl (Nat.le_of_ble_eq_true rfl) ⟨Nat.le_of_ble_eq_true rfl, Nat.le_of_ble_eq_true rfl, Nat.le_of_ble_eq_true rfl, Nat.le_of_ble_eq_true rfl⟩ dX9_simulateCycle_163 (fun _ μ12 => ?_)
      refine g_st (st' := []) rfl ?_
      refine s_iload C dX9_simulateCycle_166 3 rfl ?_
      exact s_iret C E dX9_simulateCycle_168
    ·
      refine g_jn (P := fun j82 => ∀ (μ13 : Mem) (x14 : Int32) (x15 : Int32) (x16 : Int32), G X r0 0 0 μ13 82 [(0, .ref (xa X 22 n0)), (2, .int x2), (3, .int x3), (4, .int x14), (5, .int x15)] [.int x16] (j82 μ13 x14 x15 x16)) ?_ (fun j82 hj82 => ?_)
      · intro μ13 x14 x15 x16
        refine g_jn (P := fun j130 => ∀ (μ17 : Mem) (x18 : Int32) (x19 : Int32), G X r0 0 0 μ17 130 [(0, .ref (xa X 22 n0)), (2, .int x2), (3, .int x3), (4, .int x18), (5, .int x19)] [] (j130 μ17 x18 x19)) ?_ (fun j130 hj130 => ?_)
        · intro μ17 x18 x19
          refine g_nmQ (fun x20 ex20 => ?_)
          refine s_iinc (v := x20) (j := 4) (L' := [(5, .int x20), (0, .ref (xa X 22 n0)), (2, .int x2), (3, .int x3), (4, .int x18)]) C dX9_simulateCycle_130 rfl (by rw [ex20]; rfl) (hN 5 (by decide)) rfl ?_
          refine s_goto (tgt := 61) C dX9_simulateCycle_133 (by decide) ?_
          exact g_sub [1, 2, 3, 4, 0] rfl (hj61 μ17 x2 x3 x18 x20)
        refine s_istore (L' := [(6, .int x16), (0, .ref (xa X 22 n0)), (2, .int x2), (3, .int x3), (4, .int x14), (5, .int x15)]) C dX9_simulateCycle_82 (hN 6 (by decide)) rfl ?_
        refine s_iload C dX9_simulateCycle_84 0 rfl ?_
        refine s_if_eq (tgt := 130) C dX9_simulateCycle_86 (by decide) (fun c21 => ?_) (fun c21 => ?_)
        ·
          exact g_sub [1, 2, 3, 4, 5] rfl (hj130 μ13 x14 x15)
        ·
          refine g_jn (P := fun j121 => ∀ (μ22 : Mem) (x23 : Int32) (a24 : Nat) (a26 : Nat) (a28 : Nat) (x30 : Int32), a24 < 1 → a26 < 52 → a28 < 8 → G X r0 0 0 μ22 121 [(0, .ref (xa X 22 n0)), (2, .int x2), (3, .int x3), (4, .int x23), (5, .int x15)] [.int x30, .ref (xa X 8 a28), .ref (xa X 18 a26), .ref (xa X 22 a24)] (j121 μ22 x23 a24 a26 a28 x30)) ?_ (fun j121 hj121 => ?_)
          · intro μ22 x23 a24 a26 a28 x30 b25 b27 b29
            refine s_callV C R0 (kX9_doTick (xl X) a24 b25 a26 b27 a28 b29 x30) (Nat.le_trans (by decide) V) mmX9_doTick miX9_doTick q1510 (rc22 _) b25 rfl rfl rfl (Nat.le_of_ble_eq_true rfl) ⟨Nat.le_of_ble_eq_true rfl, Nat.le_of_ble_eq_true rfl, Nat.le_of_ble_eq_true rfl, Nat.le_of_ble_eq_true rfl⟩ dX9_simulateCycle_121 (fun x32 μ31 => ?_)
            refine g_st (st' := [.int x32]) rfl ?_
            refine s_if_eq (tgt := 130) C dX9_simulateCycle_124 (by decide) (fun c33 => ?_) (fun c33 => ?_)
            ·
              exact g_sub [0, 1, 2, 3, 4] rfl (hj130 μ31 x23 x15)
            ·
              refine g_nmQ (fun x34 ex34 => ?_)
              refine s_iinc (v := x34) (j := 3) (L' := [(4, .int x34), (0, .ref (xa X 22 n0)), (2, .int x2), (3, .int x3), (5, .int x15)]) C dX9_simulateCycle_127 rfl (by rw [ex34]; rfl) (hN 4 (by decide)) rfl ?_
              exact g_sub [1, 2, 3, 0, 4] rfl (hj130 μ31 x34 x15)
          refine s_aload_n C dX9_simulateCycle_89 rfl 1 rfl ?_
          refine s_aload_n C dX9_simulateCycle_90 rfl 1 rfl ?_
          refine s_getM C (fgX9_15_22 _) g0 dX9_simulateCycle_91 ?_
          refine g_nmA (fun a35 => ?_)
          refine g_ckB (fun b36 => ?_)
          refine s_getF C (fgX9_48_12 _) b36 dX9_simulateCycle_94 ?_
          refine s_iload C dX9_simulateCycle_97 5 rfl ?_
          refine s_aaldF C (ag14 _) (fun _ => rfl) b36 dX9_simulateCycle_99 (fun c37 => ?_)
          have b38 : 4 * a35 + x15.toNatClampNeg < 52 := by have := c37; omega
          refine s_aload_n C dX9_simulateCycle_100 rfl 1 rfl ?_
          refine s_getM C (fgX9_9_22 _) g0 dX9_simulateCycle_101 ?_
          refine g_nmA (fun a39 => ?_)
          refine g_ckB (fun b40 => ?_)
          refine s_getF C (fgX9_52_5 _) b40 dX9_simulateCycle_104 ?_
          refine s_iload C dX9_simulateCycle_107 5 rfl ?_
          refine s_aaldF C (ag6 _) (fun _ => rfl) b40 dX9_simulateCycle_109 (fun c41 => ?_)
          have b42 : 4 * a39 + x15.toNatClampNeg < 8 := by have := c41; omega
          refine s_iload C dX9_simulateCycle_110 5 rfl ?_
          refine s_iload_n C dX9_simulateCycle_112 rfl 3 rfl ?_
          refine s_icmp_ne (tgt := 120) C dX9_simulateCycle_113 (by decide) (fun c43 => ?_) (fun c43 => ?_)
          ·
            refine s_iconst (v := (0 : Int32)) C dX9_simulateCycle_120 (by decide) ?_
            exact g_sub [1, 2, 3, 4, 5] rfl (hj121 μ13 x14 n0 (4 * a35 + x15.toNatClampNeg) (4 * a39 + x15.toNatClampNeg) (0 : Int32) g0 b38 b42)
          ·
            refine s_iconst (v := (1 : Int32)) C dX9_simulateCycle_116 (by decide) ?_
            refine s_goto (tgt := 121) C dX9_simulateCycle_117 (by decide) ?_
            exact g_sub [1, 2, 3, 4, 5] rfl (hj121 μ13 x14 n0 (4 * a35 + x15.toNatClampNeg) (4 * a39 + x15.toNatClampNeg) (1 : Int32) g0 b38 b42)
      refine s_iload_n C dX9_simulateCycle_67 rfl 1 rfl ?_
      refine s_iload C dX9_simulateCycle_68 4 rfl ?_
      refine s_ishr C dX9_simulateCycle_70 ?_
      refine s_iconst (v := (1 : Int32)) C dX9_simulateCycle_71 (by decide) ?_
      refine s_iand C dX9_simulateCycle_72 ?_
      refine s_iconst (v := (1 : Int32)) C dX9_simulateCycle_73 (by decide) ?_
      refine s_icmp_ne (tgt := 81) C dX9_simulateCycle_74 (by decide) (fun c44 => ?_) (fun c44 => ?_)
      ·
        refine s_iconst (v := (0 : Int32)) C dX9_simulateCycle_81 (by decide) ?_
        exact g_sub [0, 1, 2, 3, 4] rfl (hj82 μ1 x4 x5 (0 : Int32))
      ·
        refine s_iconst (v := (1 : Int32)) C dX9_simulateCycle_77 (by decide) ?_
        refine s_goto (tgt := 82) C dX9_simulateCycle_78 (by decide) ?_
        exact g_sub [0, 1, 2, 3, 4] rfl (hj82 μ1 x4 x5 (1 : Int32))
  refine s_aload_n C dX9_simulateCycle_0 rfl 0 rfl ?_
  refine s_aload_n C dX9_simulateCycle_1 rfl 1 rfl ?_
  refine s_putM C (fpX9_15_22 _) g0 dX9_simulateCycle_2 ?_
  refine g_nmM (fun μ45 => ?_)
  refine s_aload_n C dX9_simulateCycle_5 rfl 0 rfl ?_
  refine s_getM C (fgX9_15_22 _) g0 dX9_simulateCycle_6 ?_
  refine g_nmA (fun a46 => ?_)
  refine g_ckB (fun b47 => ?_)
  refine s_callV C R0 (kX3_applyScheduled (xl X) fu a46 b47) (Nat.le_trans (by decide) V) mmX3_applyScheduled miX3_applyScheduled q1476 (rc12 _) b47 rfl rfl rfl (Nat.le_of_ble_eq_true rfl) ⟨Nat.le_of_ble_eq_true rfl, Nat.le_of_ble_eq_true rfl, Nat.le_of_ble_eq_true rfl, Nat.le_of_ble_eq_true rfl⟩ dX9_simulateCycle_9 (fun _ μ48 => ?_)
  refine g_st (st' := []) rfl ?_
  refine s_aload_n C dX9_simulateCycle_12 rfl 0 rfl ?_
  refine s_aload_n C dX9_simulateCycle_13 rfl 0 rfl ?_
  refine s_getM C (fgX9_15_22 _) g0 dX9_simulateCycle_14 ?_
  refine g_nmA (fun a49 => ?_)
  refine g_ckB (fun b50 => ?_)
  refine s_callV C R0 (kX3_levels (xl X) a49 b50) (Nat.le_trans (by decide) V) mmX3_levels miX3_levels q1481 (rc12 _) b50 rfl rfl rfl (Nat.le_of_ble_eq_true rfl) ⟨Nat.le_of_ble_eq_true rfl, Nat.le_of_ble_eq_true rfl, Nat.le_of_ble_eq_true rfl, Nat.le_of_ble_eq_true rfl⟩ dX9_simulateCycle_17 (fun x52 μ51 => ?_)
  refine g_st (st' := [.int x52, .ref (xa X 22 n0)]) rfl ?_
  refine s_putI C (fpX9_28_22 _) g0 dX9_simulateCycle_20 ?_
  refine g_nmM (fun μ53 => ?_)
  refine s_aload_n C dX9_simulateCycle_23 rfl 0 rfl ?_
  refine s_aload_n C dX9_simulateCycle_24 rfl 0 rfl ?_
  refine s_getM C (fgX9_15_22 _) g0 dX9_simulateCycle_25 ?_
  refine g_nmA (fun a54 => ?_)
  refine g_ckB (fun b55 => ?_)
  refine s_getI C (fgX9_31_12 _) b55 dX9_simulateCycle_28 ?_
  refine s_putI C (fpX9_34_22 _) g0 dX9_simulateCycle_31 ?_
  refine g_nmM (fun μ56 => ?_)
  refine s_aload_n C dX9_simulateCycle_34 rfl 0 rfl ?_
  refine s_iconst (v := (0 : Int32)) C dX9_simulateCycle_35 (by decide) ?_
  refine s_putI C (fpX9_35_22 _) g0 dX9_simulateCycle_36 ?_
  refine g_nmM (fun μ57 => ?_)
  refine s_aload_n C dX9_simulateCycle_39 rfl 0 rfl ?_
  refine s_iconst (v := (0 : Int32)) C dX9_simulateCycle_40 (by decide) ?_
  refine s_putI C (fpX9_38_22 _) g0 dX9_simulateCycle_41 ?_
  refine g_nmM (fun μ58 => ?_)
  refine s_aload_n C dX9_simulateCycle_44 rfl 0 rfl ?_
  refine s_callV C R0 (kX9_tickingEngines (xl X) fu n0 g0) (Nat.le_trans (by decide) V) mmX9_tickingEngines miX9_tickingEngines q1482 (rc22 _) g0 rfl rfl rfl (Nat.le_of_ble_eq_true rfl) ⟨Nat.le_of_ble_eq_true rfl, Nat.le_of_ble_eq_true rfl, Nat.le_of_ble_eq_true rfl, Nat.le_of_ble_eq_true rfl⟩ dX9_simulateCycle_45 (fun x60 μ59 => ?_)
  refine g_st (st' := [.int x60]) rfl ?_
  refine s_istore_n (L' := [(2, .int x60), (0, .ref (xa X 22 n0)), (1, .ref (xa X 12 n1))]) C dX9_simulateCycle_48 rfl (hN 2 (by decide)) rfl ?_
  refine s_aload_n C dX9_simulateCycle_49 rfl 1 rfl ?_
  refine s_iload_n C dX9_simulateCycle_50 rfl 0 rfl ?_
  refine s_callV C R0 (kX9_grantPort (xl X) fu n0 g0 x60) (Nat.le_trans (by decide) V) mmX9_grantPort miX9_grantPort q1490 (rc22 _) g0 rfl rfl rfl (Nat.le_of_ble_eq_true rfl) ⟨Nat.le_of_ble_eq_true rfl, Nat.le_of_ble_eq_true rfl, Nat.le_of_ble_eq_true rfl, Nat.le_of_ble_eq_true rfl⟩ dX9_simulateCycle_51 (fun x62 μ61 => ?_)
  refine g_st (st' := [.int x62]) rfl ?_
  refine s_istore_n (L' := [(3, .int x62), (2, .int x60), (0, .ref (xa X 22 n0)), (1, .ref (xa X 12 n1))]) C dX9_simulateCycle_54 rfl (hN 3 (by decide)) rfl ?_
  refine s_iconst (v := (0 : Int32)) C dX9_simulateCycle_55 (by decide) ?_
  refine s_istore (L' := [(4, .int (0 : Int32)), (3, .int x62), (2, .int x60), (0, .ref (xa X 22 n0)), (1, .ref (xa X 12 n1))]) C dX9_simulateCycle_56 (hN 4 (by decide)) rfl ?_
  refine s_iconst (v := (0 : Int32)) C dX9_simulateCycle_58 (by decide) ?_
  refine s_istore (L' := [(5, .int (0 : Int32)), (4, .int (0 : Int32)), (3, .int x62), (2, .int x60), (0, .ref (xa X 22 n0)), (1, .ref (xa X 12 n1))]) C dX9_simulateCycle_59 (hN 5 (by decide)) rfl ?_
  exact g_sub [4, 3, 2, 1, 0] rfl (hj61 μ61 x60 x62 (0 : Int32) (0 : Int32))
/-! PinEngines.load(I)I -/
def fX12_load (fu : Nat) (n0 : Nat) (p1 : Int32) (μ : Mem) : Option (RX Int32) :=
  jn (fun (μ1 : Mem) =>
    some (.inl 2, μ1)
  ) fun j12 =>
  if p1 < 0 then (
    j12 μ
  ) else (
    if p1 ≤ (μ.1 0 n0 1) then (
      nm (wI μ 0 n0 1 (0 : Int32)) fun μ4 =>
      bnd (fX11_scan fu 0 p1 μ4) fun _ μ5 =>
      nm (μ5.2.1 0 n0 5) fun a6 =>
      ckB a6 2 <|
      bnd (fX5_readProgram fu 0 a6 μ5) fun _ μ8 =>
      nm (wI μ8 0 n0 2 (μ8.1 2 0 8)) fun μ9 =>
      if (μ9.1 2 0 7) = 0 then (
        nm (μ9.2.1 0 n0 4) fun a11 =>
        ckB a11 2 <|
        nm (μ9.2.1 0 n0 5) fun a13 =>
        ckB a13 2 <|
        nm (wR μ9 0 n0 4 a13) fun μ15 =>
        nm (wR μ15 0 n0 5 a11) fun μ16 =>
        nm (μ16.2.1 0 n0 4) fun a17 =>
        ckB a17 2 <|
        nm (wR μ16 22 0 0 a17) fun μ19 =>
        nm (μ19.2.1 0 n0 4) fun a20 =>
        ckB a20 2 <|
        bnd (fX3_begin fu 0 a20 μ19) fun _ μ22 =>
        nm (wI μ22 0 n0 15 (0 : Int32)) fun μ23 =>
        ckZ (0 : Int32) <|
        nm (wI μ23 0 n0 12 (0 : Int32)) fun μ24 =>
        nm (μ24.2.1 0 n0 4) fun a25 =>
        ckB a25 2 <|
        some (.inr (μ24.1 5 a25 0), μ24)
      ) else (
        some (.inr ((-10 : Int32) - (μ9.1 2 0 7)), μ9)
      )
    ) else (
      j12 μ
    )
  )
set_option maxHeartbeats 4000000 in
set_option maxRecDepth 100000 in
theorem kX12_load (l : Launch) (hls : l.stackTraces = false) (fu : Nat) (n0 : Nat) (g0 : n0 < 1) (p1 : Int32) : KonX 0 l yX12_load cX12_load 3 (some .int) 8 182 1 6 (fun ad => [.ref (ad 0 n0), .int p1]) rvI (fun μ => fX12_load fu n0 p1 μ) := by
  refine konX_of (by decide) (fun _ => Nat.le_of_ble_eq_true rfl) (fun X r0 μ hXl hXn V C E => ?_)
  have hN : ∀ i : Nat, i < 3 → i < xn X := fun i h => hXn.symm ▸ h
  have R0 := fex_rm E
  have hT : (xl X).stackTraces = false := hXl.symm ▸ hls
  show G X r0 0 0 μ 0 [(0, .ref (xa X 0 n0)), (1, .int p1)] [] (fX12_load fu n0 p1 μ)
  unfold fX12_load
  refine g_jn (P := fun j12 => ∀ (μ1 : Mem), G X r0 0 0 μ1 12 [] [] (j12 μ1)) ?_ (fun j12 hj12 => ?_)
  · intro μ1
    exact s_throw (k := 2) (names := ["java/lang/RuntimeException", "java/lang/Exception"]) hT C E (by decide +kernel) (by decide +kernel) q903 q177 th12i tg12i dX12_load_12 dX12_load_15 dX12_load_16 dX12_load_19 ⟨by decide, by decide, by decide, by decide⟩
  refine s_iload_n C dX12_load_0 rfl 1 rfl ?_
  refine s_if_lt (tgt := 12) C dX12_load_1 (by decide) (fun c2 => ?_) (fun c2 => ?_)
  ·
    exact g_wid (ca1 := 0) (sl1 := 0) (by decide) (by decide) <| g_sub [] rfl (hj12 μ)
  ·
    refine s_iload_n C dX12_load_4 rfl 1 rfl ?_
    refine s_aload_n C dX12_load_5 rfl 0 rfl ?_
    refine s_getI C (fgX12_13_0 _) g0 dX12_load_6 ?_
    refine s_icmp_le (tgt := 20) C dX12_load_9 (by decide) (fun c3 => ?_) (fun c3 => ?_)
    ·
      refine s_aload_n C dX12_load_20 rfl 0 rfl ?_
      refine s_iconst (v := (0 : Int32)) C dX12_load_21 (by decide) ?_
      refine s_putI C (fpX12_13_0 _) g0 dX12_load_22 ?_
      refine g_nmM (fun μ4 => ?_)
      refine s_aload_n C dX12_load_25 rfl 0 rfl ?_
      refine s_getF C (fgX12_25_0 _) g0 dX12_load_26 ?_
      refine s_iload_n C dX12_load_29 rfl 1 rfl ?_
      refine s_callV C R0 (kX11_scan (xl X) fu 0 (by decide) p1) (Nat.le_trans (by decide) V) mmX11_scan miX11_scan q966 (rc2 _) (by decide) rfl rfl rfl (Nat.le_of_ble_eq_true rfl) ⟨Nat.le_of_ble_eq_true rfl, Nat.le_of_ble_eq_true rfl, Nat.le_of_ble_eq_true rfl, Nat.le_of_ble_eq_true rfl⟩ dX12_load_30 (fun _ μ5 => ?_)
      refine g_st (st' := []) rfl ?_
      refine s_aload_n C dX12_load_33 rfl 0 rfl ?_
      refine s_getF C (fgX12_44_0 _) g0 dX12_load_34 ?_
      refine s_aload_n C dX12_load_37 rfl 0 rfl ?_
      refine s_getM C (fgX12_36_0 _) g0 dX12_load_38 ?_
      refine g_nmA (fun a6 => ?_)
      refine g_ckB (fun b7 => ?_)
      refine s_callV C R0 (kX5_readProgram (xl X) fu 0 (by decide) a6 b7) (Nat.le_trans (by decide) V) mmX5_readProgram miX5_readProgram q1031 (rc10 _) (by decide) rfl rfl rfl (Nat.le_of_ble_eq_true rfl) ⟨Nat.le_of_ble_eq_true rfl, Nat.le_of_ble_eq_true rfl, Nat.le_of_ble_eq_true rfl, Nat.le_of_ble_eq_true rfl⟩ dX12_load_41 (fun _ μ8 => ?_)
      refine g_st (st' := []) rfl ?_
      refine s_aload_n C dX12_load_44 rfl 0 rfl ?_
      refine s_aload_n C dX12_load_45 rfl 0 rfl ?_
      refine s_getF C (fgX12_25_0 _) g0 dX12_load_46 ?_
      refine s_getI C (fgX12_117_2 _) (by decide) dX12_load_49 ?_
      refine s_putI C (fpX12_17_0 _) g0 dX12_load_52 ?_
      refine g_nmM (fun μ9 => ?_)
      refine s_aload_n C dX12_load_55 rfl 0 rfl ?_
      refine s_getF C (fgX12_25_0 _) g0 dX12_load_56 ?_
      refine s_getI C (fgX12_120_2 _) (by decide) dX12_load_59 ?_
      refine s_if_eq (tgt := 76) C dX12_load_62 (by decide) (fun c10 => ?_) (fun c10 => ?_)
      ·
        refine s_aload_n C dX12_load_76 rfl 0 rfl ?_
        refine s_getM C (fgX12_32_0 _) g0 dX12_load_77 ?_
        refine g_nmA (fun a11 => ?_)
        refine g_ckB (fun b12 => ?_)
        refine s_astore_n (L' := [(2, .ref (xa X 5 a11)), (0, .ref (xa X 0 n0)), (1, .int p1)]) C dX12_load_80 rfl (hN 2 (by decide)) rfl ?_
        refine s_aload_n C dX12_load_81 rfl 1 rfl ?_
        refine s_aload_n C dX12_load_82 rfl 1 rfl ?_
        refine s_getM C (fgX12_36_0 _) g0 dX12_load_83 ?_
        refine g_nmA (fun a13 => ?_)
        refine g_ckB (fun b14 => ?_)
        refine s_putM C (fpX12_32_0 _) g0 dX12_load_86 ?_
        refine g_nmM (fun μ15 => ?_)
        refine s_aload_n C dX12_load_89 rfl 1 rfl ?_
        refine s_aload_n C dX12_load_90 rfl 0 rfl ?_
        refine s_putM C (fpX12_36_0 _) g0 dX12_load_91 ?_
        refine g_nmM (fun μ16 => ?_)
        refine s_aload_n C dX12_load_94 rfl 1 rfl ?_
        refine s_getF C (fgX12_63_0 _) g0 dX12_load_95 ?_
        refine s_aload_n C dX12_load_98 rfl 1 rfl ?_
        refine s_getM C (fgX12_32_0 _) g0 dX12_load_99 ?_
        refine g_nmA (fun a17 => ?_)
        refine g_ckB (fun b18 => ?_)
        refine s_putM C (fpX12_123_22 _) (by decide) dX12_load_102 ?_
        refine g_nmM (fun μ19 => ?_)
        refine s_aload_n C dX12_load_105 rfl 1 rfl ?_
        refine s_getF C (fgX12_51_0 _) g0 dX12_load_106 ?_
        refine s_aload_n C dX12_load_109 rfl 1 rfl ?_
        refine s_getM C (fgX12_32_0 _) g0 dX12_load_110 ?_
        refine g_nmA (fun a20 => ?_)
        refine g_ckB (fun b21 => ?_)
        refine s_callV C R0 (kX3_begin (xl X) fu 0 (by decide) a20 b21) (Nat.le_trans (by decide) V) mmX3_begin miX3_begin q709 (rc12 _) (by decide) rfl rfl rfl (Nat.le_of_ble_eq_true rfl) ⟨Nat.le_of_ble_eq_true rfl, Nat.le_of_ble_eq_true rfl, Nat.le_of_ble_eq_true rfl, Nat.le_of_ble_eq_true rfl⟩ dX12_load_113 (fun _ μ22 => ?_)
        refine g_st (st' := []) rfl ?_
        refine s_aload_n C dX12_load_116 rfl 1 rfl ?_
        refine s_iconst (v := (0 : Int32)) C dX12_load_117 (by decide) ?_
        refine s_putI C (fpX12_90_0 _) g0 dX12_load_118 ?_
        refine g_nmM (fun μ23 => ?_)
        refine s_aload_n C dX12_load_121 rfl 1 rfl ?_
        refine s_iconst (v := (0 : Int32)) C dX12_load_122 (by decide) ?_
        refine s_putZ C (fpX12_79_0 _) g0 dX12_load_123 ?_
        refine g_nmM (fun μ24 => ?_)
        refine s_aload_n C dX12_load_126 rfl 1 rfl ?_
        refine s_getM C (fgX12_32_0 _) g0 dX12_load_127 ?_
        refine g_nmA (fun a25 => ?_)
        refine g_ckB (fun b26 => ?_)
        refine s_getI C (fgX12_124_5 _) b26 dX12_load_130 ?_
        exact s_iretX C E ⟨by decide, by decide⟩ dX12_load_133
      ·
        refine s_bipush (v := (-10 : Int32)) C dX12_load_65 (by decide) ?_
        refine s_aload_n C dX12_load_67 rfl 0 rfl ?_
        refine s_getF C (fgX12_25_0 _) g0 dX12_load_68 ?_
        refine s_getI C (fgX12_120_2 _) (by decide) dX12_load_71 ?_
        refine s_isub C dX12_load_74 ?_
        exact s_iretX C E ⟨by decide, by decide⟩ dX12_load_75
    ·
      exact g_wid (ca1 := 0) (sl1 := 0) (by decide) (by decide) <| g_sub [] rfl (hj12 μ)
/-! PinEngines.run(I)I -/
def fX12_run (fu : Nat) (n0 : Nat) (p1 : Int32) (μ : Mem) : Option (RX Int32) :=
  jn (fun (μ1 : Mem) =>
    some (.inl 2, μ1)
  ) fun j11 =>
  if p1 < 0 then (
    j11 μ
  ) else (
    if p1 ≤ (1000 : Int32) then (
      if ((μ.1 12 0 0) + p1) ≤ (1000000 : Int32) then (
        jn (lp (fun _ _ _ => none) fu (fun j45 (μ5 : Mem) (x6 : Int32) (x7 : Int32) =>
          if p1 ≤ x7 then (
            some (.inr x6, μ5)
          ) else (
            bnd (fX9_simulateCycle fu 0 0 μ5) fun x10 μ9 =>
            nm ((x6 + x10)) fun x11 =>
            nm (x7 + (1 : Int32)) fun x12 =>
            j45 μ9 x11 x12
          )
        )) fun j45 =>
        bnd (fX12_remember fu n0 μ) fun _ μ13 =>
        j45 μ13 (0 : Int32) (0 : Int32)
      ) else (
        some (.inr (-4 : Int32), μ)
      )
    ) else (
      j11 μ
    )
  )
set_option maxHeartbeats 4000000 in
set_option maxRecDepth 100000 in
theorem kX12_run (l : Launch) (hls : l.stackTraces = false) (fu : Nat) (n0 : Nat) (g0 : n0 < 1) (p1 : Int32) : KonX 0 l yX12_run cX12_run 4 (some .int) 7 165 1 6 (fun ad => [.ref (ad 0 n0), .int p1]) rvI (fun μ => fX12_run fu n0 p1 μ) := by
  refine konX_of (by decide) (fun _ => Nat.le_of_ble_eq_true rfl) (fun X r0 μ hXl hXn V C E => ?_)
  have hN : ∀ i : Nat, i < 4 → i < xn X := fun i h => hXn.symm ▸ h
  have R0 := fex_rm E
  have hT : (xl X).stackTraces = false := hXl.symm ▸ hls
  show G X r0 0 0 μ 0 [(0, .ref (xa X 0 n0)), (1, .int p1)] [] (fX12_run fu n0 p1 μ)
  unfold fX12_run
  refine g_jn (P := fun j11 => ∀ (μ1 : Mem), G X r0 0 0 μ1 11 [] [] (j11 μ1)) ?_ (fun j11 hj11 => ?_)
  · intro μ1
    exact s_throw (k := 2) (names := ["java/lang/RuntimeException", "java/lang/Exception"]) hT C E (by decide +kernel) (by decide +kernel) q903 q177 th12i tg12i dX12_run_11 dX12_run_14 dX12_run_15 dX12_run_18 ⟨by decide, by decide, by decide, by decide⟩
  refine s_iload_n C dX12_run_0 rfl 1 rfl ?_
  refine s_if_lt (tgt := 11) C dX12_run_1 (by decide) (fun c2 => ?_) (fun c2 => ?_)
  ·
    exact g_wid (ca1 := 0) (sl1 := 0) (by decide) (by decide) <| g_sub [] rfl (hj11 μ)
  ·
    refine s_iload_n C dX12_run_4 rfl 1 rfl ?_
    refine s_sipush (v := (1000 : Int32)) C dX12_run_5 (by decide) ?_
    refine s_icmp_le (tgt := 19) C dX12_run_8 (by decide) (fun c3 => ?_) (fun c3 => ?_)
    ·
      refine s_aload_n C dX12_run_19 rfl 0 rfl ?_
      refine s_getF C (fgX12_51_0 _) g0 dX12_run_20 ?_
      refine s_getI C (fgX12_131_12 _) (by decide) dX12_run_23 ?_
      refine s_iload_n C dX12_run_26 rfl 1 rfl ?_
      refine s_iadd C dX12_run_27 ?_
      refine s_ldcw (v := (1000000 : Int32)) C q1453 dX12_run_28 ?_
      refine s_icmp_le (tgt := 37) C dX12_run_31 (by decide) (fun c4 => ?_) (fun c4 => ?_)
      ·
        refine g_jl (P := fun j45 => ∀ (μ5 : Mem) (x6 : Int32) (x7 : Int32), G X r0 0 0 μ5 45 [(0, .ref (xa X 0 n0)), (1, .int p1), (2, .int x6), (3, .int x7)] [] (j45 μ5 x6 x7)) (fun _ _ _ => g_none) (fun j45 hj45 => ?_) (fun j45 hj45 => ?_)
        · intro μ5 x6 x7
          refine s_iload_n C dX12_run_45 rfl 3 rfl ?_
          refine s_iload_n C dX12_run_46 rfl 1 rfl ?_
          refine s_icmp_ge (tgt := 70) C dX12_run_47 (by decide) (fun c8 => ?_) (fun c8 => ?_)
          ·
            refine s_iload_n C dX12_run_70 rfl 2 rfl ?_
            exact s_iretX C E ⟨by decide, by decide⟩ dX12_run_71
          ·
            refine s_iload_n C dX12_run_50 rfl 2 rfl ?_
            refine s_aload_n C dX12_run_51 rfl 0 rfl ?_
            refine s_getF C (fgX12_63_0 _) g0 dX12_run_52 ?_
            refine s_aload_n C dX12_run_55 rfl 0 rfl ?_
            refine s_getF C (fgX12_51_0 _) g0 dX12_run_56 ?_
            refine s_callV C R0 (kX9_simulateCycle (xl X) fu 0 (by decide) 0 (by decide)) (Nat.le_trans (by decide) V) mmX9_simulateCycle miX9_simulateCycle q1472 (rc22 _) (by decide) rfl rfl rfl (Nat.le_of_ble_eq_true rfl) ⟨Nat.le_of_ble_eq_true rfl, Nat.le_of_ble_eq_true rfl, Nat.le_of_ble_eq_true rfl, Nat.le_of_ble_eq_true rfl⟩ dX12_run_59 (fun x10 μ9 => ?_)
            refine g_st (st' := [.int x10, .int x6]) rfl ?_
            refine s_iadd C dX12_run_62 ?_
            refine g_nmI (fun x11 => ?_)
            refine s_istore_n (L' := [(2, .int x11), (0, .ref (xa X 0 n0)), (1, .int p1), (3, .int x7)]) C dX12_run_63 rfl (hN 2 (by decide)) rfl ?_
            refine g_nmQ (fun x12 ex12 => ?_)
            refine s_iinc (v := x12) (j := 3) (L' := [(3, .int x12), (2, .int x11), (0, .ref (xa X 0 n0)), (1, .int p1)]) C dX12_run_64 rfl (by rw [ex12]; rfl) (hN 3 (by decide)) rfl ?_
            refine s_goto (tgt := 45) C dX12_run_67 (by decide) ?_
            exact g_wid (ca1 := 0) (sl1 := 0) (by decide) (by decide) <| g_sub [2, 3, 1, 0] rfl (hj45 μ9 x11 x12)
        refine s_aload_n C dX12_run_37 rfl 0 rfl ?_
        refine s_callV C R0 (kX12_remember (xl X) fu n0 g0) (Nat.le_trans (by decide) V) mmX12_remember miX12_remember q1395 (rc0 _) g0 rfl rfl rfl (Nat.le_of_ble_eq_true rfl) ⟨Nat.le_of_ble_eq_true rfl, Nat.le_of_ble_eq_true rfl, Nat.le_of_ble_eq_true rfl, Nat.le_of_ble_eq_true rfl⟩ dX12_run_38 (fun _ μ13 => ?_)
        refine g_st (st' := []) rfl ?_
        refine s_iconst (v := (0 : Int32)) C dX12_run_41 (by decide) ?_
        refine s_istore_n (L' := [(2, .int (0 : Int32)), (0, .ref (xa X 0 n0)), (1, .int p1)]) C dX12_run_42 rfl (hN 2 (by decide)) rfl ?_
        refine s_iconst (v := (0 : Int32)) C dX12_run_43 (by decide) ?_
        refine s_istore_n (L' := [(3, .int (0 : Int32)), (2, .int (0 : Int32)), (0, .ref (xa X 0 n0)), (1, .int p1)]) C dX12_run_44 rfl (hN 3 (by decide)) rfl ?_
        exact g_wid (ca1 := 0) (sl1 := 0) (by decide) (by decide) <| g_sub [2, 3, 1, 0] rfl (hj45 μ13 (0 : Int32) (0 : Int32))
      ·
        refine s_bipush (v := (-4 : Int32)) C dX12_run_34 (by decide) ?_
        exact s_iretX C E ⟨by decide, by decide⟩ dX12_run_36
    ·
      exact g_wid (ca1 := 0) (sl1 := 0) (by decide) (by decide) <| g_sub [] rfl (hj11 μ)
/-! PinEngines.cyclesUntil(III)I -/
def fX12_cyclesUntil (fu : Nat) (n0 : Nat) (p1 : Int32) (p2 : Int32) (p3 : Int32) (μ : Mem) : Option (RX Int32) :=
  jn (lp (fun _ _ => none) fu (fun j26 (μ1 : Mem) (x2 : Int32) =>
    if p3 < x2 then (
      some (.inr (-1 : Int32), μ1)
    ) else (
      bnd (fX3_levels 1 μ1) fun x5 μ4 =>
      if ¬ ((x5 >>> (p1 &&& 31)) &&& (1 : Int32)) = p2 then (
        bnd (fX9_simulateCycle fu 0 1 μ4) fun x8 μ7 =>
        nm (x2 + (1 : Int32)) fun x9 =>
        j26 μ7 x9
      ) else (
        some (.inr x2, μ4)
      )
    )
  )) fun j26 =>
  bndX (fX12_checkPin p1 μ) fun _ μ10 =>
  bndX (fX12_checkLevel p2 μ10) fun _ μ11 =>
  bndX (fX12_checkLimit p3 μ11) fun _ μ12 =>
  bnd (fX3_copyFrom fu 1 0 μ12) fun _ μ13 =>
  j26 μ13 (0 : Int32)
set_option maxHeartbeats 4000000 in
set_option maxRecDepth 100000 in
theorem kX12_cyclesUntil (l : Launch) (hls : l.stackTraces = false) (fu : Nat) (n0 : Nat) (g0 : n0 < 1) (p1 : Int32) (p2 : Int32) (p3 : Int32) : KonX 0 l yX12_cyclesUntil cX12_cyclesUntil 5 (some .int) 7 165 3 18 (fun ad => [.ref (ad 0 n0), .int p1, .int p2, .int p3]) rvI (fun μ => fX12_cyclesUntil fu n0 p1 p2 p3 μ) := by
  refine konX_of (by decide) (fun _ => Nat.le_of_ble_eq_true rfl) (fun X r0 μ hXl hXn V C E => ?_)
  have hN : ∀ i : Nat, i < 5 → i < xn X := fun i h => hXn.symm ▸ h
  have R0 := fex_rm E
  have hT : (xl X).stackTraces = false := hXl.symm ▸ hls
  show G X r0 0 0 μ 0 [(0, .ref (xa X 0 n0)), (1, .int p1), (2, .int p2), (3, .int p3)] [] (fX12_cyclesUntil fu n0 p1 p2 p3 μ)
  unfold fX12_cyclesUntil
  refine g_jl (P := fun j26 => ∀ (μ1 : Mem) (x2 : Int32), G X r0 3 18 μ1 26 [(0, .ref (xa X 0 n0)), (1, .int p1), (2, .int p2), (3, .int p3), (4, .int x2)] [] (j26 μ1 x2)) (fun _ _ => g_none) (fun j26 hj26 => ?_) (fun j26 hj26 => ?_)
  · intro μ1 x2
    refine s_iload C dX12_cyclesUntil_26 4 rfl ?_
    refine s_iload_n C dX12_cyclesUntil_28 rfl 3 rfl ?_
    refine s_icmp_gt (tgt := 68) C dX12_cyclesUntil_29 (by decide) (fun c3 => ?_) (fun c3 => ?_)
    ·
      refine s_iconst (v := (-1 : Int32)) C dX12_cyclesUntil_68 (by decide) ?_
      exact s_iretX C E ⟨by decide, by decide⟩ dX12_cyclesUntil_69
    ·
      refine s_aload_n C dX12_cyclesUntil_32 rfl 0 rfl ?_
      refine s_getF C (fgX12_55_0 _) g0 dX12_cyclesUntil_33 ?_
      refine s_callV C R0 (kX3_levels (xl X) 1 (by decide)) (Nat.le_trans (by decide) V) mmX3_levels miX3_levels q1235 (rc12 _) (by decide) rfl rfl rfl (Nat.le_of_ble_eq_true rfl) ⟨Nat.le_of_ble_eq_true rfl, Nat.le_of_ble_eq_true rfl, Nat.le_of_ble_eq_true rfl, Nat.le_of_ble_eq_true rfl⟩ dX12_cyclesUntil_36 (fun x5 μ4 => ?_)
      refine g_st (st' := [.int x5]) rfl ?_
      refine s_iload_n C dX12_cyclesUntil_39 rfl 1 rfl ?_
      refine s_ishr C dX12_cyclesUntil_40 ?_
      refine s_iconst (v := (1 : Int32)) C dX12_cyclesUntil_41 (by decide) ?_
      refine s_iand C dX12_cyclesUntil_42 ?_
      refine s_iload_n C dX12_cyclesUntil_43 rfl 2 rfl ?_
      refine s_icmp_ne (tgt := 50) C dX12_cyclesUntil_44 (by decide) (fun c6 => ?_) (fun c6 => ?_)
      ·
        refine s_aload_n C dX12_cyclesUntil_50 rfl 0 rfl ?_
        refine s_getF C (fgX12_63_0 _) g0 dX12_cyclesUntil_51 ?_
        refine s_aload_n C dX12_cyclesUntil_54 rfl 0 rfl ?_
        refine s_getF C (fgX12_55_0 _) g0 dX12_cyclesUntil_55 ?_
        refine s_callV C R0 (kX9_simulateCycle (xl X) fu 0 (by decide) 1 (by decide)) (Nat.le_trans (by decide) V) mmX9_simulateCycle miX9_simulateCycle q1472 (rc22 _) (by decide) rfl rfl rfl (Nat.le_of_ble_eq_true rfl) ⟨Nat.le_of_ble_eq_true rfl, Nat.le_of_ble_eq_true rfl, Nat.le_of_ble_eq_true rfl, Nat.le_of_ble_eq_true rfl⟩ dX12_cyclesUntil_58 (fun x8 μ7 => ?_)
        refine g_st (st' := [.int x8]) rfl ?_
        refine s_pop C dX12_cyclesUntil_61 rfl ?_
        refine g_nmQ (fun x9 ex9 => ?_)
        refine s_iinc (v := x9) (j := 4) (L' := [(4, .int x9), (0, .ref (xa X 0 n0)), (1, .int p1), (2, .int p2), (3, .int p3)]) C dX12_cyclesUntil_62 rfl (by rw [ex9]; rfl) (hN 4 (by decide)) rfl ?_
        refine s_goto (tgt := 26) C dX12_cyclesUntil_65 (by decide) ?_
        exact g_wid (ca1 := 3) (sl1 := 18) (by decide) (by decide) <| g_sub [1, 2, 3, 4, 0] rfl (hj26 μ7 x9)
      ·
        refine s_iload C dX12_cyclesUntil_47 4 rfl ?_
        exact s_iretX C E ⟨by decide, by decide⟩ dX12_cyclesUntil_49
  refine s_iload_n C dX12_cyclesUntil_0 rfl 1 rfl ?_
  refine s_callSX C E (kX12_checkPin (xl X) hT p1) (Nat.le_trans (by decide) V) mmX12_checkPin q1218 q1217 rfl rfl rfl (Nat.le_of_ble_eq_true rfl) ⟨Nat.le_of_ble_eq_true rfl, Nat.le_of_ble_eq_true rfl, Nat.le_of_ble_eq_true rfl, Nat.le_of_ble_eq_true rfl⟩ dX12_cyclesUntil_1 (fun _ μ10 => ?_)
  refine g_st (st' := []) rfl ?_
  refine s_iload_n C dX12_cyclesUntil_4 rfl 2 rfl ?_
  refine s_callSX C E (kX12_checkLevel (xl X) hT p2) (Nat.le_trans (by decide) V) mmX12_checkLevel q1440 q1439 rfl rfl rfl (Nat.le_of_ble_eq_true rfl) ⟨Nat.le_of_ble_eq_true rfl, Nat.le_of_ble_eq_true rfl, Nat.le_of_ble_eq_true rfl, Nat.le_of_ble_eq_true rfl⟩ dX12_cyclesUntil_5 (fun _ μ11 => ?_)
  refine g_st (st' := []) rfl ?_
  refine s_iload_n C dX12_cyclesUntil_8 rfl 3 rfl ?_
  refine s_callSX C E (kX12_checkLimit (xl X) hT p3) (Nat.le_trans (by decide) V) mmX12_checkLimit q1655 q1654 rfl rfl rfl (Nat.le_of_ble_eq_true rfl) ⟨Nat.le_of_ble_eq_true rfl, Nat.le_of_ble_eq_true rfl, Nat.le_of_ble_eq_true rfl, Nat.le_of_ble_eq_true rfl⟩ dX12_cyclesUntil_9 (fun _ μ12 => ?_)
  refine g_st (st' := []) rfl ?_
  refine s_aload_n C dX12_cyclesUntil_12 rfl 0 rfl ?_
  refine s_getF C (fgX12_55_0 _) g0 dX12_cyclesUntil_13 ?_
  refine s_aload_n C dX12_cyclesUntil_16 rfl 0 rfl ?_
  refine s_getF C (fgX12_51_0 _) g0 dX12_cyclesUntil_17 ?_
  refine s_callV C R0 (kX3_copyFrom (xl X) fu 1 (by decide) 0 (by decide)) (Nat.le_trans (by decide) V) mmX3_copyFrom miX3_copyFrom q870 (rc12 _) (by decide) rfl rfl rfl (Nat.le_of_ble_eq_true rfl) ⟨Nat.le_of_ble_eq_true rfl, Nat.le_of_ble_eq_true rfl, Nat.le_of_ble_eq_true rfl, Nat.le_of_ble_eq_true rfl⟩ dX12_cyclesUntil_20 (fun _ μ13 => ?_)
  refine g_st (st' := []) rfl ?_
  refine s_iconst (v := (0 : Int32)) C dX12_cyclesUntil_23 (by decide) ?_
  refine s_istore (L' := [(4, .int (0 : Int32)), (0, .ref (xa X 0 n0)), (1, .int p1), (2, .int p2), (3, .int p3)]) C dX12_cyclesUntil_24 (hN 4 (by decide)) rfl ?_
  exact g_wid (ca1 := 3) (sl1 := 18) (by decide) (by decide) <| g_sub [1, 2, 3, 4, 0] rfl (hj26 μ13 (0 : Int32))
/-! PinEngines.cyclesTo(III)I -/
def fX12_cyclesTo (fu : Nat) (n0 : Nat) (p1 : Int32) (p2 : Int32) (p3 : Int32) (μ : Mem) : Option (RX Int32) :=
  jn (lp (fun _ _ => none) fu (fun j29 (μ1 : Mem) (x2 : Int32) =>
    if p3 < x2 then (
      some (.inr (-1 : Int32), μ1)
    ) else (
      ckI p1 (4) <|
      if ¬ (μ1.1 18 (4 * 1 + p1.toNatClampNeg) 0) = p2 then (
        bnd (fX9_simulateCycle fu 0 1 μ1) fun x8 μ7 =>
        nm (x2 + (1 : Int32)) fun x9 =>
        j29 μ7 x9
      ) else (
        some (.inr x2, μ1)
      )
    )
  )) fun j29 =>
  bndX (fX12_existingEngine n0 p1 μ) fun a11 μ10 =>
  ckB a11 52 <|
  bndX (fX12_checkAddress n0 p2 μ10) fun _ μ13 =>
  bndX (fX12_checkLimit p3 μ13) fun _ μ14 =>
  bnd (fX3_copyFrom fu 1 0 μ14) fun _ μ15 =>
  j29 μ15 (0 : Int32)
set_option maxHeartbeats 4000000 in
set_option maxRecDepth 100000 in
theorem kX12_cyclesTo (l : Launch) (hls : l.stackTraces = false) (fu : Nat) (n0 : Nat) (g0 : n0 < 1) (p1 : Int32) (p2 : Int32) (p3 : Int32) : KonX 0 l yX12_cyclesTo cX12_cyclesTo 5 (some .int) 7 165 3 18 (fun ad => [.ref (ad 0 n0), .int p1, .int p2, .int p3]) rvI (fun μ => fX12_cyclesTo fu n0 p1 p2 p3 μ) := by
  refine konX_of (by decide) (fun _ => Nat.le_of_ble_eq_true rfl) (fun X r0 μ hXl hXn V C E => ?_)
  have hN : ∀ i : Nat, i < 5 → i < xn X := fun i h => hXn.symm ▸ h
  have R0 := fex_rm E
  have hT : (xl X).stackTraces = false := hXl.symm ▸ hls
  show G X r0 0 0 μ 0 [(0, .ref (xa X 0 n0)), (1, .int p1), (2, .int p2), (3, .int p3)] [] (fX12_cyclesTo fu n0 p1 p2 p3 μ)
  unfold fX12_cyclesTo
  refine g_jl (P := fun j29 => ∀ (μ1 : Mem) (x2 : Int32), G X r0 3 18 μ1 29 [(0, .ref (xa X 0 n0)), (1, .int p1), (2, .int p2), (3, .int p3), (4, .int x2)] [] (j29 μ1 x2)) (fun _ _ => g_none) (fun j29 hj29 => ?_) (fun j29 hj29 => ?_)
  · intro μ1 x2
    refine s_iload C dX12_cyclesTo_29 4 rfl ?_
    refine s_iload_n C dX12_cyclesTo_31 rfl 3 rfl ?_
    refine s_icmp_gt (tgt := 72) C dX12_cyclesTo_32 (by decide) (fun c3 => ?_) (fun c3 => ?_)
    ·
      refine s_iconst (v := (-1 : Int32)) C dX12_cyclesTo_72 (by decide) ?_
      exact s_iretX C E ⟨by decide, by decide⟩ dX12_cyclesTo_73
    ·
      refine s_aload_n C dX12_cyclesTo_35 rfl 0 rfl ?_
      refine s_getF C (fgX12_55_0 _) g0 dX12_cyclesTo_36 ?_
      refine s_getF C (fgX12_281_12 _) (by decide) dX12_cyclesTo_39 ?_
      refine s_iload_n C dX12_cyclesTo_42 rfl 1 rfl ?_
      refine s_aaldF C (ag14 _) (fun _ => rfl) (by decide) dX12_cyclesTo_43 (fun c4 => ?_)
      have b5 : 4 * 1 + p1.toNatClampNeg < 52 := by have := c4; omega
      refine s_getI C (fgX12_166_18 _) b5 dX12_cyclesTo_44 ?_
      refine s_iload_n C dX12_cyclesTo_47 rfl 2 rfl ?_
      refine s_icmp_ne (tgt := 54) C dX12_cyclesTo_48 (by decide) (fun c6 => ?_) (fun c6 => ?_)
      ·
        refine s_aload_n C dX12_cyclesTo_54 rfl 0 rfl ?_
        refine s_getF C (fgX12_63_0 _) g0 dX12_cyclesTo_55 ?_
        refine s_aload_n C dX12_cyclesTo_58 rfl 0 rfl ?_
        refine s_getF C (fgX12_55_0 _) g0 dX12_cyclesTo_59 ?_
        refine s_callV C R0 (kX9_simulateCycle (xl X) fu 0 (by decide) 1 (by decide)) (Nat.le_trans (by decide) V) mmX9_simulateCycle miX9_simulateCycle q1472 (rc22 _) (by decide) rfl rfl rfl (Nat.le_of_ble_eq_true rfl) ⟨Nat.le_of_ble_eq_true rfl, Nat.le_of_ble_eq_true rfl, Nat.le_of_ble_eq_true rfl, Nat.le_of_ble_eq_true rfl⟩ dX12_cyclesTo_62 (fun x8 μ7 => ?_)
        refine g_st (st' := [.int x8]) rfl ?_
        refine s_pop C dX12_cyclesTo_65 rfl ?_
        refine g_nmQ (fun x9 ex9 => ?_)
        refine s_iinc (v := x9) (j := 4) (L' := [(4, .int x9), (0, .ref (xa X 0 n0)), (1, .int p1), (2, .int p2), (3, .int p3)]) C dX12_cyclesTo_66 rfl (by rw [ex9]; rfl) (hN 4 (by decide)) rfl ?_
        refine s_goto (tgt := 29) C dX12_cyclesTo_69 (by decide) ?_
        exact g_wid (ca1 := 3) (sl1 := 18) (by decide) (by decide) <| g_sub [1, 2, 3, 4, 0] rfl (hj29 μ7 x9)
      ·
        refine s_iload C dX12_cyclesTo_51 4 rfl ?_
        exact s_iretX C E ⟨by decide, by decide⟩ dX12_cyclesTo_53
  refine s_aload_n C dX12_cyclesTo_0 rfl 0 rfl ?_
  refine s_iload_n C dX12_cyclesTo_1 rfl 1 rfl ?_
  refine s_callVX C E (kX12_existingEngine (xl X) hT n0 g0 p1) (Nat.le_trans (by decide) V) mmX12_existingEngine miX12_existingEngine q1274 (rc0 _) g0 rfl rfl rfl (Nat.le_of_ble_eq_true rfl) ⟨Nat.le_of_ble_eq_true rfl, Nat.le_of_ble_eq_true rfl, Nat.le_of_ble_eq_true rfl, Nat.le_of_ble_eq_true rfl⟩ dX12_cyclesTo_2 (fun a11 μ10 => ?_)
  refine g_st (st' := [.ref (xa X 18 a11)]) rfl ?_
  refine g_ckB (fun b12 => ?_)
  refine s_pop C dX12_cyclesTo_5 rfl ?_
  refine s_aload_n C dX12_cyclesTo_6 rfl 0 rfl ?_
  refine s_iload_n C dX12_cyclesTo_7 rfl 2 rfl ?_
  refine s_callVX C E (kX12_checkAddress (xl X) hT n0 g0 p2) (Nat.le_trans (by decide) V) mmX12_checkAddress miX12_checkAddress q1664 (rc0 _) g0 rfl rfl rfl (Nat.le_of_ble_eq_true rfl) ⟨Nat.le_of_ble_eq_true rfl, Nat.le_of_ble_eq_true rfl, Nat.le_of_ble_eq_true rfl, Nat.le_of_ble_eq_true rfl⟩ dX12_cyclesTo_8 (fun _ μ13 => ?_)
  refine g_st (st' := []) rfl ?_
  refine s_iload_n C dX12_cyclesTo_11 rfl 3 rfl ?_
  refine s_callSX C E (kX12_checkLimit (xl X) hT p3) (Nat.le_trans (by decide) V) mmX12_checkLimit q1655 q1654 rfl rfl rfl (Nat.le_of_ble_eq_true rfl) ⟨Nat.le_of_ble_eq_true rfl, Nat.le_of_ble_eq_true rfl, Nat.le_of_ble_eq_true rfl, Nat.le_of_ble_eq_true rfl⟩ dX12_cyclesTo_12 (fun _ μ14 => ?_)
  refine g_st (st' := []) rfl ?_
  refine s_aload_n C dX12_cyclesTo_15 rfl 0 rfl ?_
  refine s_getF C (fgX12_55_0 _) g0 dX12_cyclesTo_16 ?_
  refine s_aload_n C dX12_cyclesTo_19 rfl 0 rfl ?_
  refine s_getF C (fgX12_51_0 _) g0 dX12_cyclesTo_20 ?_
  refine s_callV C R0 (kX3_copyFrom (xl X) fu 1 (by decide) 0 (by decide)) (Nat.le_trans (by decide) V) mmX3_copyFrom miX3_copyFrom q870 (rc12 _) (by decide) rfl rfl rfl (Nat.le_of_ble_eq_true rfl) ⟨Nat.le_of_ble_eq_true rfl, Nat.le_of_ble_eq_true rfl, Nat.le_of_ble_eq_true rfl, Nat.le_of_ble_eq_true rfl⟩ dX12_cyclesTo_23 (fun _ μ15 => ?_)
  refine g_st (st' := []) rfl ?_
  refine s_iconst (v := (0 : Int32)) C dX12_cyclesTo_26 (by decide) ?_
  refine s_istore (L' := [(4, .int (0 : Int32)), (0, .ref (xa X 0 n0)), (1, .int p1), (2, .int p2), (3, .int p3)]) C dX12_cyclesTo_27 (hN 4 (by decide)) rfl ?_
  exact g_wid (ca1 := 3) (sl1 := 18) (by decide) (by decide) <| g_sub [1, 2, 3, 4, 0] rfl (hj29 μ15 (0 : Int32))
/-! PinEngines.period(II)I -/
def fX12_period (fu : Nat) (n0 : Nat) (p1 : Int32) (p2 : Int32) (μ : Mem) : Option (RX Int32) :=
  jn (lp (fun _ _ _ _ => none) fu (fun j37 (μ1 : Mem) (x2 : Int32) (x3 : Int32) (x4 : Int32) =>
    if p2 ≤ x4 then (
      some (.inr (-1 : Int32), μ1)
    ) else (
      jn (fun (μ6 : Mem) (x7 : Int32) (x8 : Int32) (x9 : Int32) =>
        nm (x8 + (1 : Int32)) fun x10 =>
        j37 μ6 x9 x7 x10
      ) fun j94 =>
      bnd (fX9_simulateCycle fu 0 1 μ1) fun x12 μ11 =>
      bnd (fX3_levels 1 μ11) fun x14 μ13 =>
      nm (((x14 >>> (p1 &&& 31)) &&& (1 : Int32))) fun x15 =>
      if ¬ x15 = (1 : Int32) then (
        j94 μ13 x3 x4 x15
      ) else (
        if ¬ x2 = 0 then (
          j94 μ13 x3 x4 x15
        ) else (
          if x3 = (-1 : Int32) then (
            j94 μ13 x4 x4 x15
          ) else (
            some (.inr (x4 - x3), μ13)
          )
        )
      )
    )
  )) fun j37 =>
  bndX (fX12_checkPin p1 μ) fun _ μ19 =>
  bndX (fX12_checkLimit p2 μ19) fun _ μ20 =>
  bnd (fX3_copyFrom fu 1 0 μ20) fun _ μ21 =>
  bnd (fX3_levels 1 μ21) fun x23 μ22 =>
  nm (((x23 >>> (p1 &&& 31)) &&& (1 : Int32))) fun x24 =>
  j37 μ22 x24 (-1 : Int32) (0 : Int32)
set_option maxHeartbeats 4000000 in
set_option maxRecDepth 100000 in
theorem kX12_period (l : Launch) (hls : l.stackTraces = false) (fu : Nat) (n0 : Nat) (g0 : n0 < 1) (p1 : Int32) (p2 : Int32) : KonX 0 l yX12_period cX12_period 7 (some .int) 7 165 2 12 (fun ad => [.ref (ad 0 n0), .int p1, .int p2]) rvI (fun μ => fX12_period fu n0 p1 p2 μ) := by
  refine konX_of (by decide) (fun _ => Nat.le_of_ble_eq_true rfl) (fun X r0 μ hXl hXn V C E => ?_)
  have hN : ∀ i : Nat, i < 7 → i < xn X := fun i h => hXn.symm ▸ h
  have R0 := fex_rm E
  have hT : (xl X).stackTraces = false := hXl.symm ▸ hls
  show G X r0 0 0 μ 0 [(0, .ref (xa X 0 n0)), (1, .int p1), (2, .int p2)] [] (fX12_period fu n0 p1 p2 μ)
  unfold fX12_period
  refine g_jl (P := fun j37 => ∀ (μ1 : Mem) (x2 : Int32) (x3 : Int32) (x4 : Int32), G X r0 2 12 μ1 37 [(0, .ref (xa X 0 n0)), (1, .int p1), (2, .int p2), (3, .int x2), (4, .int x3), (5, .int x4)] [] (j37 μ1 x2 x3 x4)) (fun _ _ _ _ => g_none) (fun j37 hj37 => ?_) (fun j37 hj37 => ?_)
  · intro μ1 x2 x3 x4
    refine s_iload C dX12_period_37 5 rfl ?_
    refine s_iload_n C dX12_period_39 rfl 2 rfl ?_
    refine s_icmp_ge (tgt := 103) C dX12_period_40 (by decide) (fun c5 => ?_) (fun c5 => ?_)
    ·
      refine s_iconst (v := (-1 : Int32)) C dX12_period_103 (by decide) ?_
      exact s_iretX C E ⟨by decide, by decide⟩ dX12_period_104
    ·
      refine g_jn (P := fun j94 => ∀ (μ6 : Mem) (x7 : Int32) (x8 : Int32) (x9 : Int32), G X r0 2 12 μ6 94 [(0, .ref (xa X 0 n0)), (1, .int p1), (2, .int p2), (4, .int x7), (5, .int x8), (6, .int x9)] [] (j94 μ6 x7 x8 x9)) ?_ (fun j94 hj94 => ?_)
      · intro μ6 x7 x8 x9
        refine s_iload C dX12_period_94 5 rfl ?_
        refine s_istore_n (L' := [(3, .int x9), (0, .ref (xa X 0 n0)), (1, .int p1), (2, .int p2), (4, .int x7), (5, .int x8), (6, .int x9)]) C dX12_period_96 rfl (hN 3 (by decide)) rfl ?_
        refine g_nmQ (fun x10 ex10 => ?_)
        refine s_iinc (v := x10) (j := 5) (L' := [(5, .int x10), (3, .int x9), (0, .ref (xa X 0 n0)), (1, .int p1), (2, .int p2), (4, .int x7), (6, .int x9)]) C dX12_period_97 rfl (by rw [ex10]; rfl) (hN 5 (by decide)) rfl ?_
        refine s_goto (tgt := 37) C dX12_period_100 (by decide) ?_
        exact g_wid (ca1 := 2) (sl1 := 12) (by decide) (by decide) <| g_sub [2, 3, 4, 1, 5, 0] rfl (hj37 μ6 x9 x7 x10)
      refine s_aload_n C dX12_period_43 rfl 0 rfl ?_
      refine s_getF C (fgX12_63_0 _) g0 dX12_period_44 ?_
      refine s_aload_n C dX12_period_47 rfl 0 rfl ?_
      refine s_getF C (fgX12_55_0 _) g0 dX12_period_48 ?_
      refine s_callV C R0 (kX9_simulateCycle (xl X) fu 0 (by decide) 1 (by decide)) (Nat.le_trans (by decide) V) mmX9_simulateCycle miX9_simulateCycle q1472 (rc22 _) (by decide) rfl rfl rfl (Nat.le_of_ble_eq_true rfl) ⟨Nat.le_of_ble_eq_true rfl, Nat.le_of_ble_eq_true rfl, Nat.le_of_ble_eq_true rfl, Nat.le_of_ble_eq_true rfl⟩ dX12_period_51 (fun x12 μ11 => ?_)
      refine g_st (st' := [.int x12]) rfl ?_
      refine s_pop C dX12_period_54 rfl ?_
      refine s_aload_n C dX12_period_55 rfl 0 rfl ?_
      refine s_getF C (fgX12_55_0 _) g0 dX12_period_56 ?_
      refine s_callV C R0 (kX3_levels (xl X) 1 (by decide)) (Nat.le_trans (by decide) V) mmX3_levels miX3_levels q1235 (rc12 _) (by decide) rfl rfl rfl (Nat.le_of_ble_eq_true rfl) ⟨Nat.le_of_ble_eq_true rfl, Nat.le_of_ble_eq_true rfl, Nat.le_of_ble_eq_true rfl, Nat.le_of_ble_eq_true rfl⟩ dX12_period_59 (fun x14 μ13 => ?_)
      refine g_st (st' := [.int x14]) rfl ?_
      refine s_iload_n C dX12_period_62 rfl 1 rfl ?_
      refine s_ishr C dX12_period_63 ?_
      refine s_iconst (v := (1 : Int32)) C dX12_period_64 (by decide) ?_
      refine s_iand C dX12_period_65 ?_
      refine g_nmI (fun x15 => ?_)
      refine s_istore (L' := [(6, .int x15), (0, .ref (xa X 0 n0)), (1, .int p1), (2, .int p2), (3, .int x2), (4, .int x3), (5, .int x4)]) C dX12_period_66 (hN 6 (by decide)) rfl ?_
      refine s_iload C dX12_period_68 0 rfl ?_
      refine s_iconst (v := (1 : Int32)) C dX12_period_70 (by decide) ?_
      refine s_icmp_ne (tgt := 94) C dX12_period_71 (by decide) (fun c16 => ?_) (fun c16 => ?_)
      ·
        exact g_wid (ca1 := 2) (sl1 := 12) (by decide) (by decide) <| g_sub [1, 2, 3, 5, 6, 0] rfl (hj94 μ13 x3 x4 x15)
      ·
        refine s_iload_n C dX12_period_74 rfl 4 rfl ?_
        refine s_if_ne (tgt := 94) C dX12_period_75 (by decide) (fun c17 => ?_) (fun c17 => ?_)
        ·
          exact g_wid (ca1 := 2) (sl1 := 12) (by decide) (by decide) <| g_sub [1, 2, 3, 5, 6, 0] rfl (hj94 μ13 x3 x4 x15)
        ·
          refine s_iload C dX12_period_78 5 rfl ?_
          refine s_iconst (v := (-1 : Int32)) C dX12_period_80 (by decide) ?_
          refine s_icmp_eq (tgt := 90) C dX12_period_81 (by decide) (fun c18 => ?_) (fun c18 => ?_)
          ·
            refine s_iload C dX12_period_90 6 rfl ?_
            refine s_istore (L' := [(4, .int x4), (6, .int x15), (0, .ref (xa X 0 n0)), (1, .int p1), (2, .int p2), (3, .int x2), (5, .int x4)]) C dX12_period_92 (hN 4 (by decide)) rfl ?_
            exact g_wid (ca1 := 2) (sl1 := 12) (by decide) (by decide) <| g_sub [2, 3, 4, 0, 6, 1] rfl (hj94 μ13 x4 x4 x15)
          ·
            refine s_iload C dX12_period_84 6 rfl ?_
            refine s_iload C dX12_period_86 5 rfl ?_
            refine s_isub C dX12_period_88 ?_
            exact s_iretX C E ⟨by decide, by decide⟩ dX12_period_89
  refine s_iload_n C dX12_period_0 rfl 1 rfl ?_
  refine s_callSX C E (kX12_checkPin (xl X) hT p1) (Nat.le_trans (by decide) V) mmX12_checkPin q1218 q1217 rfl rfl rfl (Nat.le_of_ble_eq_true rfl) ⟨Nat.le_of_ble_eq_true rfl, Nat.le_of_ble_eq_true rfl, Nat.le_of_ble_eq_true rfl, Nat.le_of_ble_eq_true rfl⟩ dX12_period_1 (fun _ μ19 => ?_)
  refine g_st (st' := []) rfl ?_
  refine s_iload_n C dX12_period_4 rfl 2 rfl ?_
  refine s_callSX C E (kX12_checkLimit (xl X) hT p2) (Nat.le_trans (by decide) V) mmX12_checkLimit q1655 q1654 rfl rfl rfl (Nat.le_of_ble_eq_true rfl) ⟨Nat.le_of_ble_eq_true rfl, Nat.le_of_ble_eq_true rfl, Nat.le_of_ble_eq_true rfl, Nat.le_of_ble_eq_true rfl⟩ dX12_period_5 (fun _ μ20 => ?_)
  refine g_st (st' := []) rfl ?_
  refine s_aload_n C dX12_period_8 rfl 0 rfl ?_
  refine s_getF C (fgX12_55_0 _) g0 dX12_period_9 ?_
  refine s_aload_n C dX12_period_12 rfl 0 rfl ?_
  refine s_getF C (fgX12_51_0 _) g0 dX12_period_13 ?_
  refine s_callV C R0 (kX3_copyFrom (xl X) fu 1 (by decide) 0 (by decide)) (Nat.le_trans (by decide) V) mmX3_copyFrom miX3_copyFrom q870 (rc12 _) (by decide) rfl rfl rfl (Nat.le_of_ble_eq_true rfl) ⟨Nat.le_of_ble_eq_true rfl, Nat.le_of_ble_eq_true rfl, Nat.le_of_ble_eq_true rfl, Nat.le_of_ble_eq_true rfl⟩ dX12_period_16 (fun _ μ21 => ?_)
  refine g_st (st' := []) rfl ?_
  refine s_aload_n C dX12_period_19 rfl 0 rfl ?_
  refine s_getF C (fgX12_55_0 _) g0 dX12_period_20 ?_
  refine s_callV C R0 (kX3_levels (xl X) 1 (by decide)) (Nat.le_trans (by decide) V) mmX3_levels miX3_levels q1235 (rc12 _) (by decide) rfl rfl rfl (Nat.le_of_ble_eq_true rfl) ⟨Nat.le_of_ble_eq_true rfl, Nat.le_of_ble_eq_true rfl, Nat.le_of_ble_eq_true rfl, Nat.le_of_ble_eq_true rfl⟩ dX12_period_23 (fun x23 μ22 => ?_)
  refine g_st (st' := [.int x23]) rfl ?_
  refine s_iload_n C dX12_period_26 rfl 1 rfl ?_
  refine s_ishr C dX12_period_27 ?_
  refine s_iconst (v := (1 : Int32)) C dX12_period_28 (by decide) ?_
  refine s_iand C dX12_period_29 ?_
  refine g_nmI (fun x24 => ?_)
  refine s_istore_n (L' := [(3, .int x24), (0, .ref (xa X 0 n0)), (1, .int p1), (2, .int p2)]) C dX12_period_30 rfl (hN 3 (by decide)) rfl ?_
  refine s_iconst (v := (-1 : Int32)) C dX12_period_31 (by decide) ?_
  refine s_istore (L' := [(4, .int (-1 : Int32)), (3, .int x24), (0, .ref (xa X 0 n0)), (1, .int p1), (2, .int p2)]) C dX12_period_32 (hN 4 (by decide)) rfl ?_
  refine s_iconst (v := (0 : Int32)) C dX12_period_34 (by decide) ?_
  refine s_istore (L' := [(5, .int (0 : Int32)), (4, .int (-1 : Int32)), (3, .int x24), (0, .ref (xa X 0 n0)), (1, .int p1), (2, .int p2)]) C dX12_period_35 (hN 5 (by decide)) rfl ?_
  exact g_wid (ca1 := 2) (sl1 := 12) (by decide) (by decide) <| g_sub [3, 4, 5, 2, 1, 0] rfl (hj37 μ22 x24 (-1 : Int32) (0 : Int32))
/-! PinEngines.stuck(I)I -/
def fX12_stuck (fu : Nat) (n0 : Nat) (p1 : Int32) (μ : Mem) : Option (RX Int32) :=
  jn (lp (fun _ _ _ => none) fu (fun j22 (μ1 : Mem) (x2 : Int32) (x3 : Int32) =>
    jn (fun (μ4 : Mem) (x5 : Int32) =>
      some (.inr x5, μ4)
    ) fun j54 =>
    if p1 ≤ x3 then (
      j54 μ1 x2
    ) else (
      if x2 = 0 then (
        j54 μ1 x2
      ) else (
        bnd (fX9_simulateCycle fu 0 1 μ1) fun x9 μ8 =>
        bnd (fX12_idleEngines fu n0 μ8) fun x11 μ10 =>
        nm (x3 + (1 : Int32)) fun x12 =>
        j22 μ10 x11 x12
      )
    )
  )) fun j22 =>
  bndX (fX12_checkLimit p1 μ) fun _ μ13 =>
  bnd (fX3_copyFrom fu 1 0 μ13) fun _ μ14 =>
  bnd (fX12_idleEngines fu n0 μ14) fun x16 μ15 =>
  j22 μ15 x16 (0 : Int32)
set_option maxHeartbeats 4000000 in
set_option maxRecDepth 100000 in
theorem kX12_stuck (l : Launch) (hls : l.stackTraces = false) (fu : Nat) (n0 : Nat) (g0 : n0 < 1) (p1 : Int32) : KonX 0 l yX12_stuck cX12_stuck 4 (some .int) 7 165 1 6 (fun ad => [.ref (ad 0 n0), .int p1]) rvI (fun μ => fX12_stuck fu n0 p1 μ) := by
  refine konX_of (by decide) (fun _ => Nat.le_of_ble_eq_true rfl) (fun X r0 μ hXl hXn V C E => ?_)
  have hN : ∀ i : Nat, i < 4 → i < xn X := fun i h => hXn.symm ▸ h
  have R0 := fex_rm E
  have hT : (xl X).stackTraces = false := hXl.symm ▸ hls
  show G X r0 0 0 μ 0 [(0, .ref (xa X 0 n0)), (1, .int p1)] [] (fX12_stuck fu n0 p1 μ)
  unfold fX12_stuck
  refine g_jl (P := fun j22 => ∀ (μ1 : Mem) (x2 : Int32) (x3 : Int32), G X r0 1 6 μ1 22 [(0, .ref (xa X 0 n0)), (1, .int p1), (2, .int x2), (3, .int x3)] [] (j22 μ1 x2 x3)) (fun _ _ _ => g_none) (fun j22 hj22 => ?_) (fun j22 hj22 => ?_)
  · intro μ1 x2 x3
    refine g_jn (P := fun j54 => ∀ (μ4 : Mem) (x5 : Int32), G X r0 1 6 μ4 54 [(2, .int x5)] [] (j54 μ4 x5)) ?_ (fun j54 hj54 => ?_)
    · intro μ4 x5
      refine s_iload_n C dX12_stuck_54 rfl 0 rfl ?_
      exact s_iretX C E ⟨by decide, by decide⟩ dX12_stuck_55
    refine s_iload_n C dX12_stuck_22 rfl 3 rfl ?_
    refine s_iload_n C dX12_stuck_23 rfl 1 rfl ?_
    refine s_icmp_ge (tgt := 54) C dX12_stuck_24 (by decide) (fun c6 => ?_) (fun c6 => ?_)
    ·
      exact g_wid (ca1 := 1) (sl1 := 6) (by decide) (by decide) <| g_sub [2] rfl (hj54 μ1 x2)
    ·
      refine s_iload_n C dX12_stuck_27 rfl 2 rfl ?_
      refine s_if_eq (tgt := 54) C dX12_stuck_28 (by decide) (fun c7 => ?_) (fun c7 => ?_)
      ·
        exact g_wid (ca1 := 1) (sl1 := 6) (by decide) (by decide) <| g_sub [2] rfl (hj54 μ1 x2)
      ·
        refine s_aload_n C dX12_stuck_31 rfl 0 rfl ?_
        refine s_getF C (fgX12_63_0 _) g0 dX12_stuck_32 ?_
        refine s_aload_n C dX12_stuck_35 rfl 0 rfl ?_
        refine s_getF C (fgX12_55_0 _) g0 dX12_stuck_36 ?_
        refine s_callV C R0 (kX9_simulateCycle (xl X) fu 0 (by decide) 1 (by decide)) (Nat.le_trans (by decide) V) mmX9_simulateCycle miX9_simulateCycle q1472 (rc22 _) (by decide) rfl rfl rfl (Nat.le_of_ble_eq_true rfl) ⟨Nat.le_of_ble_eq_true rfl, Nat.le_of_ble_eq_true rfl, Nat.le_of_ble_eq_true rfl, Nat.le_of_ble_eq_true rfl⟩ dX12_stuck_39 (fun x9 μ8 => ?_)
        refine g_st (st' := [.int x9]) rfl ?_
        refine s_pop C dX12_stuck_42 rfl ?_
        refine s_aload_n C dX12_stuck_43 rfl 0 rfl ?_
        refine s_callV C R0 (kX12_idleEngines (xl X) fu n0 g0) (Nat.le_trans (by decide) V) mmX12_idleEngines miX12_idleEngines q1682 (rc0 _) g0 rfl rfl rfl (Nat.le_of_ble_eq_true rfl) ⟨Nat.le_of_ble_eq_true rfl, Nat.le_of_ble_eq_true rfl, Nat.le_of_ble_eq_true rfl, Nat.le_of_ble_eq_true rfl⟩ dX12_stuck_44 (fun x11 μ10 => ?_)
        refine g_st (st' := [.int x11]) rfl ?_
        refine s_istore_n (L' := [(2, .int x11), (0, .ref (xa X 0 n0)), (1, .int p1), (3, .int x3)]) C dX12_stuck_47 rfl (hN 2 (by decide)) rfl ?_
        refine g_nmQ (fun x12 ex12 => ?_)
        refine s_iinc (v := x12) (j := 3) (L' := [(3, .int x12), (2, .int x11), (0, .ref (xa X 0 n0)), (1, .int p1)]) C dX12_stuck_48 rfl (by rw [ex12]; rfl) (hN 3 (by decide)) rfl ?_
        refine s_goto (tgt := 22) C dX12_stuck_51 (by decide) ?_
        exact g_wid (ca1 := 1) (sl1 := 6) (by decide) (by decide) <| g_sub [2, 3, 1, 0] rfl (hj22 μ10 x11 x12)
  refine s_iload_n C dX12_stuck_0 rfl 1 rfl ?_
  refine s_callSX C E (kX12_checkLimit (xl X) hT p1) (Nat.le_trans (by decide) V) mmX12_checkLimit q1655 q1654 rfl rfl rfl (Nat.le_of_ble_eq_true rfl) ⟨Nat.le_of_ble_eq_true rfl, Nat.le_of_ble_eq_true rfl, Nat.le_of_ble_eq_true rfl, Nat.le_of_ble_eq_true rfl⟩ dX12_stuck_1 (fun _ μ13 => ?_)
  refine g_st (st' := []) rfl ?_
  refine s_aload_n C dX12_stuck_4 rfl 0 rfl ?_
  refine s_getF C (fgX12_55_0 _) g0 dX12_stuck_5 ?_
  refine s_aload_n C dX12_stuck_8 rfl 0 rfl ?_
  refine s_getF C (fgX12_51_0 _) g0 dX12_stuck_9 ?_
  refine s_callV C R0 (kX3_copyFrom (xl X) fu 1 (by decide) 0 (by decide)) (Nat.le_trans (by decide) V) mmX3_copyFrom miX3_copyFrom q870 (rc12 _) (by decide) rfl rfl rfl (Nat.le_of_ble_eq_true rfl) ⟨Nat.le_of_ble_eq_true rfl, Nat.le_of_ble_eq_true rfl, Nat.le_of_ble_eq_true rfl, Nat.le_of_ble_eq_true rfl⟩ dX12_stuck_12 (fun _ μ14 => ?_)
  refine g_st (st' := []) rfl ?_
  refine s_aload_n C dX12_stuck_15 rfl 0 rfl ?_
  refine s_callV C R0 (kX12_idleEngines (xl X) fu n0 g0) (Nat.le_trans (by decide) V) mmX12_idleEngines miX12_idleEngines q1682 (rc0 _) g0 rfl rfl rfl (Nat.le_of_ble_eq_true rfl) ⟨Nat.le_of_ble_eq_true rfl, Nat.le_of_ble_eq_true rfl, Nat.le_of_ble_eq_true rfl, Nat.le_of_ble_eq_true rfl⟩ dX12_stuck_16 (fun x16 μ15 => ?_)
  refine g_st (st' := [.int x16]) rfl ?_
  refine s_istore_n (L' := [(2, .int x16), (0, .ref (xa X 0 n0)), (1, .int p1)]) C dX12_stuck_19 rfl (hN 2 (by decide)) rfl ?_
  refine s_iconst (v := (0 : Int32)) C dX12_stuck_20 (by decide) ?_
  refine s_istore_n (L' := [(3, .int (0 : Int32)), (2, .int x16), (0, .ref (xa X 0 n0)), (1, .int p1)]) C dX12_stuck_21 rfl (hN 3 (by decide)) rfl ?_
  exact g_wid (ca1 := 1) (sl1 := 6) (by decide) (by decide) <| g_sub [2, 3, 1, 0] rfl (hj22 μ15 x16 (0 : Int32))
