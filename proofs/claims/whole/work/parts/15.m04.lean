/-! PinEnginesModel.source(II)I -/
def fX13_source (fu : Nat) (n0 : Nat) (p1 : Int32) (p2 : Int32) (μ : Mem) : Option (Int32 × Mem) :=
  jn (fun (μ1 : Mem) =>
    some ((0 : Int32), μ1)
  ) fun j94 =>
  if p2 = (0 : Int32) then (
    bnd (fX13_pinValue fu n0 p1 μ) fun x4 μ3 =>
    some (x4, μ3)
  ) else (
  if p2 = (1 : Int32) then (
    bnd (fX13_of n0 p1 (2 : Int32) μ) fun x7 μ6 =>
    some (x7, μ6)
  ) else (
  if p2 = (2 : Int32) then (
    bnd (fX13_of n0 p1 (3 : Int32) μ) fun x10 μ9 =>
    some (x10, μ9)
  ) else (
  if p2 = (3 : Int32) then (
    j94 μ
  ) else (
  if p2 = (4 : Int32) then (
    bnd (fX13_of n0 p1 (4 : Int32) μ) fun x14 μ13 =>
    some (x14, μ13)
  ) else (
  if p2 = (5 : Int32) then (
    bnd (fX13_of n0 p1 (5 : Int32) μ) fun x17 μ16 =>
    some (x17, μ16)
  ) else (
  if p2 = (6 : Int32) then (
    jn (fun (μ19 : Mem) (x20 : Int32) =>
      some (x20, μ19)
    ) fun j93 =>
    bnd (fX13_of n0 p1 (11 : Int32) μ) fun x22 μ21 =>
    if ¬ x22 = 0 then (
      j93 μ21 (0 : Int32)
    ) else (
      j93 μ21 (-1 : Int32)
    )
  ) else (
  j94 μ
  )))))))
set_option maxHeartbeats 4000000 in
set_option maxRecDepth 100000 in
theorem kX13_source (l : Launch) (fu : Nat) (n0 : Nat) (g0 : n0 < 1) (p1 : Int32) (p2 : Int32) : Kon 1 l yX13_source cX13_source 3 (some .int) 2 45 0 0 (fun ad => [.ref (ad 26 n0), .int p1, .int p2]) rvI (fun μ => fX13_source fu n0 p1 p2 μ) := by
  refine kon_of (by decide) (fun _ => Nat.le_of_ble_eq_true rfl) (fun X r0 μ hXl hXn V C E => ?_)
  have hN : ∀ i : Nat, i < 3 → i < xn X := fun i h => hXn.symm ▸ h
  have R0 := fen_rm E
  show G X r0 0 0 μ 0 [(0, .ref (xa X 26 n0)), (1, .int p1), (2, .int p2)] [] (fX13_source fu n0 p1 p2 μ)
  unfold fX13_source
  refine g_jn (P := fun j94 => ∀ (μ1 : Mem), G X r0 0 0 μ1 94 [] [] (j94 μ1)) ?_ (fun j94 hj94 => ?_)
  · intro μ1
    refine s_iconst (v := (0 : Int32)) C dX13_source_94 (by decide) ?_
    exact s_iret C E dX13_source_95
  refine s_iload_n C dX13_source_0 rfl 2 rfl ?_
  refine g_cases (v := (0 : Int32)) (fun c2 => ?_) (fun c2 => ?_)
  ·
    refine s_tin (tgt := 44) C dX13_source_1 c2 (by decide) (by decide) rfl (by decide) ?_
    refine s_aload_n C dX13_source_44 rfl 0 rfl ?_
    refine s_iload_n C dX13_source_45 rfl 1 rfl ?_
    refine s_callV C R0 (kX13_pinValue (xl X) fu n0 g0 p1) (Nat.le_trans (by decide) V) mmX13_pinValue miX13_pinValue q2501 (rc26 (Nat.le_trans (by decide) V)) g0 rfl rfl rfl (Nat.le_of_ble_eq_true rfl) ⟨Nat.le_of_ble_eq_true rfl, Nat.le_of_ble_eq_true rfl, Nat.le_of_ble_eq_true rfl, Nat.le_of_ble_eq_true rfl⟩ dX13_source_46 (fun x4 μ3 => ?_)
    refine g_st (st' := [.int x4]) rfl ?_
    exact s_iret C E dX13_source_49
  ·
    refine g_cases (v := (1 : Int32)) (fun c5 => ?_) (fun c5 => ?_)
    ·
      refine s_tin (tgt := 50) C dX13_source_1 c5 (by decide) (by decide) rfl (by decide) ?_
      refine s_aload_n C dX13_source_50 rfl 0 rfl ?_
      refine s_iload_n C dX13_source_51 rfl 1 rfl ?_
      refine s_iconst (v := (2 : Int32)) C dX13_source_52 (by decide) ?_
      refine s_callV C R0 (kX13_of (xl X) n0 g0 p1 (2 : Int32)) (Nat.le_trans (by decide) V) mmX13_of miX13_of q2307 (rc26 (Nat.le_trans (by decide) V)) g0 rfl rfl rfl (Nat.le_of_ble_eq_true rfl) ⟨Nat.le_of_ble_eq_true rfl, Nat.le_of_ble_eq_true rfl, Nat.le_of_ble_eq_true rfl, Nat.le_of_ble_eq_true rfl⟩ dX13_source_53 (fun x7 μ6 => ?_)
      refine g_st (st' := [.int x7]) rfl ?_
      exact s_iret C E dX13_source_56
    ·
      refine g_cases (v := (2 : Int32)) (fun c8 => ?_) (fun c8 => ?_)
      ·
        refine s_tin (tgt := 57) C dX13_source_1 c8 (by decide) (by decide) rfl (by decide) ?_
        refine s_aload_n C dX13_source_57 rfl 0 rfl ?_
        refine s_iload_n C dX13_source_58 rfl 1 rfl ?_
        refine s_iconst (v := (3 : Int32)) C dX13_source_59 (by decide) ?_
        refine s_callV C R0 (kX13_of (xl X) n0 g0 p1 (3 : Int32)) (Nat.le_trans (by decide) V) mmX13_of miX13_of q2307 (rc26 (Nat.le_trans (by decide) V)) g0 rfl rfl rfl (Nat.le_of_ble_eq_true rfl) ⟨Nat.le_of_ble_eq_true rfl, Nat.le_of_ble_eq_true rfl, Nat.le_of_ble_eq_true rfl, Nat.le_of_ble_eq_true rfl⟩ dX13_source_60 (fun x10 μ9 => ?_)
        refine g_st (st' := [.int x10]) rfl ?_
        exact s_iret C E dX13_source_63
      ·
        refine g_cases (v := (3 : Int32)) (fun c11 => ?_) (fun c11 => ?_)
        ·
          refine s_tin (tgt := 94) C dX13_source_1 c11 (by decide) (by decide) rfl (by decide) ?_
          exact g_sub [] rfl (hj94 μ)
        ·
          refine g_cases (v := (4 : Int32)) (fun c12 => ?_) (fun c12 => ?_)
          ·
            refine s_tin (tgt := 64) C dX13_source_1 c12 (by decide) (by decide) rfl (by decide) ?_
            refine s_aload_n C dX13_source_64 rfl 0 rfl ?_
            refine s_iload_n C dX13_source_65 rfl 1 rfl ?_
            refine s_iconst (v := (4 : Int32)) C dX13_source_66 (by decide) ?_
            refine s_callV C R0 (kX13_of (xl X) n0 g0 p1 (4 : Int32)) (Nat.le_trans (by decide) V) mmX13_of miX13_of q2307 (rc26 (Nat.le_trans (by decide) V)) g0 rfl rfl rfl (Nat.le_of_ble_eq_true rfl) ⟨Nat.le_of_ble_eq_true rfl, Nat.le_of_ble_eq_true rfl, Nat.le_of_ble_eq_true rfl, Nat.le_of_ble_eq_true rfl⟩ dX13_source_67 (fun x14 μ13 => ?_)
            refine g_st (st' := [.int x14]) rfl ?_
            exact s_iret C E dX13_source_70
          ·
            refine g_cases (v := (5 : Int32)) (fun c15 => ?_) (fun c15 => ?_)
            ·
              refine s_tin (tgt := 71) C dX13_source_1 c15 (by decide) (by decide) rfl (by decide) ?_
              refine s_aload_n C dX13_source_71 rfl 0 rfl ?_
              refine s_iload_n C dX13_source_72 rfl 1 rfl ?_
              refine s_iconst (v := (5 : Int32)) C dX13_source_73 (by decide) ?_
              refine s_callV C R0 (kX13_of (xl X) n0 g0 p1 (5 : Int32)) (Nat.le_trans (by decide) V) mmX13_of miX13_of q2307 (rc26 (Nat.le_trans (by decide) V)) g0 rfl rfl rfl (Nat.le_of_ble_eq_true rfl) ⟨Nat.le_of_ble_eq_true rfl, Nat.le_of_ble_eq_true rfl, Nat.le_of_ble_eq_true rfl, Nat.le_of_ble_eq_true rfl⟩ dX13_source_74 (fun x17 μ16 => ?_)
              refine g_st (st' := [.int x17]) rfl ?_
              exact s_iret C E dX13_source_77
            ·
              refine g_cases (v := (6 : Int32)) (fun c18 => ?_) (fun c18 => ?_)
              ·
                refine s_tin (tgt := 78) C dX13_source_1 c18 (by decide) (by decide) rfl (by decide) ?_
                refine g_jn (P := fun j93 => ∀ (μ19 : Mem) (x20 : Int32), G X r0 0 0 μ19 93 [] [.int x20] (j93 μ19 x20)) ?_ (fun j93 hj93 => ?_)
                · intro μ19 x20
                  exact s_iret C E dX13_source_93
                refine s_aload_n C dX13_source_78 rfl 0 rfl ?_
                refine s_iload_n C dX13_source_79 rfl 1 rfl ?_
                refine s_bipush (v := (11 : Int32)) C dX13_source_80 (by decide) ?_
                refine s_callV C R0 (kX13_of (xl X) n0 g0 p1 (11 : Int32)) (Nat.le_trans (by decide) V) mmX13_of miX13_of q2307 (rc26 (Nat.le_trans (by decide) V)) g0 rfl rfl rfl (Nat.le_of_ble_eq_true rfl) ⟨Nat.le_of_ble_eq_true rfl, Nat.le_of_ble_eq_true rfl, Nat.le_of_ble_eq_true rfl, Nat.le_of_ble_eq_true rfl⟩ dX13_source_82 (fun x22 μ21 => ?_)
                refine g_st (st' := [.int x22]) rfl ?_
                refine s_if_ne (tgt := 92) C dX13_source_85 (by decide) (fun c23 => ?_) (fun c23 => ?_)
                ·
                  refine s_iconst (v := (0 : Int32)) C dX13_source_92 (by decide) ?_
                  exact g_sub [] rfl (hj93 μ21 (0 : Int32))
                ·
                  refine s_iconst (v := (-1 : Int32)) C dX13_source_88 (by decide) ?_
                  refine s_goto (tgt := 93) C dX13_source_89 (by decide) ?_
                  exact g_sub [] rfl (hj93 μ21 (-1 : Int32))
              ·
                refine s_tout (tgt := 94) C dX13_source_1 (by have := ine (i := 0) (by decide) c2; have := ine (i := 1) (by decide) c5; have := ine (i := 2) (by decide) c8; have := ine (i := 3) (by decide) c11; have := ine (i := 4) (by decide) c12; have := ine (i := 5) (by decide) c15; have := ine (i := 6) (by decide) c18; omega) (by decide) ?_
                exact g_sub [] rfl (hj94 μ)
/-! PinEnginesModel.lowest(II)I -/
def fX13_lowest (p0 : Int32) (p1 : Int32) (μ : Mem) : Option (Int32 × Mem) :=
  jn (fun (μ1 : Mem) (x2 : Int32) =>
    some (x2, μ1)
  ) fun j17 =>
  if ¬ p1 = (32 : Int32) then (
    j17 μ (p0 &&& (((1 : Int32) <<< (p1 &&& 31)) - (1 : Int32)))
  ) else (
    j17 μ p0
  )
set_option maxHeartbeats 4000000 in
set_option maxRecDepth 100000 in
theorem kX13_lowest (l : Launch) (p0 : Int32) (p1 : Int32) : Kon 1 l yX13_lowest cX13_lowest 2 (some .int) 0 0 0 0 (fun _ => [.int p0, .int p1]) rvI (fun μ => fX13_lowest p0 p1 μ) := by
  refine kon_of (by decide) (fun _ => Nat.le_of_ble_eq_true rfl) (fun X r0 μ hXl hXn V C E => ?_)
  have hN : ∀ i : Nat, i < 2 → i < xn X := fun i h => hXn.symm ▸ h
  have R0 := fen_rm E
  show G X r0 0 0 μ 0 [(0, .int p0), (1, .int p1)] [] (fX13_lowest p0 p1 μ)
  unfold fX13_lowest
  refine g_jn (P := fun j17 => ∀ (μ1 : Mem) (x2 : Int32), G X r0 0 0 μ1 17 [] [.int x2] (j17 μ1 x2)) ?_ (fun j17 hj17 => ?_)
  · intro μ1 x2
    exact s_iret C E dX13_lowest_17
  refine s_iload_n C dX13_lowest_0 rfl 1 rfl ?_
  refine s_bipush (v := (32 : Int32)) C dX13_lowest_1 (by decide) ?_
  refine s_icmp_ne (tgt := 10) C dX13_lowest_3 (by decide) (fun c3 => ?_) (fun c3 => ?_)
  ·
    refine s_iload_n C dX13_lowest_10 rfl 0 rfl ?_
    refine s_iconst (v := (1 : Int32)) C dX13_lowest_11 (by decide) ?_
    refine s_iload_n C dX13_lowest_12 rfl 1 rfl ?_
    refine s_ishl C dX13_lowest_13 ?_
    refine s_iconst (v := (1 : Int32)) C dX13_lowest_14 (by decide) ?_
    refine s_isub C dX13_lowest_15 ?_
    refine s_iand C dX13_lowest_16 ?_
    exact g_sub [] rfl (hj17 μ (p0 &&& (((1 : Int32) <<< (p1 &&& 31)) - (1 : Int32))))
  ·
    refine s_iload_n C dX13_lowest_6 rfl 0 rfl ?_
    refine s_goto (tgt := 17) C dX13_lowest_7 (by decide) ?_
    exact g_sub [] rfl (hj17 μ p0)
/-! PinEnginesModel.emptyShifted(I)V -/
def fX13_emptyShifted (n0 : Nat) (p1 : Int32) (μ : Mem) : Option (Unit × Mem) :=
  bnd (fX13_set n0 p1 (4 : Int32) (0 : Int32) μ) fun _ μ1 =>
  bnd (fX13_set n0 p1 (6 : Int32) (0 : Int32) μ1) fun _ μ2 =>
  some ((), μ2)
set_option maxHeartbeats 4000000 in
set_option maxRecDepth 100000 in
theorem kX13_emptyShifted (l : Launch) (n0 : Nat) (g0 : n0 < 1) (p1 : Int32) : Kon 1 l yX13_emptyShifted cX13_emptyShifted 2 (none) 1 23 0 0 (fun ad => [.ref (ad 26 n0), .int p1]) rvV (fun μ => fX13_emptyShifted n0 p1 μ) := by
  refine kon_of (by decide) (fun _ => Nat.le_of_ble_eq_true rfl) (fun X r0 μ hXl hXn V C E => ?_)
  have hN : ∀ i : Nat, i < 2 → i < xn X := fun i h => hXn.symm ▸ h
  have R0 := fen_rm E
  show G X r0 0 0 μ 0 [(0, .ref (xa X 26 n0)), (1, .int p1)] [] (fX13_emptyShifted n0 p1 μ)
  unfold fX13_emptyShifted
  refine s_aload_n C dX13_emptyShifted_0 rfl 0 rfl ?_
  refine s_iload_n C dX13_emptyShifted_1 rfl 1 rfl ?_
  refine s_iconst (v := (4 : Int32)) C dX13_emptyShifted_2 (by decide) ?_
  refine s_iconst (v := (0 : Int32)) C dX13_emptyShifted_3 (by decide) ?_
  refine s_callV C R0 (kX13_set (xl X) n0 g0 p1 (4 : Int32) (0 : Int32)) (Nat.le_trans (by decide) V) mmX13_set miX13_set q2383 (rc26 (Nat.le_trans (by decide) V)) g0 rfl rfl rfl (Nat.le_of_ble_eq_true rfl) ⟨Nat.le_of_ble_eq_true rfl, Nat.le_of_ble_eq_true rfl, Nat.le_of_ble_eq_true rfl, Nat.le_of_ble_eq_true rfl⟩ dX13_emptyShifted_4 (fun _ μ1 => ?_)
  refine g_st (st' := []) rfl ?_
  refine s_aload_n C dX13_emptyShifted_7 rfl 0 rfl ?_
  refine s_iload_n C dX13_emptyShifted_8 rfl 1 rfl ?_
  refine s_bipush (v := (6 : Int32)) C dX13_emptyShifted_9 (by decide) ?_
  refine s_iconst (v := (0 : Int32)) C dX13_emptyShifted_11 (by decide) ?_
  refine s_callV C R0 (kX13_set (xl X) n0 g0 p1 (6 : Int32) (0 : Int32)) (Nat.le_trans (by decide) V) mmX13_set miX13_set q2383 (rc26 (Nat.le_trans (by decide) V)) g0 rfl rfl rfl (Nat.le_of_ble_eq_true rfl) ⟨Nat.le_of_ble_eq_true rfl, Nat.le_of_ble_eq_true rfl, Nat.le_of_ble_eq_true rfl, Nat.le_of_ble_eq_true rfl⟩ dX13_emptyShifted_12 (fun _ μ2 => ?_)
  refine g_st (st' := []) rfl ?_
  exact s_vret C E dX13_emptyShifted_15
/-! PinEnginesModel.refill(I)V -/
def fX13_refill (fu : Nat) (n0 : Nat) (p1 : Int32) (μ : Mem) : Option (Unit × Mem) :=
  bnd (fX13_removeFirst fu n0 p1 (0 : Int32) μ) fun x2 μ1 =>
  bnd (fX13_set n0 p1 (5 : Int32) x2 μ1) fun _ μ3 =>
  bnd (fX13_set n0 p1 (7 : Int32) (0 : Int32) μ3) fun _ μ4 =>
  bnd (fX13_note n0 p1 (4 : Int32) μ4) fun _ μ5 =>
  some ((), μ5)
set_option maxHeartbeats 4000000 in
set_option maxRecDepth 100000 in
theorem kX13_refill (l : Launch) (fu : Nat) (n0 : Nat) (g0 : n0 < 1) (p1 : Int32) : Kon 1 l yX13_refill cX13_refill 2 (none) 2 49 0 0 (fun ad => [.ref (ad 26 n0), .int p1]) rvV (fun μ => fX13_refill fu n0 p1 μ) := by
  refine kon_of (by decide) (fun _ => Nat.le_of_ble_eq_true rfl) (fun X r0 μ hXl hXn V C E => ?_)
  have hN : ∀ i : Nat, i < 2 → i < xn X := fun i h => hXn.symm ▸ h
  have R0 := fen_rm E
  show G X r0 0 0 μ 0 [(0, .ref (xa X 26 n0)), (1, .int p1)] [] (fX13_refill fu n0 p1 μ)
  unfold fX13_refill
  refine s_aload_n C dX13_refill_0 rfl 0 rfl ?_
  refine s_iload_n C dX13_refill_1 rfl 1 rfl ?_
  refine s_iconst (v := (5 : Int32)) C dX13_refill_2 (by decide) ?_
  refine s_aload_n C dX13_refill_3 rfl 0 rfl ?_
  refine s_iload_n C dX13_refill_4 rfl 1 rfl ?_
  refine s_iconst (v := (0 : Int32)) C dX13_refill_5 (by decide) ?_
  refine s_callV C R0 (kX13_removeFirst (xl X) fu n0 g0 p1 (0 : Int32)) (Nat.le_trans (by decide) V) mmX13_removeFirst miX13_removeFirst q2396 (rc26 (Nat.le_trans (by decide) V)) g0 rfl rfl rfl (Nat.le_of_ble_eq_true rfl) ⟨Nat.le_of_ble_eq_true rfl, Nat.le_of_ble_eq_true rfl, Nat.le_of_ble_eq_true rfl, Nat.le_of_ble_eq_true rfl⟩ dX13_refill_6 (fun x2 μ1 => ?_)
  refine g_st (st' := [.int x2, .int (5 : Int32), .int p1, .ref (xa X 26 n0)]) rfl ?_
  refine s_callV C R0 (kX13_set (xl X) n0 g0 p1 (5 : Int32) x2) (Nat.le_trans (by decide) V) mmX13_set miX13_set q2383 (rc26 (Nat.le_trans (by decide) V)) g0 rfl rfl rfl (Nat.le_of_ble_eq_true rfl) ⟨Nat.le_of_ble_eq_true rfl, Nat.le_of_ble_eq_true rfl, Nat.le_of_ble_eq_true rfl, Nat.le_of_ble_eq_true rfl⟩ dX13_refill_9 (fun _ μ3 => ?_)
  refine g_st (st' := []) rfl ?_
  refine s_aload_n C dX13_refill_12 rfl 0 rfl ?_
  refine s_iload_n C dX13_refill_13 rfl 1 rfl ?_
  refine s_bipush (v := (7 : Int32)) C dX13_refill_14 (by decide) ?_
  refine s_iconst (v := (0 : Int32)) C dX13_refill_16 (by decide) ?_
  refine s_callV C R0 (kX13_set (xl X) n0 g0 p1 (7 : Int32) (0 : Int32)) (Nat.le_trans (by decide) V) mmX13_set miX13_set q2383 (rc26 (Nat.le_trans (by decide) V)) g0 rfl rfl rfl (Nat.le_of_ble_eq_true rfl) ⟨Nat.le_of_ble_eq_true rfl, Nat.le_of_ble_eq_true rfl, Nat.le_of_ble_eq_true rfl, Nat.le_of_ble_eq_true rfl⟩ dX13_refill_17 (fun _ μ4 => ?_)
  refine g_st (st' := []) rfl ?_
  refine s_aload_n C dX13_refill_20 rfl 0 rfl ?_
  refine s_iload_n C dX13_refill_21 rfl 1 rfl ?_
  refine s_iconst (v := (4 : Int32)) C dX13_refill_22 (by decide) ?_
  refine s_callV C R0 (kX13_note (xl X) n0 g0 p1 (4 : Int32)) (Nat.le_trans (by decide) V) mmX13_note miX13_note q2473 (rc26 (Nat.le_trans (by decide) V)) g0 rfl rfl rfl (Nat.le_of_ble_eq_true rfl) ⟨Nat.le_of_ble_eq_true rfl, Nat.le_of_ble_eq_true rfl, Nat.le_of_ble_eq_true rfl, Nat.le_of_ble_eq_true rfl⟩ dX13_refill_23 (fun _ μ5 => ?_)
  refine g_st (st' := []) rfl ?_
  exact s_vret C E dX13_refill_26
/-! PinEnginesModel.write(IIII)I -/
def fX13_write (n0 : Nat) (p1 : Int32) (p2 : Int32) (p3 : Int32) (p4 : Int32) (μ : Mem) : Option (Int32 × Mem) :=
  jn (fun (μ1 : Mem) =>
    some ((0 : Int32), μ1)
  ) fun j125 =>
  jn (fun (μ2 : Mem) =>
    ckI p1 (mil.getD 2 0) <|
    nm (wI μ2 28 2 p1.toNatClampNeg p2) fun μ3 =>
    bnd (fX13_setting n0 p1 p4 μ3) fun x5 μ4 =>
    ckI p1 (mil.getD 3 0) <|
    nm (wI μ4 28 3 p1.toNatClampNeg x5) fun μ6 =>
    bnd (fX13_setting n0 p1 (p4 + (1 : Int32)) μ6) fun x8 μ7 =>
    ckI p1 (mil.getD 4 0) <|
    nm (wI μ7 28 4 p1.toNatClampNeg x8) fun μ9 =>
    ckI p1 (mil.getD 5 0) <|
    nm (wI μ9 28 5 p1.toNatClampNeg p3) fun μ10 =>
    j125 μ10
  ) fun j52 =>
  if p2 = (0 : Int32) then (
    j52 μ
  ) else (
  if p2 = (1 : Int32) then (
    bnd (fX13_set n0 p1 (2 : Int32) p3 μ) fun _ μ13 =>
    j125 μ13
  ) else (
  if p2 = (2 : Int32) then (
    bnd (fX13_set n0 p1 (3 : Int32) p3 μ) fun _ μ15 =>
    j125 μ15
  ) else (
  if p2 = (3 : Int32) then (
    j125 μ
  ) else (
  if p2 = (4 : Int32) then (
    j125 μ
  ) else (
  if p2 = (5 : Int32) then (
    j125 μ
  ) else (
  if p2 = (6 : Int32) then (
    j125 μ
  ) else (
  if p2 = (7 : Int32) then (
    j52 μ
  ) else (
  if p2 = (8 : Int32) then (
    bnd (fX13_jumpToWord n0 p3 μ) fun _ μ22 =>
    j125 μ22
  ) else (
  j125 μ
  )))))))))
set_option maxHeartbeats 4000000 in
set_option maxRecDepth 100000 in
theorem kX13_write (l : Launch) (n0 : Nat) (g0 : n0 < 1) (p1 : Int32) (p2 : Int32) (p3 : Int32) (p4 : Int32) : Kon 1 l yX13_write cX13_write 5 (some .int) 2 41 0 0 (fun ad => [.ref (ad 26 n0), .int p1, .int p2, .int p3, .int p4]) rvI (fun μ => fX13_write n0 p1 p2 p3 p4 μ) := by
  refine kon_of (by decide) (fun _ => Nat.le_of_ble_eq_true rfl) (fun X r0 μ hXl hXn V C E => ?_)
  have hN : ∀ i : Nat, i < 5 → i < xn X := fun i h => hXn.symm ▸ h
  have R0 := fen_rm E
  show G X r0 0 0 μ 0 [(0, .ref (xa X 26 n0)), (1, .int p1), (2, .int p2), (3, .int p3), (4, .int p4)] [] (fX13_write n0 p1 p2 p3 p4 μ)
  unfold fX13_write
  refine g_jn (P := fun j125 => ∀ (μ1 : Mem), G X r0 0 0 μ1 125 [] [] (j125 μ1)) ?_ (fun j125 hj125 => ?_)
  · intro μ1
    refine s_iconst (v := (0 : Int32)) C dX13_write_125 (by decide) ?_
    exact s_iret C E dX13_write_126
  refine g_jn (P := fun j52 => ∀ (μ2 : Mem), G X r0 0 0 μ2 52 [(0, .ref (xa X 26 n0)), (1, .int p1), (2, .int p2), (3, .int p3), (4, .int p4)] [] (j52 μ2)) ?_ (fun j52 hj52 => ?_)
  · intro μ2
    refine s_aload_n C dX13_write_52 rfl 0 rfl ?_
    refine s_getF C (fgX13_35_26 (Nat.le_trans (by decide) V)) g0 dX13_write_53 ?_
    refine s_iload_n C dX13_write_56 rfl 1 rfl ?_
    refine s_iload_n C dX13_write_57 rfl 2 rfl ?_
    refine s_iast C (ag28 (Nat.le_trans (by decide) V)) (by decide) dX13_write_58 ?_
    refine g_nmM (fun μ3 => ?_)
    refine s_aload_n C dX13_write_59 rfl 0 rfl ?_
    refine s_getF C (fgX13_38_26 (Nat.le_trans (by decide) V)) g0 dX13_write_60 ?_
    refine s_iload_n C dX13_write_63 rfl 1 rfl ?_
    refine s_aload_n C dX13_write_64 rfl 0 rfl ?_
    refine s_iload_n C dX13_write_65 rfl 1 rfl ?_
    refine s_iload C dX13_write_66 4 rfl ?_
    refine s_callV C R0 (kX13_setting (xl X) n0 g0 p1 p4) (Nat.le_trans (by decide) V) mmX13_setting miX13_setting q2241 (rc26 (Nat.le_trans (by decide) V)) g0 rfl rfl rfl (Nat.le_of_ble_eq_true rfl) ⟨Nat.le_of_ble_eq_true rfl, Nat.le_of_ble_eq_true rfl, Nat.le_of_ble_eq_true rfl, Nat.le_of_ble_eq_true rfl⟩ dX13_write_68 (fun x5 μ4 => ?_)
    refine g_st (st' := [.int x5, .int p1, .ref (xa X 28 3)]) rfl ?_
    refine s_iast C (ag28 (Nat.le_trans (by decide) V)) (by decide) dX13_write_71 ?_
    refine g_nmM (fun μ6 => ?_)
    refine s_aload_n C dX13_write_72 rfl 0 rfl ?_
    refine s_getF C (fgX13_41_26 (Nat.le_trans (by decide) V)) g0 dX13_write_73 ?_
    refine s_iload_n C dX13_write_76 rfl 1 rfl ?_
    refine s_aload_n C dX13_write_77 rfl 0 rfl ?_
    refine s_iload_n C dX13_write_78 rfl 1 rfl ?_
    refine s_iload C dX13_write_79 4 rfl ?_
    refine s_iconst (v := (1 : Int32)) C dX13_write_81 (by decide) ?_
    refine s_iadd C dX13_write_82 ?_
    refine s_callV C R0 (kX13_setting (xl X) n0 g0 p1 (p4 + (1 : Int32))) (Nat.le_trans (by decide) V) mmX13_setting miX13_setting q2241 (rc26 (Nat.le_trans (by decide) V)) g0 rfl rfl rfl (Nat.le_of_ble_eq_true rfl) ⟨Nat.le_of_ble_eq_true rfl, Nat.le_of_ble_eq_true rfl, Nat.le_of_ble_eq_true rfl, Nat.le_of_ble_eq_true rfl⟩ dX13_write_83 (fun x8 μ7 => ?_)
    refine g_st (st' := [.int x8, .int p1, .ref (xa X 28 4)]) rfl ?_
    refine s_iast C (ag28 (Nat.le_trans (by decide) V)) (by decide) dX13_write_86 ?_
    refine g_nmM (fun μ9 => ?_)
    refine s_aload_n C dX13_write_87 rfl 0 rfl ?_
    refine s_getF C (fgX13_44_26 (Nat.le_trans (by decide) V)) g0 dX13_write_88 ?_
    refine s_iload_n C dX13_write_91 rfl 1 rfl ?_
    refine s_iload_n C dX13_write_92 rfl 3 rfl ?_
    refine s_iast C (ag28 (Nat.le_trans (by decide) V)) (by decide) dX13_write_93 ?_
    refine g_nmM (fun μ10 => ?_)
    refine s_goto (tgt := 125) C dX13_write_94 (by decide) ?_
    exact g_sub [] rfl (hj125 μ10)
  refine s_iload_n C dX13_write_0 rfl 2 rfl ?_
  refine g_cases (v := (0 : Int32)) (fun c11 => ?_) (fun c11 => ?_)
  ·
    refine s_tin (tgt := 52) C dX13_write_1 c11 (by decide) (by decide) rfl (by decide) ?_
    exact g_sub [0, 1, 2, 3, 4] rfl (hj52 μ)
  ·
    refine g_cases (v := (1 : Int32)) (fun c12 => ?_) (fun c12 => ?_)
    ·
      refine s_tin (tgt := 97) C dX13_write_1 c12 (by decide) (by decide) rfl (by decide) ?_
      refine s_aload_n C dX13_write_97 rfl 0 rfl ?_
      refine s_iload_n C dX13_write_98 rfl 1 rfl ?_
      refine s_iconst (v := (2 : Int32)) C dX13_write_99 (by decide) ?_
      refine s_iload_n C dX13_write_100 rfl 3 rfl ?_
      refine s_callV C R0 (kX13_set (xl X) n0 g0 p1 (2 : Int32) p3) (Nat.le_trans (by decide) V) mmX13_set miX13_set q2383 (rc26 (Nat.le_trans (by decide) V)) g0 rfl rfl rfl (Nat.le_of_ble_eq_true rfl) ⟨Nat.le_of_ble_eq_true rfl, Nat.le_of_ble_eq_true rfl, Nat.le_of_ble_eq_true rfl, Nat.le_of_ble_eq_true rfl⟩ dX13_write_101 (fun _ μ13 => ?_)
      refine g_st (st' := []) rfl ?_
      refine s_goto (tgt := 125) C dX13_write_104 (by decide) ?_
      exact g_sub [] rfl (hj125 μ13)
    ·
      refine g_cases (v := (2 : Int32)) (fun c14 => ?_) (fun c14 => ?_)
      ·
        refine s_tin (tgt := 107) C dX13_write_1 c14 (by decide) (by decide) rfl (by decide) ?_
        refine s_aload_n C dX13_write_107 rfl 0 rfl ?_
        refine s_iload_n C dX13_write_108 rfl 1 rfl ?_
        refine s_iconst (v := (3 : Int32)) C dX13_write_109 (by decide) ?_
        refine s_iload_n C dX13_write_110 rfl 3 rfl ?_
        refine s_callV C R0 (kX13_set (xl X) n0 g0 p1 (3 : Int32) p3) (Nat.le_trans (by decide) V) mmX13_set miX13_set q2383 (rc26 (Nat.le_trans (by decide) V)) g0 rfl rfl rfl (Nat.le_of_ble_eq_true rfl) ⟨Nat.le_of_ble_eq_true rfl, Nat.le_of_ble_eq_true rfl, Nat.le_of_ble_eq_true rfl, Nat.le_of_ble_eq_true rfl⟩ dX13_write_111 (fun _ μ15 => ?_)
        refine g_st (st' := []) rfl ?_
        refine s_goto (tgt := 125) C dX13_write_114 (by decide) ?_
        exact g_sub [] rfl (hj125 μ15)
      ·
        refine g_cases (v := (3 : Int32)) (fun c16 => ?_) (fun c16 => ?_)
        ·
          refine s_tin (tgt := 125) C dX13_write_1 c16 (by decide) (by decide) rfl (by decide) ?_
          exact g_sub [] rfl (hj125 μ)
        ·
          refine g_cases (v := (4 : Int32)) (fun c17 => ?_) (fun c17 => ?_)
          ·
            refine s_tin (tgt := 125) C dX13_write_1 c17 (by decide) (by decide) rfl (by decide) ?_
            exact g_sub [] rfl (hj125 μ)
          ·
            refine g_cases (v := (5 : Int32)) (fun c18 => ?_) (fun c18 => ?_)
            ·
              refine s_tin (tgt := 125) C dX13_write_1 c18 (by decide) (by decide) rfl (by decide) ?_
              exact g_sub [] rfl (hj125 μ)
            ·
              refine g_cases (v := (6 : Int32)) (fun c19 => ?_) (fun c19 => ?_)
              ·
                refine s_tin (tgt := 125) C dX13_write_1 c19 (by decide) (by decide) rfl (by decide) ?_
                exact g_sub [] rfl (hj125 μ)
              ·
                refine g_cases (v := (7 : Int32)) (fun c20 => ?_) (fun c20 => ?_)
                ·
                  refine s_tin (tgt := 52) C dX13_write_1 c20 (by decide) (by decide) rfl (by decide) ?_
                  exact g_sub [0, 1, 2, 3, 4] rfl (hj52 μ)
                ·
                  refine g_cases (v := (8 : Int32)) (fun c21 => ?_) (fun c21 => ?_)
                  ·
                    refine s_tin (tgt := 117) C dX13_write_1 c21 (by decide) (by decide) rfl (by decide) ?_
                    refine s_aload_n C dX13_write_117 rfl 0 rfl ?_
                    refine s_iload_n C dX13_write_118 rfl 3 rfl ?_
                    refine s_callV C R0 (kX13_jumpToWord (xl X) n0 g0 p3) (Nat.le_trans (by decide) V) mmX13_jumpToWord miX13_jumpToWord q2533 (rc26 (Nat.le_trans (by decide) V)) g0 rfl rfl rfl (Nat.le_of_ble_eq_true rfl) ⟨Nat.le_of_ble_eq_true rfl, Nat.le_of_ble_eq_true rfl, Nat.le_of_ble_eq_true rfl, Nat.le_of_ble_eq_true rfl⟩ dX13_write_119 (fun _ μ22 => ?_)
                    refine g_st (st' := []) rfl ?_
                    refine s_goto (tgt := 125) C dX13_write_122 (by decide) ?_
                    exact g_sub [] rfl (hj125 μ22)
                  ·
                    refine s_tout (tgt := 125) C dX13_write_1 (by have := ine (i := 0) (by decide) c11; have := ine (i := 1) (by decide) c12; have := ine (i := 2) (by decide) c14; have := ine (i := 3) (by decide) c16; have := ine (i := 4) (by decide) c17; have := ine (i := 5) (by decide) c18; have := ine (i := 6) (by decide) c19; have := ine (i := 7) (by decide) c20; have := ine (i := 8) (by decide) c21; omega) (by decide) ?_
                    exact g_sub [] rfl (hj125 μ)
/-! PinEnginesModel.pull(IZZ)I -/
def fX13_pull (fu : Nat) (n0 : Nat) (p1 : Int32) (p2 : Int32) (p3 : Int32) (μ : Mem) : Option (Int32 × Mem) :=
  jn (fun (μ1 : Mem) =>
    bnd (fX13_of n0 p1 (11 : Int32) μ1) fun x3 μ2 =>
    if x3 ≤ 0 then (
      if ¬ p3 = 0 then (
        bnd (fX13_of n0 p1 (2 : Int32) μ2) fun x7 μ6 =>
        bnd (fX13_set n0 p1 (5 : Int32) x7 μ6) fun _ μ8 =>
        bnd (fX13_set n0 p1 (7 : Int32) (0 : Int32) μ8) fun _ μ9 =>
        some ((0 : Int32), μ9)
      ) else (
        some ((2 : Int32), μ2)
      )
    ) else (
      bnd (fX13_refill fu n0 p1 μ2) fun _ μ10 =>
      some ((0 : Int32), μ10)
    )
  ) fun j23 =>
  if p2 = 0 then (
    j23 μ
  ) else (
    bnd (fX13_of n0 p1 (7 : Int32) μ) fun x13 μ12 =>
    bnd (fX13_setting n0 p1 (17 : Int32) μ12) fun x15 μ14 =>
    if x15 ≤ x13 then (
      j23 μ14
    ) else (
      some ((0 : Int32), μ14)
    )
  )
set_option maxHeartbeats 4000000 in
set_option maxRecDepth 100000 in
theorem kX13_pull (l : Launch) (fu : Nat) (n0 : Nat) (g0 : n0 < 1) (p1 : Int32) (p2 : Int32) (p3 : Int32) : Kon 1 l yX13_pull cX13_pull 4 (some .int) 3 70 0 0 (fun ad => [.ref (ad 26 n0), .int p1, .int p2, .int p3]) rvI (fun μ => fX13_pull fu n0 p1 p2 p3 μ) := by
  refine kon_of (by decide) (fun _ => Nat.le_of_ble_eq_true rfl) (fun X r0 μ hXl hXn V C E => ?_)
  have hN : ∀ i : Nat, i < 4 → i < xn X := fun i h => hXn.symm ▸ h
  have R0 := fen_rm E
  show G X r0 0 0 μ 0 [(0, .ref (xa X 26 n0)), (1, .int p1), (2, .int p2), (3, .int p3)] [] (fX13_pull fu n0 p1 p2 p3 μ)
  unfold fX13_pull
  refine g_jn (P := fun j23 => ∀ (μ1 : Mem), G X r0 0 0 μ1 23 [(0, .ref (xa X 26 n0)), (1, .int p1), (3, .int p3)] [] (j23 μ1)) ?_ (fun j23 hj23 => ?_)
  · intro μ1
    refine s_aload_n C dX13_pull_23 rfl 0 rfl ?_
    refine s_iload_n C dX13_pull_24 rfl 1 rfl ?_
    refine s_bipush (v := (11 : Int32)) C dX13_pull_25 (by decide) ?_
    refine s_callV C R0 (kX13_of (xl X) n0 g0 p1 (11 : Int32)) (Nat.le_trans (by decide) V) mmX13_of miX13_of q2307 (rc26 (Nat.le_trans (by decide) V)) g0 rfl rfl rfl (Nat.le_of_ble_eq_true rfl) ⟨Nat.le_of_ble_eq_true rfl, Nat.le_of_ble_eq_true rfl, Nat.le_of_ble_eq_true rfl, Nat.le_of_ble_eq_true rfl⟩ dX13_pull_27 (fun x3 μ2 => ?_)
    refine g_st (st' := [.int x3]) rfl ?_
    refine s_if_le (tgt := 40) C dX13_pull_30 (by decide) (fun c4 => ?_) (fun c4 => ?_)
    ·
      refine s_iload_n C dX13_pull_40 rfl 2 rfl ?_
      refine s_if_ne (tgt := 46) C dX13_pull_41 (by decide) (fun c5 => ?_) (fun c5 => ?_)
      ·
        refine s_aload_n C dX13_pull_46 rfl 0 rfl ?_
        refine s_iload_n C dX13_pull_47 rfl 1 rfl ?_
        refine s_iconst (v := (5 : Int32)) C dX13_pull_48 (by decide) ?_
        refine s_aload_n C dX13_pull_49 rfl 0 rfl ?_
        refine s_iload_n C dX13_pull_50 rfl 1 rfl ?_
        refine s_iconst (v := (2 : Int32)) C dX13_pull_51 (by decide) ?_
        refine s_callV C R0 (kX13_of (xl X) n0 g0 p1 (2 : Int32)) (Nat.le_trans (by decide) V) mmX13_of miX13_of q2307 (rc26 (Nat.le_trans (by decide) V)) g0 rfl rfl rfl (Nat.le_of_ble_eq_true rfl) ⟨Nat.le_of_ble_eq_true rfl, Nat.le_of_ble_eq_true rfl, Nat.le_of_ble_eq_true rfl, Nat.le_of_ble_eq_true rfl⟩ dX13_pull_52 (fun x7 μ6 => ?_)
        refine g_st (st' := [.int x7, .int (5 : Int32), .int p1, .ref (xa X 26 n0)]) rfl ?_
        refine s_callV C R0 (kX13_set (xl X) n0 g0 p1 (5 : Int32) x7) (Nat.le_trans (by decide) V) mmX13_set miX13_set q2383 (rc26 (Nat.le_trans (by decide) V)) g0 rfl rfl rfl (Nat.le_of_ble_eq_true rfl) ⟨Nat.le_of_ble_eq_true rfl, Nat.le_of_ble_eq_true rfl, Nat.le_of_ble_eq_true rfl, Nat.le_of_ble_eq_true rfl⟩ dX13_pull_55 (fun _ μ8 => ?_)
        refine g_st (st' := []) rfl ?_
        refine s_aload_n C dX13_pull_58 rfl 0 rfl ?_
        refine s_iload_n C dX13_pull_59 rfl 1 rfl ?_
        refine s_bipush (v := (7 : Int32)) C dX13_pull_60 (by decide) ?_
        refine s_iconst (v := (0 : Int32)) C dX13_pull_62 (by decide) ?_
        refine s_callV C R0 (kX13_set (xl X) n0 g0 p1 (7 : Int32) (0 : Int32)) (Nat.le_trans (by decide) V) mmX13_set miX13_set q2383 (rc26 (Nat.le_trans (by decide) V)) g0 rfl rfl rfl (Nat.le_of_ble_eq_true rfl) ⟨Nat.le_of_ble_eq_true rfl, Nat.le_of_ble_eq_true rfl, Nat.le_of_ble_eq_true rfl, Nat.le_of_ble_eq_true rfl⟩ dX13_pull_63 (fun _ μ9 => ?_)
        refine g_st (st' := []) rfl ?_
        refine s_iconst (v := (0 : Int32)) C dX13_pull_66 (by decide) ?_
        exact s_iret C E dX13_pull_67
      ·
        refine s_iconst (v := (2 : Int32)) C dX13_pull_44 (by decide) ?_
        exact s_iret C E dX13_pull_45
    ·
      refine s_aload_n C dX13_pull_33 rfl 0 rfl ?_
      refine s_iload_n C dX13_pull_34 rfl 1 rfl ?_
      refine s_callV C R0 (kX13_refill (xl X) fu n0 g0 p1) (Nat.le_trans (by decide) V) mmX13_refill miX13_refill q2525 (rc26 (Nat.le_trans (by decide) V)) g0 rfl rfl rfl (Nat.le_of_ble_eq_true rfl) ⟨Nat.le_of_ble_eq_true rfl, Nat.le_of_ble_eq_true rfl, Nat.le_of_ble_eq_true rfl, Nat.le_of_ble_eq_true rfl⟩ dX13_pull_35 (fun _ μ10 => ?_)
      refine g_st (st' := []) rfl ?_
      refine s_iconst (v := (0 : Int32)) C dX13_pull_38 (by decide) ?_
      exact s_iret C E dX13_pull_39
  refine s_iload_n C dX13_pull_0 rfl 2 rfl ?_
  refine s_if_eq (tgt := 23) C dX13_pull_1 (by decide) (fun c11 => ?_) (fun c11 => ?_)
  ·
    exact g_sub [0, 1, 3] rfl (hj23 μ)
  ·
    refine s_aload_n C dX13_pull_4 rfl 0 rfl ?_
    refine s_iload_n C dX13_pull_5 rfl 1 rfl ?_
    refine s_bipush (v := (7 : Int32)) C dX13_pull_6 (by decide) ?_
    refine s_callV C R0 (kX13_of (xl X) n0 g0 p1 (7 : Int32)) (Nat.le_trans (by decide) V) mmX13_of miX13_of q2307 (rc26 (Nat.le_trans (by decide) V)) g0 rfl rfl rfl (Nat.le_of_ble_eq_true rfl) ⟨Nat.le_of_ble_eq_true rfl, Nat.le_of_ble_eq_true rfl, Nat.le_of_ble_eq_true rfl, Nat.le_of_ble_eq_true rfl⟩ dX13_pull_8 (fun x13 μ12 => ?_)
    refine g_st (st' := [.int x13]) rfl ?_
    refine s_aload_n C dX13_pull_11 rfl 0 rfl ?_
    refine s_iload_n C dX13_pull_12 rfl 1 rfl ?_
    refine s_bipush (v := (17 : Int32)) C dX13_pull_13 (by decide) ?_
    refine s_callV C R0 (kX13_setting (xl X) n0 g0 p1 (17 : Int32)) (Nat.le_trans (by decide) V) mmX13_setting miX13_setting q2241 (rc26 (Nat.le_trans (by decide) V)) g0 rfl rfl rfl (Nat.le_of_ble_eq_true rfl) ⟨Nat.le_of_ble_eq_true rfl, Nat.le_of_ble_eq_true rfl, Nat.le_of_ble_eq_true rfl, Nat.le_of_ble_eq_true rfl⟩ dX13_pull_15 (fun x15 μ14 => ?_)
    refine g_st (st' := [.int x15, .int x13]) rfl ?_
    refine s_icmp_ge (tgt := 23) C dX13_pull_18 (by decide) (fun c16 => ?_) (fun c16 => ?_)
    ·
      exact g_sub [0, 1, 3] rfl (hj23 μ14)
    ·
      refine s_iconst (v := (0 : Int32)) C dX13_pull_21 (by decide) ?_
      exact s_iret C E dX13_pull_22
/-! PinEnginesModel.reversed(I)I -/
def fX13_reversed (fu : Nat) (p0 : Int32) (μ : Mem) : Option (Int32 × Mem) :=
  jn (lp (fun _ _ _ => none) fu (fun j4 (μ1 : Mem) (x2 : Int32) (x3 : Int32) =>
    if (32 : Int32) ≤ x3 then (
      some (x2, μ1)
    ) else (
      nm ((x2 ||| ((((p0.toUInt32 >>> (x3.toUInt32 &&& Int32.toUInt32 31)).toInt32) &&& (1 : Int32)) <<< (((31 : Int32) - x3) &&& 31)))) fun x5 =>
      nm (x3 + (1 : Int32)) fun x6 =>
      j4 μ1 x5 x6
    )
  )) fun j4 =>
  j4 μ (0 : Int32) (0 : Int32)
set_option maxHeartbeats 4000000 in
set_option maxRecDepth 100000 in
theorem kX13_reversed (l : Launch) (fu : Nat) (p0 : Int32) : Kon 1 l yX13_reversed cX13_reversed 3 (some .int) 0 0 0 0 (fun _ => [.int p0]) rvI (fun μ => fX13_reversed fu p0 μ) := by
  refine kon_of (by decide) (fun _ => Nat.le_of_ble_eq_true rfl) (fun X r0 μ hXl hXn V C E => ?_)
  have hN : ∀ i : Nat, i < 3 → i < xn X := fun i h => hXn.symm ▸ h
  have R0 := fen_rm E
  show G X r0 0 0 μ 0 [(0, .int p0)] [] (fX13_reversed fu p0 μ)
  unfold fX13_reversed
  refine g_jl (P := fun j4 => ∀ (μ1 : Mem) (x2 : Int32) (x3 : Int32), G X r0 0 0 μ1 4 [(0, .int p0), (1, .int x2), (2, .int x3)] [] (j4 μ1 x2 x3)) (fun _ _ _ => g_none) (fun j4 hj4 => ?_) (fun j4 hj4 => ?_)
  · intro μ1 x2 x3
    refine s_iload_n C dX13_reversed_4 rfl 2 rfl ?_
    refine s_bipush (v := (32 : Int32)) C dX13_reversed_5 (by decide) ?_
    refine s_icmp_ge (tgt := 29) C dX13_reversed_7 (by decide) (fun c4 => ?_) (fun c4 => ?_)
    ·
      refine s_iload_n C dX13_reversed_29 rfl 1 rfl ?_
      exact s_iret C E dX13_reversed_30
    ·
      refine s_iload_n C dX13_reversed_10 rfl 1 rfl ?_
      refine s_iload_n C dX13_reversed_11 rfl 0 rfl ?_
      refine s_iload_n C dX13_reversed_12 rfl 2 rfl ?_
      refine s_iushr C dX13_reversed_13 ?_
      refine s_iconst (v := (1 : Int32)) C dX13_reversed_14 (by decide) ?_
      refine s_iand C dX13_reversed_15 ?_
      refine s_bipush (v := (31 : Int32)) C dX13_reversed_16 (by decide) ?_
      refine s_iload_n C dX13_reversed_18 rfl 2 rfl ?_
      refine s_isub C dX13_reversed_19 ?_
      refine s_ishl C dX13_reversed_20 ?_
      refine s_ior C dX13_reversed_21 ?_
      refine g_nmI (fun x5 => ?_)
      refine s_istore_n (L' := [(1, .int x5), (0, .int p0), (2, .int x3)]) C dX13_reversed_22 rfl (hN 1 (by decide)) rfl ?_
      refine g_nmQ (fun x6 ex6 => ?_)
      refine s_iinc (v := x6) (j := 2) (L' := [(2, .int x6), (1, .int x5), (0, .int p0)]) C dX13_reversed_23 rfl (by rw [ex6]; rfl) (hN 2 (by decide)) rfl ?_
      refine s_goto (tgt := 4) C dX13_reversed_26 (by decide) ?_
      exact g_sub [2, 1, 0] rfl (hj4 μ1 x5 x6)
  refine s_iconst (v := (0 : Int32)) C dX13_reversed_0 (by decide) ?_
  refine s_istore_n (L' := [(1, .int (0 : Int32)), (0, .int p0)]) C dX13_reversed_1 rfl (hN 1 (by decide)) rfl ?_
  refine s_iconst (v := (0 : Int32)) C dX13_reversed_2 (by decide) ?_
  refine s_istore_n (L' := [(2, .int (0 : Int32)), (1, .int (0 : Int32)), (0, .int p0)]) C dX13_reversed_3 rfl (hN 2 (by decide)) rfl ?_
  exact g_sub [2, 1, 0] rfl (hj4 μ (0 : Int32) (0 : Int32))
/-! PinEnginesModel.move(IIII)I -/
def fX13_move (fu : Nat) (n0 : Nat) (p1 : Int32) (p2 : Int32) (p3 : Int32) (p4 : Int32) (μ : Mem) : Option (Int32 × Mem) :=
  jn (fun (μ1 : Mem) (x2 : Int32) =>
    if ¬ p2 = (4 : Int32) then (
      if ¬ p2 = (5 : Int32) then (
        bnd (fX13_write n0 p1 p2 x2 (5 : Int32) μ1) fun x6 μ5 =>
        some (x6, μ5)
      ) else (
        bnd (fX13_set n0 p1 (5 : Int32) x2 μ1) fun _ μ7 =>
        bnd (fX13_set n0 p1 (7 : Int32) (0 : Int32) μ7) fun _ μ8 =>
        some ((0 : Int32), μ8)
      )
    ) else (
      bnd (fX13_set n0 p1 (4 : Int32) x2 μ1) fun _ μ9 =>
      bnd (fX13_set n0 p1 (6 : Int32) (0 : Int32) μ9) fun _ μ10 =>
      some ((0 : Int32), μ10)
    )
  ) fun j27 =>
  if ¬ p3 = (1 : Int32) then (
    if ¬ p3 = (2 : Int32) then (
      j27 μ p4
    ) else (
      bnd (fX13_reversed fu p4 μ) fun x14 μ13 =>
      j27 μ13 x14
    )
  ) else (
    j27 μ (p4 ^^^ (-1 : Int32))
  )
set_option maxHeartbeats 4000000 in
set_option maxRecDepth 100000 in
theorem kX13_move (l : Launch) (fu : Nat) (n0 : Nat) (g0 : n0 < 1) (p1 : Int32) (p2 : Int32) (p3 : Int32) (p4 : Int32) : Kon 1 l yX13_move cX13_move 6 (some .int) 3 65 0 0 (fun ad => [.ref (ad 26 n0), .int p1, .int p2, .int p3, .int p4]) rvI (fun μ => fX13_move fu n0 p1 p2 p3 p4 μ) := by
  refine kon_of (by decide) (fun _ => Nat.le_of_ble_eq_true rfl) (fun X r0 μ hXl hXn V C E => ?_)
  have hN : ∀ i : Nat, i < 6 → i < xn X := fun i h => hXn.symm ▸ h
  have R0 := fen_rm E
  show G X r0 0 0 μ 0 [(0, .ref (xa X 26 n0)), (1, .int p1), (2, .int p2), (3, .int p3), (4, .int p4)] [] (fX13_move fu n0 p1 p2 p3 p4 μ)
  unfold fX13_move
  refine g_jn (P := fun j27 => ∀ (μ1 : Mem) (x2 : Int32), G X r0 0 0 μ1 27 [(0, .ref (xa X 26 n0)), (1, .int p1), (2, .int p2)] [.int x2] (j27 μ1 x2)) ?_ (fun j27 hj27 => ?_)
  · intro μ1 x2
    refine s_istore (L' := [(5, .int x2), (0, .ref (xa X 26 n0)), (1, .int p1), (2, .int p2)]) C dX13_move_27 (hN 5 (by decide)) rfl ?_
    refine s_iload_n C dX13_move_29 rfl 3 rfl ?_
    refine s_iconst (v := (4 : Int32)) C dX13_move_30 (by decide) ?_
    refine s_icmp_ne (tgt := 52) C dX13_move_31 (by decide) (fun c3 => ?_) (fun c3 => ?_)
    ·
      refine s_iload_n C dX13_move_52 rfl 3 rfl ?_
      refine s_iconst (v := (5 : Int32)) C dX13_move_53 (by decide) ?_
      refine s_icmp_ne (tgt := 75) C dX13_move_54 (by decide) (fun c4 => ?_) (fun c4 => ?_)
      ·
        refine s_aload_n C dX13_move_75 rfl 1 rfl ?_
        refine s_iload_n C dX13_move_76 rfl 2 rfl ?_
        refine s_iload_n C dX13_move_77 rfl 3 rfl ?_
        refine s_iload C dX13_move_78 0 rfl ?_
        refine s_iconst (v := (5 : Int32)) C dX13_move_80 (by decide) ?_
        refine s_callV C R0 (kX13_write (xl X) n0 g0 p1 p2 x2 (5 : Int32)) (Nat.le_trans (by decide) V) mmX13_write miX13_write q2529 (rc26 (Nat.le_trans (by decide) V)) g0 rfl rfl rfl (Nat.le_of_ble_eq_true rfl) ⟨Nat.le_of_ble_eq_true rfl, Nat.le_of_ble_eq_true rfl, Nat.le_of_ble_eq_true rfl, Nat.le_of_ble_eq_true rfl⟩ dX13_move_81 (fun x6 μ5 => ?_)
        refine g_st (st' := [.int x6]) rfl ?_
        exact s_iret C E dX13_move_84
      ·
        refine s_aload_n C dX13_move_57 rfl 1 rfl ?_
        refine s_iload_n C dX13_move_58 rfl 2 rfl ?_
        refine s_iconst (v := (5 : Int32)) C dX13_move_59 (by decide) ?_
        refine s_iload C dX13_move_60 0 rfl ?_
        refine s_callV C R0 (kX13_set (xl X) n0 g0 p1 (5 : Int32) x2) (Nat.le_trans (by decide) V) mmX13_set miX13_set q2383 (rc26 (Nat.le_trans (by decide) V)) g0 rfl rfl rfl (Nat.le_of_ble_eq_true rfl) ⟨Nat.le_of_ble_eq_true rfl, Nat.le_of_ble_eq_true rfl, Nat.le_of_ble_eq_true rfl, Nat.le_of_ble_eq_true rfl⟩ dX13_move_62 (fun _ μ7 => ?_)
        refine g_st (st' := []) rfl ?_
        refine s_aload_n C dX13_move_65 rfl 1 rfl ?_
        refine s_iload_n C dX13_move_66 rfl 2 rfl ?_
        refine s_bipush (v := (7 : Int32)) C dX13_move_67 (by decide) ?_
        refine s_iconst (v := (0 : Int32)) C dX13_move_69 (by decide) ?_
        refine s_callV C R0 (kX13_set (xl X) n0 g0 p1 (7 : Int32) (0 : Int32)) (Nat.le_trans (by decide) V) mmX13_set miX13_set q2383 (rc26 (Nat.le_trans (by decide) V)) g0 rfl rfl rfl (Nat.le_of_ble_eq_true rfl) ⟨Nat.le_of_ble_eq_true rfl, Nat.le_of_ble_eq_true rfl, Nat.le_of_ble_eq_true rfl, Nat.le_of_ble_eq_true rfl⟩ dX13_move_70 (fun _ μ8 => ?_)
        refine g_st (st' := []) rfl ?_
        refine s_iconst (v := (0 : Int32)) C dX13_move_73 (by decide) ?_
        exact s_iret C E dX13_move_74
    ·
      refine s_aload_n C dX13_move_34 rfl 1 rfl ?_
      refine s_iload_n C dX13_move_35 rfl 2 rfl ?_
      refine s_iconst (v := (4 : Int32)) C dX13_move_36 (by decide) ?_
      refine s_iload C dX13_move_37 0 rfl ?_
      refine s_callV C R0 (kX13_set (xl X) n0 g0 p1 (4 : Int32) x2) (Nat.le_trans (by decide) V) mmX13_set miX13_set q2383 (rc26 (Nat.le_trans (by decide) V)) g0 rfl rfl rfl (Nat.le_of_ble_eq_true rfl) ⟨Nat.le_of_ble_eq_true rfl, Nat.le_of_ble_eq_true rfl, Nat.le_of_ble_eq_true rfl, Nat.le_of_ble_eq_true rfl⟩ dX13_move_39 (fun _ μ9 => ?_)
      refine g_st (st' := []) rfl ?_
      refine s_aload_n C dX13_move_42 rfl 1 rfl ?_
      refine s_iload_n C dX13_move_43 rfl 2 rfl ?_
      refine s_bipush (v := (6 : Int32)) C dX13_move_44 (by decide) ?_
      refine s_iconst (v := (0 : Int32)) C dX13_move_46 (by decide) ?_
      refine s_callV C R0 (kX13_set (xl X) n0 g0 p1 (6 : Int32) (0 : Int32)) (Nat.le_trans (by decide) V) mmX13_set miX13_set q2383 (rc26 (Nat.le_trans (by decide) V)) g0 rfl rfl rfl (Nat.le_of_ble_eq_true rfl) ⟨Nat.le_of_ble_eq_true rfl, Nat.le_of_ble_eq_true rfl, Nat.le_of_ble_eq_true rfl, Nat.le_of_ble_eq_true rfl⟩ dX13_move_47 (fun _ μ10 => ?_)
      refine g_st (st' := []) rfl ?_
      refine s_iconst (v := (0 : Int32)) C dX13_move_50 (by decide) ?_
      exact s_iret C E dX13_move_51
  refine s_iload_n C dX13_move_0 rfl 3 rfl ?_
  refine s_iconst (v := (1 : Int32)) C dX13_move_1 (by decide) ?_
  refine s_icmp_ne (tgt := 12) C dX13_move_2 (by decide) (fun c11 => ?_) (fun c11 => ?_)
  ·
    refine s_iload_n C dX13_move_12 rfl 3 rfl ?_
    refine s_iconst (v := (2 : Int32)) C dX13_move_13 (by decide) ?_
    refine s_icmp_ne (tgt := 25) C dX13_move_14 (by decide) (fun c12 => ?_) (fun c12 => ?_)
    ·
      refine s_iload C dX13_move_25 4 rfl ?_
      exact g_sub [0, 1, 2] rfl (hj27 μ p4)
    ·
      refine s_iload C dX13_move_17 4 rfl ?_
      refine s_callS C R0 (kX13_reversed (xl X) fu p4) (Nat.le_trans (by decide) V) mmX13_reversed q2550 q2549 rfl rfl rfl rfl (Nat.le_of_ble_eq_true rfl) ⟨Nat.le_of_ble_eq_true rfl, Nat.le_of_ble_eq_true rfl, Nat.le_of_ble_eq_true rfl, Nat.le_of_ble_eq_true rfl⟩ dX13_move_19 (fun x14 μ13 => ?_)
      refine g_st (st' := [.int x14]) rfl ?_
      refine s_goto (tgt := 27) C dX13_move_22 (by decide) ?_
      exact g_sub [0, 1, 2] rfl (hj27 μ13 x14)
  ·
    refine s_iload C dX13_move_5 4 rfl ?_
    refine s_iconst (v := (-1 : Int32)) C dX13_move_7 (by decide) ?_
    refine s_ixor C dX13_move_8 ?_
    refine s_goto (tgt := 27) C dX13_move_9 (by decide) ?_
    exact g_sub [0, 1, 2] rfl (hj27 μ (p4 ^^^ (-1 : Int32)))
/-! PinEnginesModel.assign(III)I -/
def fX13_assign (n0 : Nat) (p1 : Int32) (p2 : Int32) (p3 : Int32) (μ : Mem) : Option (Int32 × Mem) :=
  bnd (fX13_write n0 p1 p2 p3 (7 : Int32) μ) fun x2 μ1 =>
  some (x2, μ1)
set_option maxHeartbeats 4000000 in
set_option maxRecDepth 100000 in
theorem kX13_assign (l : Launch) (n0 : Nat) (g0 : n0 < 1) (p1 : Int32) (p2 : Int32) (p3 : Int32) : Kon 1 l yX13_assign cX13_assign 4 (some .int) 3 65 0 0 (fun ad => [.ref (ad 26 n0), .int p1, .int p2, .int p3]) rvI (fun μ => fX13_assign n0 p1 p2 p3 μ) := by
  refine kon_of (by decide) (fun _ => Nat.le_of_ble_eq_true rfl) (fun X r0 μ hXl hXn V C E => ?_)
  have hN : ∀ i : Nat, i < 4 → i < xn X := fun i h => hXn.symm ▸ h
  have R0 := fen_rm E
  show G X r0 0 0 μ 0 [(0, .ref (xa X 26 n0)), (1, .int p1), (2, .int p2), (3, .int p3)] [] (fX13_assign n0 p1 p2 p3 μ)
  unfold fX13_assign
  refine s_aload_n C dX13_assign_0 rfl 0 rfl ?_
  refine s_iload_n C dX13_assign_1 rfl 1 rfl ?_
  refine s_iload_n C dX13_assign_2 rfl 2 rfl ?_
  refine s_iload_n C dX13_assign_3 rfl 3 rfl ?_
  refine s_bipush (v := (7 : Int32)) C dX13_assign_4 (by decide) ?_
  refine s_callV C R0 (kX13_write (xl X) n0 g0 p1 p2 p3 (7 : Int32)) (Nat.le_trans (by decide) V) mmX13_write miX13_write q2529 (rc26 (Nat.le_trans (by decide) V)) g0 rfl rfl rfl (Nat.le_of_ble_eq_true rfl) ⟨Nat.le_of_ble_eq_true rfl, Nat.le_of_ble_eq_true rfl, Nat.le_of_ble_eq_true rfl, Nat.le_of_ble_eq_true rfl⟩ dX13_assign_6 (fun x2 μ1 => ?_)
  refine g_st (st' := [.int x2]) rfl ?_
  exact s_iret C E dX13_assign_9
/-! PinEnginesModel.access(II)I -/
def fX13_access (fu : Nat) (n0 : Nat) (p1 : Int32) (p2 : Int32) (μ : Mem) : Option (Int32 × Mem) :=
  jn (fun (μ1 : Mem) (x2 : Int32) (x3 : Int32) =>
    jn (fun (μ4 : Mem) =>
      some ((0 : Int32), μ4)
    ) fun j119 =>
    nm ((x2 + x3)) fun x5 =>
    bnd (fX13_codeOf n0 p1 (0 : Int32) μ1) fun x7 μ6 =>
    if ¬ x7 = (12 : Int32) then (
      if ¬ p2 = (5 : Int32) then (
        jn (fun (μ10 : Mem) (a11 : Nat) (x13 : Int32) (x14 : Int32) =>
          ckI x5 (if 0 = 4 then 7000 else 700) <|
          bnd (fX13_set a11 x13 x14 (μ10.1 27 0 x5.toNatClampNeg) μ10) fun _ μ15 =>
          j119 μ15
        ) fun j109 =>
        if ¬ p2 = (1 : Int32) then (
          j109 μ6 n0 p1 (3 : Int32)
        ) else (
          j109 μ6 n0 p1 (2 : Int32)
        )
      ) else (
        ckI x5 (if 0 = 4 then 7000 else 700) <|
        bnd (fX13_set n0 p1 (5 : Int32) (μ6.1 27 0 x5.toNatClampNeg) μ6) fun _ μ17 =>
        bnd (fX13_set n0 p1 (7 : Int32) (0 : Int32) μ17) fun _ μ18 =>
        j119 μ18
      )
    ) else (
      bnd (fX13_source fu n0 p1 p2 μ6) fun x20 μ19 =>
      ckI x5 (if 0 = 4 then 7000 else 700) <|
      nm (wI μ19 27 0 x5.toNatClampNeg x20) fun μ21 =>
      j119 μ21
    )
  ) fun j38 =>
  bnd (fX13_codeOf n0 p1 (2 : Int32) μ) fun x23 μ22 =>
  if (16 : Int32) ≤ x23 then (
    jn (fun (μ25 : Mem) (x26 : Int32) (a27 : Nat) (x29 : Int32) (x30 : Int32) =>
      bnd (fX13_of a27 x29 x30 μ25) fun x32 μ31 =>
      j38 μ31 x26 (x32 &&& (15 : Int32))
    ) fun j32 =>
    if ¬ x23 = (16 : Int32) then (
      j32 μ22 (108 : Int32) n0 p1 (3 : Int32)
    ) else (
      j32 μ22 (108 : Int32) n0 p1 (2 : Int32)
    )
  ) else (
    j38 μ22 (108 : Int32) x23
  )
set_option maxHeartbeats 4000000 in
set_option maxRecDepth 100000 in
theorem kX13_access (l : Launch) (fu : Nat) (n0 : Nat) (g0 : n0 < 1) (p1 : Int32) (p2 : Int32) : Kon 1 l yX13_access cX13_access 5 (some .int) 3 67 0 0 (fun ad => [.ref (ad 26 n0), .int p1, .int p2]) rvI (fun μ => fX13_access fu n0 p1 p2 μ) := by
  refine kon_of (by decide) (fun _ => Nat.le_of_ble_eq_true rfl) (fun X r0 μ hXl hXn V C E => ?_)
  have hN : ∀ i : Nat, i < 5 → i < xn X := fun i h => hXn.symm ▸ h
  have R0 := fen_rm E
  show G X r0 0 0 μ 0 [(0, .ref (xa X 26 n0)), (1, .int p1), (2, .int p2)] [] (fX13_access fu n0 p1 p2 μ)
  unfold fX13_access
  refine g_jn (P := fun j38 => ∀ (μ1 : Mem) (x2 : Int32) (x3 : Int32), G X r0 0 0 μ1 38 [(0, .ref (xa X 26 n0)), (1, .int p1), (2, .int p2)] [.int x3, .int x2] (j38 μ1 x2 x3)) ?_ (fun j38 hj38 => ?_)
  · intro μ1 x2 x3
    refine g_jn (P := fun j119 => ∀ (μ4 : Mem), G X r0 0 0 μ4 119 [] [] (j119 μ4)) ?_ (fun j119 hj119 => ?_)
    · intro μ4
      refine s_iconst (v := (0 : Int32)) C dX13_access_119 (by decide) ?_
      exact s_iret C E dX13_access_120
    refine s_iadd C dX13_access_38 ?_
    refine g_nmI (fun x5 => ?_)
    refine s_istore (L' := [(4, .int x5), (0, .ref (xa X 26 n0)), (1, .int p1), (2, .int p2)]) C dX13_access_39 (hN 4 (by decide)) rfl ?_
    refine s_aload_n C dX13_access_41 rfl 1 rfl ?_
    refine s_iload_n C dX13_access_42 rfl 2 rfl ?_
    refine s_iconst (v := (0 : Int32)) C dX13_access_43 (by decide) ?_
    refine s_callV C R0 (kX13_codeOf (xl X) n0 g0 p1 (0 : Int32)) (Nat.le_trans (by decide) V) mmX13_codeOf miX13_codeOf q2461 (rc26 (Nat.le_trans (by decide) V)) g0 rfl rfl rfl (Nat.le_of_ble_eq_true rfl) ⟨Nat.le_of_ble_eq_true rfl, Nat.le_of_ble_eq_true rfl, Nat.le_of_ble_eq_true rfl, Nat.le_of_ble_eq_true rfl⟩ dX13_access_44 (fun x7 μ6 => ?_)
    refine g_st (st' := [.int x7]) rfl ?_
    refine s_bipush (v := (12 : Int32)) C dX13_access_47 (by decide) ?_
    refine s_icmp_ne (tgt := 68) C dX13_access_49 (by decide) (fun c8 => ?_) (fun c8 => ?_)
    ·
      refine s_iload_n C dX13_access_68 rfl 3 rfl ?_
      refine s_iconst (v := (5 : Int32)) C dX13_access_69 (by decide) ?_
      refine s_icmp_ne (tgt := 97) C dX13_access_70 (by decide) (fun c9 => ?_) (fun c9 => ?_)
      ·
        refine g_jn (P := fun j109 => ∀ (μ10 : Mem) (a11 : Nat) (x13 : Int32) (x14 : Int32), a11 < 1 → G X r0 0 0 μ10 109 [(0, .ref (xa X 26 n0)), (4, .int x5)] [.int x14, .int x13, .ref (xa X 26 a11)] (j109 μ10 a11 x13 x14)) ?_ (fun j109 hj109 => ?_)
        · intro μ10 a11 x13 x14 b12
          refine s_aload_n C dX13_access_109 rfl 0 rfl ?_
          refine s_getF C (fgX13_9_26 (Nat.le_trans (by decide) V)) g0 dX13_access_110 ?_
          refine s_iload C dX13_access_113 1 rfl ?_
          refine s_iald C (ag27 (Nat.le_trans (by decide) V)) (by decide) dX13_access_115 ?_
          refine s_callV C R0 (kX13_set (xl X) a11 b12 x13 x14 (μ10.1 27 0 x5.toNatClampNeg)) (Nat.le_trans (by decide) V) mmX13_set miX13_set q2383 (rc26 (Nat.le_trans (by decide) V)) b12 rfl rfl rfl (Nat.le_of_ble_eq_true rfl) ⟨Nat.le_of_ble_eq_true rfl, Nat.le_of_ble_eq_true rfl, Nat.le_of_ble_eq_true rfl, Nat.le_of_ble_eq_true rfl⟩ dX13_access_116 (fun _ μ15 => ?_)
          refine g_st (st' := []) rfl ?_
          exact g_sub [] rfl (hj119 μ15)
        refine s_aload_n C dX13_access_97 rfl 1 rfl ?_
        refine s_iload_n C dX13_access_98 rfl 2 rfl ?_
        refine s_iload_n C dX13_access_99 rfl 3 rfl ?_
        refine s_iconst (v := (1 : Int32)) C dX13_access_100 (by decide) ?_
        refine s_icmp_ne (tgt := 108) C dX13_access_101 (by decide) (fun c16 => ?_) (fun c16 => ?_)
        ·
          refine s_iconst (v := (3 : Int32)) C dX13_access_108 (by decide) ?_
          exact g_sub [1, 0] rfl (hj109 μ6 n0 p1 (3 : Int32) g0)
        ·
          refine s_iconst (v := (2 : Int32)) C dX13_access_104 (by decide) ?_
          refine s_goto (tgt := 109) C dX13_access_105 (by decide) ?_
          exact g_sub [1, 0] rfl (hj109 μ6 n0 p1 (2 : Int32) g0)
      ·
        refine s_aload_n C dX13_access_73 rfl 1 rfl ?_
        refine s_iload_n C dX13_access_74 rfl 2 rfl ?_
        refine s_iconst (v := (5 : Int32)) C dX13_access_75 (by decide) ?_
        refine s_aload_n C dX13_access_76 rfl 1 rfl ?_
        refine s_getF C (fgX13_9_26 (Nat.le_trans (by decide) V)) g0 dX13_access_77 ?_
        refine s_iload C dX13_access_80 0 rfl ?_
        refine s_iald C (ag27 (Nat.le_trans (by decide) V)) (by decide) dX13_access_82 ?_
        refine s_callV C R0 (kX13_set (xl X) n0 g0 p1 (5 : Int32) (μ6.1 27 0 x5.toNatClampNeg)) (Nat.le_trans (by decide) V) mmX13_set miX13_set q2383 (rc26 (Nat.le_trans (by decide) V)) g0 rfl rfl rfl (Nat.le_of_ble_eq_true rfl) ⟨Nat.le_of_ble_eq_true rfl, Nat.le_of_ble_eq_true rfl, Nat.le_of_ble_eq_true rfl, Nat.le_of_ble_eq_true rfl⟩ dX13_access_83 (fun _ μ17 => ?_)
        refine g_st (st' := []) rfl ?_
        refine s_aload_n C dX13_access_86 rfl 1 rfl ?_
        refine s_iload_n C dX13_access_87 rfl 2 rfl ?_
        refine s_bipush (v := (7 : Int32)) C dX13_access_88 (by decide) ?_
        refine s_iconst (v := (0 : Int32)) C dX13_access_90 (by decide) ?_
        refine s_callV C R0 (kX13_set (xl X) n0 g0 p1 (7 : Int32) (0 : Int32)) (Nat.le_trans (by decide) V) mmX13_set miX13_set q2383 (rc26 (Nat.le_trans (by decide) V)) g0 rfl rfl rfl (Nat.le_of_ble_eq_true rfl) ⟨Nat.le_of_ble_eq_true rfl, Nat.le_of_ble_eq_true rfl, Nat.le_of_ble_eq_true rfl, Nat.le_of_ble_eq_true rfl⟩ dX13_access_91 (fun _ μ18 => ?_)
        refine g_st (st' := []) rfl ?_
        refine s_goto (tgt := 119) C dX13_access_94 (by decide) ?_
        exact g_sub [] rfl (hj119 μ18)
    ·
      refine s_aload_n C dX13_access_52 rfl 1 rfl ?_
      refine s_getF C (fgX13_9_26 (Nat.le_trans (by decide) V)) g0 dX13_access_53 ?_
      refine s_iload C dX13_access_56 0 rfl ?_
      refine s_aload_n C dX13_access_58 rfl 1 rfl ?_
      refine s_iload_n C dX13_access_59 rfl 2 rfl ?_
      refine s_iload_n C dX13_access_60 rfl 3 rfl ?_
      refine s_callV C R0 (kX13_source (xl X) fu n0 g0 p1 p2) (Nat.le_trans (by decide) V) mmX13_source miX13_source q2497 (rc26 (Nat.le_trans (by decide) V)) g0 rfl rfl rfl (Nat.le_of_ble_eq_true rfl) ⟨Nat.le_of_ble_eq_true rfl, Nat.le_of_ble_eq_true rfl, Nat.le_of_ble_eq_true rfl, Nat.le_of_ble_eq_true rfl⟩ dX13_access_61 (fun x20 μ19 => ?_)
      refine g_st (st' := [.int x20, .int x5, .ref (xa X 27 0)]) rfl ?_
      refine s_iast C (ag27 (Nat.le_trans (by decide) V)) (by decide) dX13_access_64 ?_
      refine g_nmM (fun μ21 => ?_)
      refine s_goto (tgt := 119) C dX13_access_65 (by decide) ?_
      exact g_sub [] rfl (hj119 μ21)
  refine s_aload_n C dX13_access_0 rfl 0 rfl ?_
  refine s_iload_n C dX13_access_1 rfl 1 rfl ?_
  refine s_iconst (v := (2 : Int32)) C dX13_access_2 (by decide) ?_
  refine s_callV C R0 (kX13_codeOf (xl X) n0 g0 p1 (2 : Int32)) (Nat.le_trans (by decide) V) mmX13_codeOf miX13_codeOf q2461 (rc26 (Nat.le_trans (by decide) V)) g0 rfl rfl rfl (Nat.le_of_ble_eq_true rfl) ⟨Nat.le_of_ble_eq_true rfl, Nat.le_of_ble_eq_true rfl, Nat.le_of_ble_eq_true rfl, Nat.le_of_ble_eq_true rfl⟩ dX13_access_3 (fun x23 μ22 => ?_)
  refine g_st (st' := [.int x23]) rfl ?_
  refine s_istore_n (L' := [(3, .int x23), (0, .ref (xa X 26 n0)), (1, .int p1), (2, .int p2)]) C dX13_access_6 rfl (hN 3 (by decide)) rfl ?_
  refine s_bipush (v := (108 : Int32)) C dX13_access_7 (by decide) ?_
  refine s_iload_n C dX13_access_9 rfl 0 rfl ?_
  refine s_bipush (v := (16 : Int32)) C dX13_access_10 (by decide) ?_
  refine s_icmp_ge (tgt := 19) C dX13_access_12 (by decide) (fun c24 => ?_) (fun c24 => ?_)
  ·
    refine g_jn (P := fun j32 => ∀ (μ25 : Mem) (x26 : Int32) (a27 : Nat) (x29 : Int32) (x30 : Int32), a27 < 1 → G X r0 0 0 μ25 32 [(0, .ref (xa X 26 n0)), (1, .int p1), (2, .int p2)] [.int x30, .int x29, .ref (xa X 26 a27), .int x26] (j32 μ25 x26 a27 x29 x30)) ?_ (fun j32 hj32 => ?_)
    · intro μ25 x26 a27 x29 x30 b28
      refine s_callV C R0 (kX13_of (xl X) a27 b28 x29 x30) (Nat.le_trans (by decide) V) mmX13_of miX13_of q2307 (rc26 (Nat.le_trans (by decide) V)) b28 rfl rfl rfl (Nat.le_of_ble_eq_true rfl) ⟨Nat.le_of_ble_eq_true rfl, Nat.le_of_ble_eq_true rfl, Nat.le_of_ble_eq_true rfl, Nat.le_of_ble_eq_true rfl⟩ dX13_access_32 (fun x32 μ31 => ?_)
      refine g_st (st' := [.int x32, .int x26]) rfl ?_
      refine s_bipush (v := (15 : Int32)) C dX13_access_35 (by decide) ?_
      refine s_iand C dX13_access_37 ?_
      exact g_sub [0, 1, 2] rfl (hj38 μ31 x26 (x32 &&& (15 : Int32)))
    refine s_aload_n C dX13_access_19 rfl 1 rfl ?_
    refine s_iload_n C dX13_access_20 rfl 2 rfl ?_
    refine s_iload_n C dX13_access_21 rfl 0 rfl ?_
    refine s_bipush (v := (16 : Int32)) C dX13_access_22 (by decide) ?_
    refine s_icmp_ne (tgt := 31) C dX13_access_24 (by decide) (fun c33 => ?_) (fun c33 => ?_)
    ·
      refine s_iconst (v := (3 : Int32)) C dX13_access_31 (by decide) ?_
      exact g_sub [1, 2, 3] rfl (hj32 μ22 (108 : Int32) n0 p1 (3 : Int32) g0)
    ·
      refine s_iconst (v := (2 : Int32)) C dX13_access_27 (by decide) ?_
      refine s_goto (tgt := 32) C dX13_access_28 (by decide) ?_
      exact g_sub [1, 2, 3] rfl (hj32 μ22 (108 : Int32) n0 p1 (2 : Int32) g0)
  ·
    refine s_iload_n C dX13_access_15 rfl 0 rfl ?_
    refine s_goto (tgt := 38) C dX13_access_16 (by decide) ?_
    exact g_sub [1, 2, 3] rfl (hj38 μ22 (108 : Int32) x23)
/-! PinEnginesModel.count(II)I -/
def fX13_count (n0 : Nat) (p1 : Int32) (p2 : Int32) (μ : Mem) : Option (Int32 × Mem) :=
  jn (fun (μ1 : Mem) =>
    bnd (fX13_raise n0 (1 : Int32) μ1) fun x3 μ2 =>
    some (x3, μ2)
  ) fun j22 =>
  nm (wI μ 26 n0 6 (0 : Int32)) fun μ4 =>
  bnd (fX13_exists n0 p1 μ4) fun x6 μ5 =>
  if x6 = 0 then (
    j22 μ5
  ) else (
    bnd (fX13_inRange p2 (0 : Int32) (5 : Int32) μ5) fun x9 μ8 =>
    if ¬ x9 = 0 then (
      bnd (fX13_of n0 p1 ((29 : Int32) + p2) μ8) fun x12 μ11 =>
      some (x12, μ11)
    ) else (
      j22 μ8
    )
  )
set_option maxHeartbeats 4000000 in
set_option maxRecDepth 100000 in
theorem kX13_count (l : Launch) (n0 : Nat) (g0 : n0 < 1) (p1 : Int32) (p2 : Int32) : Kon 1 l yX13_count cX13_count 3 (some .int) 2 43 0 0 (fun ad => [.ref (ad 26 n0), .int p1, .int p2]) rvI (fun μ => fX13_count n0 p1 p2 μ) := by
  refine kon_of (by decide) (fun _ => Nat.le_of_ble_eq_true rfl) (fun X r0 μ hXl hXn V C E => ?_)
  have hN : ∀ i : Nat, i < 3 → i < xn X := fun i h => hXn.symm ▸ h
  have R0 := fen_rm E
  show G X r0 0 0 μ 0 [(0, .ref (xa X 26 n0)), (1, .int p1), (2, .int p2)] [] (fX13_count n0 p1 p2 μ)
  unfold fX13_count
  refine g_jn (P := fun j22 => ∀ (μ1 : Mem), G X r0 0 0 μ1 22 [(0, .ref (xa X 26 n0))] [] (j22 μ1)) ?_ (fun j22 hj22 => ?_)
  · intro μ1
    refine s_aload_n C dX13_count_22 rfl 0 rfl ?_
    refine s_iconst (v := (1 : Int32)) C dX13_count_23 (by decide) ?_
    refine s_callV C R0 (kX13_raise (xl X) n0 g0 (1 : Int32)) (Nat.le_trans (by decide) V) mmX13_raise miX13_raise q2259 (rc26 (Nat.le_trans (by decide) V)) g0 rfl rfl rfl (Nat.le_of_ble_eq_true rfl) ⟨Nat.le_of_ble_eq_true rfl, Nat.le_of_ble_eq_true rfl, Nat.le_of_ble_eq_true rfl, Nat.le_of_ble_eq_true rfl⟩ dX13_count_24 (fun x3 μ2 => ?_)
    refine g_st (st' := [.int x3]) rfl ?_
    exact s_iret C E dX13_count_27
  refine s_aload_n C dX13_count_0 rfl 0 rfl ?_
  refine s_iconst (v := (0 : Int32)) C dX13_count_1 (by decide) ?_
  refine s_putI C (fpX13_231_26 (Nat.le_trans (by decide) V)) g0 dX13_count_2 ?_
  refine g_nmM (fun μ4 => ?_)
  refine s_aload_n C dX13_count_5 rfl 0 rfl ?_
  refine s_iload_n C dX13_count_6 rfl 1 rfl ?_
  refine s_callV C R0 (kX13_exists (xl X) n0 g0 p1) (Nat.le_trans (by decide) V) mmX13_exists miX13_exists q2303 (rc26 (Nat.le_trans (by decide) V)) g0 rfl rfl rfl (Nat.le_of_ble_eq_true rfl) ⟨Nat.le_of_ble_eq_true rfl, Nat.le_of_ble_eq_true rfl, Nat.le_of_ble_eq_true rfl, Nat.le_of_ble_eq_true rfl⟩ dX13_count_7 (fun x6 μ5 => ?_)
  refine g_st (st' := [.int x6]) rfl ?_
  refine s_if_eq (tgt := 22) C dX13_count_10 (by decide) (fun c7 => ?_) (fun c7 => ?_)
  ·
    exact g_sub [0] rfl (hj22 μ5)
  ·
    refine s_iload_n C dX13_count_13 rfl 2 rfl ?_
    refine s_iconst (v := (0 : Int32)) C dX13_count_14 (by decide) ?_
    refine s_iconst (v := (5 : Int32)) C dX13_count_15 (by decide) ?_
    refine s_callS C R0 (kX13_inRange (xl X) p2 (0 : Int32) (5 : Int32)) (Nat.le_trans (by decide) V) mmX13_inRange q2257 q2256 rfl rfl rfl rfl (Nat.le_of_ble_eq_true rfl) ⟨Nat.le_of_ble_eq_true rfl, Nat.le_of_ble_eq_true rfl, Nat.le_of_ble_eq_true rfl, Nat.le_of_ble_eq_true rfl⟩ dX13_count_16 (fun x9 μ8 => ?_)
    refine g_st (st' := [.int x9]) rfl ?_
    refine s_if_ne (tgt := 28) C dX13_count_19 (by decide) (fun c10 => ?_) (fun c10 => ?_)
    ·
      refine s_aload_n C dX13_count_28 rfl 0 rfl ?_
      refine s_iload_n C dX13_count_29 rfl 1 rfl ?_
      refine s_bipush (v := (29 : Int32)) C dX13_count_30 (by decide) ?_
      refine s_iload_n C dX13_count_32 rfl 2 rfl ?_
      refine s_iadd C dX13_count_33 ?_
      refine s_callV C R0 (kX13_of (xl X) n0 g0 p1 ((29 : Int32) + p2)) (Nat.le_trans (by decide) V) mmX13_of miX13_of q2307 (rc26 (Nat.le_trans (by decide) V)) g0 rfl rfl rfl (Nat.le_of_ble_eq_true rfl) ⟨Nat.le_of_ble_eq_true rfl, Nat.le_of_ble_eq_true rfl, Nat.le_of_ble_eq_true rfl, Nat.le_of_ble_eq_true rfl⟩ dX13_count_34 (fun x12 μ11 => ?_)
      refine g_st (st' := [.int x12]) rfl ?_
      exact s_iret C E dX13_count_37
    ·
      exact g_sub [0] rfl (hj22 μ8)
/-! PinEnginesModel.levelAt(II)I -/
def fX13_levelAt (n0 : Nat) (p1 : Int32) (p2 : Int32) (μ : Mem) : Option (Int32 × Mem) :=
  jn (fun (μ1 : Mem) =>
    bnd (fX13_raise n0 (1 : Int32) μ1) fun x3 μ2 =>
    some (x3, μ2)
  ) fun j22 =>
  nm (wI μ 26 n0 6 (0 : Int32)) fun μ4 =>
  bnd (fX13_isPin p1 μ4) fun x6 μ5 =>
  if x6 = 0 then (
    j22 μ5
  ) else (
    bnd (fX13_inRange p2 (0 : Int32) (63 : Int32) μ5) fun x9 μ8 =>
    if ¬ x9 = 0 then (
      jn (fun (μ11 : Mem) (x12 : Int32) =>
        some (x12, μ11)
      ) fun j64 =>
      ckI (1 : Int32) (if 0 = 4 then 7000 else 700) <|
      nm ((((μ8.1 27 0 (1 : Int32).toNatClampNeg) - (1 : Int32)) - p2)) fun x13 =>
      if 0 ≤ x13 then (
        ckD (64 : Int32) <|
        ckI ((220 : Int32) + (x13 - x13 / (64 : Int32) * (64 : Int32))) (if 0 = 4 then 7000 else 700) <|
        j64 μ8 (((μ8.1 27 0 ((220 : Int32) + (x13 - x13 / (64 : Int32) * (64 : Int32))).toNatClampNeg) >>> (p1 &&& 31)) &&& (1 : Int32))
      ) else (
        j64 μ8 (-1 : Int32)
      )
    ) else (
      j22 μ8
    )
  )
set_option maxHeartbeats 4000000 in
set_option maxRecDepth 100000 in
theorem kX13_levelAt (l : Launch) (n0 : Nat) (g0 : n0 < 1) (p1 : Int32) (p2 : Int32) : Kon 1 l yX13_levelAt cX13_levelAt 4 (some .int) 2 42 0 0 (fun ad => [.ref (ad 26 n0), .int p1, .int p2]) rvI (fun μ => fX13_levelAt n0 p1 p2 μ) := by
  refine kon_of (by decide) (fun _ => Nat.le_of_ble_eq_true rfl) (fun X r0 μ hXl hXn V C E => ?_)
  have hN : ∀ i : Nat, i < 4 → i < xn X := fun i h => hXn.symm ▸ h
  have R0 := fen_rm E
  show G X r0 0 0 μ 0 [(0, .ref (xa X 26 n0)), (1, .int p1), (2, .int p2)] [] (fX13_levelAt n0 p1 p2 μ)
  unfold fX13_levelAt
  refine g_jn (P := fun j22 => ∀ (μ1 : Mem), G X r0 0 0 μ1 22 [(0, .ref (xa X 26 n0))] [] (j22 μ1)) ?_ (fun j22 hj22 => ?_)
  · intro μ1
    refine s_aload_n C dX13_levelAt_22 rfl 0 rfl ?_
    refine s_iconst (v := (1 : Int32)) C dX13_levelAt_23 (by decide) ?_
    refine s_callV C R0 (kX13_raise (xl X) n0 g0 (1 : Int32)) (Nat.le_trans (by decide) V) mmX13_raise miX13_raise q2259 (rc26 (Nat.le_trans (by decide) V)) g0 rfl rfl rfl (Nat.le_of_ble_eq_true rfl) ⟨Nat.le_of_ble_eq_true rfl, Nat.le_of_ble_eq_true rfl, Nat.le_of_ble_eq_true rfl, Nat.le_of_ble_eq_true rfl⟩ dX13_levelAt_24 (fun x3 μ2 => ?_)
    refine g_st (st' := [.int x3]) rfl ?_
    exact s_iret C E dX13_levelAt_27
  refine s_aload_n C dX13_levelAt_0 rfl 0 rfl ?_
  refine s_iconst (v := (0 : Int32)) C dX13_levelAt_1 (by decide) ?_
  refine s_putI C (fpX13_231_26 (Nat.le_trans (by decide) V)) g0 dX13_levelAt_2 ?_
  refine g_nmM (fun μ4 => ?_)
  refine s_iload_n C dX13_levelAt_5 rfl 1 rfl ?_
  refine s_callS C R0 (kX13_isPin (xl X) p1) (Nat.le_trans (by decide) V) mmX13_isPin q2254 q2253 rfl rfl rfl rfl (Nat.le_of_ble_eq_true rfl) ⟨Nat.le_of_ble_eq_true rfl, Nat.le_of_ble_eq_true rfl, Nat.le_of_ble_eq_true rfl, Nat.le_of_ble_eq_true rfl⟩ dX13_levelAt_6 (fun x6 μ5 => ?_)
  refine g_st (st' := [.int x6]) rfl ?_
  refine s_if_eq (tgt := 22) C dX13_levelAt_9 (by decide) (fun c7 => ?_) (fun c7 => ?_)
  ·
    exact g_sub [0] rfl (hj22 μ5)
  ·
    refine s_iload_n C dX13_levelAt_12 rfl 2 rfl ?_
    refine s_iconst (v := (0 : Int32)) C dX13_levelAt_13 (by decide) ?_
    refine s_bipush (v := (63 : Int32)) C dX13_levelAt_14 (by decide) ?_
    refine s_callS C R0 (kX13_inRange (xl X) p2 (0 : Int32) (63 : Int32)) (Nat.le_trans (by decide) V) mmX13_inRange q2257 q2256 rfl rfl rfl rfl (Nat.le_of_ble_eq_true rfl) ⟨Nat.le_of_ble_eq_true rfl, Nat.le_of_ble_eq_true rfl, Nat.le_of_ble_eq_true rfl, Nat.le_of_ble_eq_true rfl⟩ dX13_levelAt_16 (fun x9 μ8 => ?_)
    refine g_st (st' := [.int x9]) rfl ?_
    refine s_if_ne (tgt := 28) C dX13_levelAt_19 (by decide) (fun c10 => ?_) (fun c10 => ?_)
    ·
      refine g_jn (P := fun j64 => ∀ (μ11 : Mem) (x12 : Int32), G X r0 0 0 μ11 64 [] [.int x12] (j64 μ11 x12)) ?_ (fun j64 hj64 => ?_)
      · intro μ11 x12
        exact s_iret C E dX13_levelAt_64
      refine s_aload_n C dX13_levelAt_28 rfl 0 rfl ?_
      refine s_getF C (fgX13_9_26 (Nat.le_trans (by decide) V)) g0 dX13_levelAt_29 ?_
      refine s_iconst (v := (1 : Int32)) C dX13_levelAt_32 (by decide) ?_
      refine s_iald C (ag27 (Nat.le_trans (by decide) V)) (by decide) dX13_levelAt_33 ?_
      refine s_iconst (v := (1 : Int32)) C dX13_levelAt_34 (by decide) ?_
      refine s_isub C dX13_levelAt_35 ?_
      refine s_iload_n C dX13_levelAt_36 rfl 2 rfl ?_
      refine s_isub C dX13_levelAt_37 ?_
      refine g_nmI (fun x13 => ?_)
      refine s_istore_n (L' := [(3, .int x13), (0, .ref (xa X 26 n0)), (1, .int p1), (2, .int p2)]) C dX13_levelAt_38 rfl (hN 3 (by decide)) rfl ?_
      refine s_iload_n C dX13_levelAt_39 rfl 0 rfl ?_
      refine s_if_ge (tgt := 47) C dX13_levelAt_40 (by decide) (fun c14 => ?_) (fun c14 => ?_)
      ·
        refine s_aload_n C dX13_levelAt_47 rfl 1 rfl ?_
        refine s_getF C (fgX13_9_26 (Nat.le_trans (by decide) V)) g0 dX13_levelAt_48 ?_
        refine s_sipush (v := (220 : Int32)) C dX13_levelAt_51 (by decide) ?_
        refine s_iload_n C dX13_levelAt_54 rfl 0 rfl ?_
        refine s_bipush (v := (64 : Int32)) C dX13_levelAt_55 (by decide) ?_
        refine s_irem C dX13_levelAt_57 ?_
        refine s_iadd C dX13_levelAt_58 ?_
        refine s_iald C (ag27 (Nat.le_trans (by decide) V)) (by decide) dX13_levelAt_59 ?_
        refine s_iload_n C dX13_levelAt_60 rfl 2 rfl ?_
        refine s_ishr C dX13_levelAt_61 ?_
        refine s_iconst (v := (1 : Int32)) C dX13_levelAt_62 (by decide) ?_
        refine s_iand C dX13_levelAt_63 ?_
        exact g_sub [] rfl (hj64 μ8 (((μ8.1 27 0 ((220 : Int32) + (x13 - x13 / (64 : Int32) * (64 : Int32))).toNatClampNeg) >>> (p1 &&& 31)) &&& (1 : Int32)))
      ·
        refine s_iconst (v := (-1 : Int32)) C dX13_levelAt_43 (by decide) ?_
        refine s_goto (tgt := 64) C dX13_levelAt_44 (by decide) ?_
        exact g_sub [] rfl (hj64 μ8 (-1 : Int32))
    ·
      exact g_sub [0] rfl (hj22 μ8)
/-! PinEnginesModel.edges(I)I -/
def fX13_edges (n0 : Nat) (p1 : Int32) (μ : Mem) : Option (Int32 × Mem) :=
  bnd (fX13_tellPin n0 p1 (4 : Int32) μ) fun x2 μ1 =>
  some (x2, μ1)
set_option maxHeartbeats 4000000 in
set_option maxRecDepth 100000 in
theorem kX13_edges (l : Launch) (n0 : Nat) (g0 : n0 < 1) (p1 : Int32) : Kon 1 l yX13_edges cX13_edges 2 (some .int) 3 64 0 0 (fun ad => [.ref (ad 26 n0), .int p1]) rvI (fun μ => fX13_edges n0 p1 μ) := by
  refine kon_of (by decide) (fun _ => Nat.le_of_ble_eq_true rfl) (fun X r0 μ hXl hXn V C E => ?_)
  have hN : ∀ i : Nat, i < 2 → i < xn X := fun i h => hXn.symm ▸ h
  have R0 := fen_rm E
  show G X r0 0 0 μ 0 [(0, .ref (xa X 26 n0)), (1, .int p1)] [] (fX13_edges n0 p1 μ)
  unfold fX13_edges
  refine s_aload_n C dX13_edges_0 rfl 0 rfl ?_
  refine s_iload_n C dX13_edges_1 rfl 1 rfl ?_
  refine s_iconst (v := (4 : Int32)) C dX13_edges_2 (by decide) ?_
  refine s_callV C R0 (kX13_tellPin (xl X) n0 g0 p1 (4 : Int32)) (Nat.le_trans (by decide) V) mmX13_tellPin miX13_tellPin q2275 (rc26 (Nat.le_trans (by decide) V)) g0 rfl rfl rfl (Nat.le_of_ble_eq_true rfl) ⟨Nat.le_of_ble_eq_true rfl, Nat.le_of_ble_eq_true rfl, Nat.le_of_ble_eq_true rfl, Nat.le_of_ble_eq_true rfl⟩ dX13_edges_3 (fun x2 μ1 => ?_)
  refine g_st (st' := [.int x2]) rfl ?_
  exact s_iret C E dX13_edges_6
/-! PinEnginesModel.highTime(I)I -/
def fX13_highTime (n0 : Nat) (p1 : Int32) (μ : Mem) : Option (Int32 × Mem) :=
  bnd (fX13_tellPin n0 p1 (5 : Int32) μ) fun x2 μ1 =>
  some (x2, μ1)
set_option maxHeartbeats 4000000 in
set_option maxRecDepth 100000 in
theorem kX13_highTime (l : Launch) (n0 : Nat) (g0 : n0 < 1) (p1 : Int32) : Kon 1 l yX13_highTime cX13_highTime 2 (some .int) 3 64 0 0 (fun ad => [.ref (ad 26 n0), .int p1]) rvI (fun μ => fX13_highTime n0 p1 μ) := by
  refine kon_of (by decide) (fun _ => Nat.le_of_ble_eq_true rfl) (fun X r0 μ hXl hXn V C E => ?_)
  have hN : ∀ i : Nat, i < 2 → i < xn X := fun i h => hXn.symm ▸ h
  have R0 := fen_rm E
  show G X r0 0 0 μ 0 [(0, .ref (xa X 26 n0)), (1, .int p1)] [] (fX13_highTime n0 p1 μ)
  unfold fX13_highTime
  refine s_aload_n C dX13_highTime_0 rfl 0 rfl ?_
  refine s_iload_n C dX13_highTime_1 rfl 1 rfl ?_
  refine s_iconst (v := (5 : Int32)) C dX13_highTime_2 (by decide) ?_
  refine s_callV C R0 (kX13_tellPin (xl X) n0 g0 p1 (5 : Int32)) (Nat.le_trans (by decide) V) mmX13_tellPin miX13_tellPin q2275 (rc26 (Nat.le_trans (by decide) V)) g0 rfl rfl rfl (Nat.le_of_ble_eq_true rfl) ⟨Nat.le_of_ble_eq_true rfl, Nat.le_of_ble_eq_true rfl, Nat.le_of_ble_eq_true rfl, Nat.le_of_ble_eq_true rfl⟩ dX13_highTime_3 (fun x2 μ1 => ?_)
  refine g_st (st' := [.int x2]) rfl ?_
  exact s_iret C E dX13_highTime_6
/-! PinEnginesModel.begin(I)V -/
def fX13_begin (fu : Nat) (n0 : Nat) (p1 : Int32) (μ : Mem) : Option (Unit × Mem) :=
  jn (lp (fun _ _ => none) fu (fun j2 (μ1 : Mem) (x2 : Int32) =>
    if (29 : Int32) ≤ x2 then (
      bnd (fX13_setting n0 p1 (1 : Int32) μ1) fun x5 μ4 =>
      bnd (fX13_set n0 p1 (1 : Int32) x5 μ4) fun _ μ6 =>
      bnd (fX13_set n0 p1 (7 : Int32) (32 : Int32) μ6) fun _ μ7 =>
      bnd (fX13_setting n0 p1 (2 : Int32) μ7) fun x9 μ8 =>
      bnd (fX13_set n0 p1 (10 : Int32) (x9 - (256 : Int32)) μ8) fun _ μ10 =>
      some ((), μ10)
    ) else (
      bnd (fX13_set n0 p1 x2 (0 : Int32) μ1) fun _ μ11 =>
      nm (x2 + (1 : Int32)) fun x12 =>
      j2 μ11 x12
    )
  )) fun j2 =>
  j2 μ (1 : Int32)
set_option maxHeartbeats 4000000 in
set_option maxRecDepth 100000 in
theorem kX13_begin (l : Launch) (fu : Nat) (n0 : Nat) (g0 : n0 < 1) (p1 : Int32) : Kon 1 l yX13_begin cX13_begin 3 (none) 1 23 0 0 (fun ad => [.ref (ad 26 n0), .int p1]) rvV (fun μ => fX13_begin fu n0 p1 μ) := by
  refine kon_of (by decide) (fun _ => Nat.le_of_ble_eq_true rfl) (fun X r0 μ hXl hXn V C E => ?_)
  have hN : ∀ i : Nat, i < 3 → i < xn X := fun i h => hXn.symm ▸ h
  have R0 := fen_rm E
  show G X r0 0 0 μ 0 [(0, .ref (xa X 26 n0)), (1, .int p1)] [] (fX13_begin fu n0 p1 μ)
  unfold fX13_begin
  refine g_jl (P := fun j2 => ∀ (μ1 : Mem) (x2 : Int32), G X r0 0 0 μ1 2 [(0, .ref (xa X 26 n0)), (1, .int p1), (2, .int x2)] [] (j2 μ1 x2)) (fun _ _ => g_none) (fun j2 hj2 => ?_) (fun j2 hj2 => ?_)
  · intro μ1 x2
    refine s_iload_n C dX13_begin_2 rfl 2 rfl ?_
    refine s_bipush (v := (29 : Int32)) C dX13_begin_3 (by decide) ?_
    refine s_icmp_ge (tgt := 21) C dX13_begin_5 (by decide) (fun c3 => ?_) (fun c3 => ?_)
    ·
      refine s_aload_n C dX13_begin_21 rfl 0 rfl ?_
      refine s_iload_n C dX13_begin_22 rfl 1 rfl ?_
      refine s_iconst (v := (1 : Int32)) C dX13_begin_23 (by decide) ?_
      refine s_aload_n C dX13_begin_24 rfl 0 rfl ?_
      refine s_iload_n C dX13_begin_25 rfl 1 rfl ?_
      refine s_iconst (v := (1 : Int32)) C dX13_begin_26 (by decide) ?_
      refine s_callV C R0 (kX13_setting (xl X) n0 g0 p1 (1 : Int32)) (Nat.le_trans (by decide) V) mmX13_setting miX13_setting q2241 (rc26 (Nat.le_trans (by decide) V)) g0 rfl rfl rfl (Nat.le_of_ble_eq_true rfl) ⟨Nat.le_of_ble_eq_true rfl, Nat.le_of_ble_eq_true rfl, Nat.le_of_ble_eq_true rfl, Nat.le_of_ble_eq_true rfl⟩ dX13_begin_27 (fun x5 μ4 => ?_)
      refine g_st (st' := [.int x5, .int (1 : Int32), .int p1, .ref (xa X 26 n0)]) rfl ?_
      refine s_callV C R0 (kX13_set (xl X) n0 g0 p1 (1 : Int32) x5) (Nat.le_trans (by decide) V) mmX13_set miX13_set q2383 (rc26 (Nat.le_trans (by decide) V)) g0 rfl rfl rfl (Nat.le_of_ble_eq_true rfl) ⟨Nat.le_of_ble_eq_true rfl, Nat.le_of_ble_eq_true rfl, Nat.le_of_ble_eq_true rfl, Nat.le_of_ble_eq_true rfl⟩ dX13_begin_30 (fun _ μ6 => ?_)
      refine g_st (st' := []) rfl ?_
      refine s_aload_n C dX13_begin_33 rfl 0 rfl ?_
      refine s_iload_n C dX13_begin_34 rfl 1 rfl ?_
      refine s_bipush (v := (7 : Int32)) C dX13_begin_35 (by decide) ?_
      refine s_bipush (v := (32 : Int32)) C dX13_begin_37 (by decide) ?_
      refine s_callV C R0 (kX13_set (xl X) n0 g0 p1 (7 : Int32) (32 : Int32)) (Nat.le_trans (by decide) V) mmX13_set miX13_set q2383 (rc26 (Nat.le_trans (by decide) V)) g0 rfl rfl rfl (Nat.le_of_ble_eq_true rfl) ⟨Nat.le_of_ble_eq_true rfl, Nat.le_of_ble_eq_true rfl, Nat.le_of_ble_eq_true rfl, Nat.le_of_ble_eq_true rfl⟩ dX13_begin_39 (fun _ μ7 => ?_)
      refine g_st (st' := []) rfl ?_
      refine s_aload_n C dX13_begin_42 rfl 0 rfl ?_
      refine s_iload_n C dX13_begin_43 rfl 1 rfl ?_
      refine s_bipush (v := (10 : Int32)) C dX13_begin_44 (by decide) ?_
      refine s_aload_n C dX13_begin_46 rfl 0 rfl ?_
      refine s_iload_n C dX13_begin_47 rfl 1 rfl ?_
      refine s_iconst (v := (2 : Int32)) C dX13_begin_48 (by decide) ?_
      refine s_callV C R0 (kX13_setting (xl X) n0 g0 p1 (2 : Int32)) (Nat.le_trans (by decide) V) mmX13_setting miX13_setting q2241 (rc26 (Nat.le_trans (by decide) V)) g0 rfl rfl rfl (Nat.le_of_ble_eq_true rfl) ⟨Nat.le_of_ble_eq_true rfl, Nat.le_of_ble_eq_true rfl, Nat.le_of_ble_eq_true rfl, Nat.le_of_ble_eq_true rfl⟩ dX13_begin_49 (fun x9 μ8 => ?_)
      refine g_st (st' := [.int x9, .int (10 : Int32), .int p1, .ref (xa X 26 n0)]) rfl ?_
      refine s_sipush (v := (256 : Int32)) C dX13_begin_52 (by decide) ?_
      refine s_isub C dX13_begin_55 ?_
      refine s_callV C R0 (kX13_set (xl X) n0 g0 p1 (10 : Int32) (x9 - (256 : Int32))) (Nat.le_trans (by decide) V) mmX13_set miX13_set q2383 (rc26 (Nat.le_trans (by decide) V)) g0 rfl rfl rfl (Nat.le_of_ble_eq_true rfl) ⟨Nat.le_of_ble_eq_true rfl, Nat.le_of_ble_eq_true rfl, Nat.le_of_ble_eq_true rfl, Nat.le_of_ble_eq_true rfl⟩ dX13_begin_56 (fun _ μ10 => ?_)
      refine g_st (st' := []) rfl ?_
      exact s_vret C E dX13_begin_59
    ·
      refine s_aload_n C dX13_begin_8 rfl 0 rfl ?_
      refine s_iload_n C dX13_begin_9 rfl 1 rfl ?_
      refine s_iload_n C dX13_begin_10 rfl 2 rfl ?_
      refine s_iconst (v := (0 : Int32)) C dX13_begin_11 (by decide) ?_
      refine s_callV C R0 (kX13_set (xl X) n0 g0 p1 x2 (0 : Int32)) (Nat.le_trans (by decide) V) mmX13_set miX13_set q2383 (rc26 (Nat.le_trans (by decide) V)) g0 rfl rfl rfl (Nat.le_of_ble_eq_true rfl) ⟨Nat.le_of_ble_eq_true rfl, Nat.le_of_ble_eq_true rfl, Nat.le_of_ble_eq_true rfl, Nat.le_of_ble_eq_true rfl⟩ dX13_begin_12 (fun _ μ11 => ?_)
      refine g_st (st' := []) rfl ?_
      refine g_nmQ (fun x12 ex12 => ?_)
      refine s_iinc (v := x12) (j := 2) (L' := [(2, .int x12), (0, .ref (xa X 26 n0)), (1, .int p1)]) C dX13_begin_15 rfl (by rw [ex12]; rfl) (hN 2 (by decide)) rfl ?_
      refine s_goto (tgt := 2) C dX13_begin_18 (by decide) ?_
      exact g_sub [1, 2, 0] rfl (hj2 μ11 x12)
  refine s_iconst (v := (1 : Int32)) C dX13_begin_0 (by decide) ?_
  refine s_istore_n (L' := [(2, .int (1 : Int32)), (0, .ref (xa X 26 n0)), (1, .int p1)]) C dX13_begin_1 rfl (hN 2 (by decide)) rfl ?_
  exact g_sub [1, 2, 0] rfl (hj2 μ (1 : Int32))
/-! PinEnginesModel.doneByAll()I -/
def fX13_doneByAll (fu : Nat) (n0 : Nat) (μ : Mem) : Option (Int32 × Mem) :=
  jn (lp (fun _ _ _ => none) fu (fun j4 (μ1 : Mem) (x2 : Int32) (x3 : Int32) =>
    if (4 : Int32) ≤ x3 then (
      some (x2, μ1)
    ) else (
      bnd (fX13_of n0 x3 (29 : Int32) μ1) fun x6 μ5 =>
      nm ((x2 + x6)) fun x7 =>
      nm (x3 + (1 : Int32)) fun x8 =>
      j4 μ5 x7 x8
    )
  )) fun j4 =>
  j4 μ (0 : Int32) (0 : Int32)
set_option maxHeartbeats 4000000 in
set_option maxRecDepth 100000 in
theorem kX13_doneByAll (l : Launch) (fu : Nat) (n0 : Nat) (g0 : n0 < 1) : Kon 1 l yX13_doneByAll cX13_doneByAll 3 (some .int) 1 22 0 0 (fun ad => [.ref (ad 26 n0)]) rvI (fun μ => fX13_doneByAll fu n0 μ) := by
  refine kon_of (by decide) (fun _ => Nat.le_of_ble_eq_true rfl) (fun X r0 μ hXl hXn V C E => ?_)
  have hN : ∀ i : Nat, i < 3 → i < xn X := fun i h => hXn.symm ▸ h
  have R0 := fen_rm E
  show G X r0 0 0 μ 0 [(0, .ref (xa X 26 n0))] [] (fX13_doneByAll fu n0 μ)
  unfold fX13_doneByAll
  refine g_jl (P := fun j4 => ∀ (μ1 : Mem) (x2 : Int32) (x3 : Int32), G X r0 0 0 μ1 4 [(0, .ref (xa X 26 n0)), (1, .int x2), (2, .int x3)] [] (j4 μ1 x2 x3)) (fun _ _ _ => g_none) (fun j4 hj4 => ?_) (fun j4 hj4 => ?_)
  · intro μ1 x2 x3
    refine s_iload_n C dX13_doneByAll_4 rfl 2 rfl ?_
    refine s_iconst (v := (4 : Int32)) C dX13_doneByAll_5 (by decide) ?_
    refine s_icmp_ge (tgt := 25) C dX13_doneByAll_6 (by decide) (fun c4 => ?_) (fun c4 => ?_)
    ·
      refine s_iload_n C dX13_doneByAll_25 rfl 1 rfl ?_
      exact s_iret C E dX13_doneByAll_26
    ·
      refine s_iload_n C dX13_doneByAll_9 rfl 1 rfl ?_
      refine s_aload_n C dX13_doneByAll_10 rfl 0 rfl ?_
      refine s_iload_n C dX13_doneByAll_11 rfl 2 rfl ?_
      refine s_bipush (v := (29 : Int32)) C dX13_doneByAll_12 (by decide) ?_
      refine s_callV C R0 (kX13_of (xl X) n0 g0 x3 (29 : Int32)) (Nat.le_trans (by decide) V) mmX13_of miX13_of q2307 (rc26 (Nat.le_trans (by decide) V)) g0 rfl rfl rfl (Nat.le_of_ble_eq_true rfl) ⟨Nat.le_of_ble_eq_true rfl, Nat.le_of_ble_eq_true rfl, Nat.le_of_ble_eq_true rfl, Nat.le_of_ble_eq_true rfl⟩ dX13_doneByAll_14 (fun x6 μ5 => ?_)
      refine g_st (st' := [.int x6, .int x2]) rfl ?_
      refine s_iadd C dX13_doneByAll_17 ?_
      refine g_nmI (fun x7 => ?_)
      refine s_istore_n (L' := [(1, .int x7), (0, .ref (xa X 26 n0)), (2, .int x3)]) C dX13_doneByAll_18 rfl (hN 1 (by decide)) rfl ?_
      refine g_nmQ (fun x8 ex8 => ?_)
      refine s_iinc (v := x8) (j := 2) (L' := [(2, .int x8), (1, .int x7), (0, .ref (xa X 26 n0))]) C dX13_doneByAll_19 rfl (by rw [ex8]; rfl) (hN 2 (by decide)) rfl ?_
      refine s_goto (tgt := 4) C dX13_doneByAll_22 (by decide) ?_
      exact g_sub [2, 1, 0] rfl (hj4 μ5 x7 x8)
  refine s_iconst (v := (0 : Int32)) C dX13_doneByAll_0 (by decide) ?_
  refine s_istore_n (L' := [(1, .int (0 : Int32)), (0, .ref (xa X 26 n0))]) C dX13_doneByAll_1 rfl (hN 1 (by decide)) rfl ?_
  refine s_iconst (v := (0 : Int32)) C dX13_doneByAll_2 (by decide) ?_
  refine s_istore_n (L' := [(2, .int (0 : Int32)), (1, .int (0 : Int32)), (0, .ref (xa X 26 n0))]) C dX13_doneByAll_3 rfl (hN 2 (by decide)) rfl ?_
  exact g_sub [2, 1, 0] rfl (hj4 μ (0 : Int32) (0 : Int32))
/-! PinEnginesModel.isLimit(I)Z -/
def fX13_isLimit (p0 : Int32) (μ : Mem) : Option (Int32 × Mem) :=
  bnd (fX13_inRange p0 (0 : Int32) (2000 : Int32) μ) fun x2 μ1 =>
  ckZ x2 (some (x2, μ1))
set_option maxHeartbeats 4000000 in
set_option maxRecDepth 100000 in
theorem kX13_isLimit (l : Launch) (p0 : Int32) : Kon 1 l yX13_isLimit cX13_isLimit 1 (some .boolean) 1 22 0 0 (fun _ => [.int p0]) rvI (fun μ => fX13_isLimit p0 μ) := by
  refine kon_of (by decide) (fun _ => Nat.le_of_ble_eq_true rfl) (fun X r0 μ hXl hXn V C E => ?_)
  have hN : ∀ i : Nat, i < 1 → i < xn X := fun i h => hXn.symm ▸ h
  have R0 := fen_rm E
  show G X r0 0 0 μ 0 [(0, .int p0)] [] (fX13_isLimit p0 μ)
  unfold fX13_isLimit
  refine s_iload_n C dX13_isLimit_0 rfl 0 rfl ?_
  refine s_iconst (v := (0 : Int32)) C dX13_isLimit_1 (by decide) ?_
  refine s_sipush (v := (2000 : Int32)) C dX13_isLimit_2 (by decide) ?_
  refine s_callS C R0 (kX13_inRange (xl X) p0 (0 : Int32) (2000 : Int32)) (Nat.le_trans (by decide) V) mmX13_inRange q2257 q2256 rfl rfl rfl rfl (Nat.le_of_ble_eq_true rfl) ⟨Nat.le_of_ble_eq_true rfl, Nat.le_of_ble_eq_true rfl, Nat.le_of_ble_eq_true rfl, Nat.le_of_ble_eq_true rfl⟩ dX13_isLimit_5 (fun x2 μ1 => ?_)
  refine g_st (st' := [.int x2]) rfl ?_
  exact s_zret C E dX13_isLimit_8
/-! PinEnginesModel.divider(II)I -/
def fX13_divider (n0 : Nat) (p1 : Int32) (p2 : Int32) (μ : Mem) : Option (Int32 × Mem) :=
  jn (fun (μ1 : Mem) =>
    bnd (fX13_raise n0 (1 : Int32) μ1) fun x3 μ2 =>
    some (x3, μ2)
  ) fun j27 =>
  nm (wI μ 26 n0 6 (0 : Int32)) fun μ4 =>
  bnd (fX13_inRange p1 (1 : Int32) (1000000 : Int32) μ4) fun x6 μ5 =>
  if x6 = 0 then (
    j27 μ5
  ) else (
    bnd (fX13_inRange p2 (1 : Int32) (1000000 : Int32) μ5) fun x9 μ8 =>
    if ¬ x9 = 0 then (
      jn (fun (μ11 : Mem) (y12 : Int64) =>
        some (y12.toInt32, μ11)
      ) fun j109 =>
      nm (((256 : Int64) * (p1.toInt64))) fun y13 =>
      ckL (p2.toInt64) <|
      nm ((if (if (y13 / (p2.toInt64)) < (65535 : Int64) then (y13 / (p2.toInt64)) else (65535 : Int64)) < (256 : Int64) then (256 : Int64) else (if (y13 / (p2.toInt64)) < (65535 : Int64) then (y13 / (p2.toInt64)) else (65535 : Int64)))) fun y14 =>
      nm ((if (y14 + (1 : Int64)) < (65535 : Int64) then (y14 + (1 : Int64)) else (65535 : Int64))) fun y15 =>
      nm ((if 0 < ((y14 * (p2.toInt64)) - y13) then ((y14 * (p2.toInt64)) - y13) else -((y14 * (p2.toInt64)) - y13))) fun y16 =>
      nm ((if 0 < ((y15 * (p2.toInt64)) - y13) then ((y15 * (p2.toInt64)) - y13) else -((y15 * (p2.toInt64)) - y13))) fun y17 =>
      if 0 ≤ (lg_cmp y17 y16) then (
        j109 μ8 y14
      ) else (
        j109 μ8 y15
      )
    ) else (
      j27 μ8
    )
  )
set_option maxHeartbeats 4000000 in
set_option maxRecDepth 100000 in
theorem kX13_divider (l : Launch) (n0 : Nat) (g0 : n0 < 1) (p1 : Int32) (p2 : Int32) : Kon 1 l yX13_divider cX13_divider 13 (some .int) 1 24 0 0 (fun ad => [.ref (ad 26 n0), .int p1, .int p2]) rvI (fun μ => fX13_divider n0 p1 p2 μ) := by
  refine kon_of (by decide) (fun _ => Nat.le_of_ble_eq_true rfl) (fun X r0 μ hXl hXn V C E => ?_)
  have hN : ∀ i : Nat, i < 13 → i < xn X := fun i h => hXn.symm ▸ h
  have R0 := fen_rm E
  show G X r0 0 0 μ 0 [(0, .ref (xa X 26 n0)), (1, .int p1), (2, .int p2)] [] (fX13_divider n0 p1 p2 μ)
  unfold fX13_divider
  refine g_jn (P := fun j27 => ∀ (μ1 : Mem), G X r0 0 0 μ1 27 [(0, .ref (xa X 26 n0))] [] (j27 μ1)) ?_ (fun j27 hj27 => ?_)
  · intro μ1
    refine s_aload_n C dX13_divider_27 rfl 0 rfl ?_
    refine s_iconst (v := (1 : Int32)) C dX13_divider_28 (by decide) ?_
    refine s_callV C R0 (kX13_raise (xl X) n0 g0 (1 : Int32)) (Nat.le_trans (by decide) V) mmX13_raise miX13_raise q2259 (rc26 (Nat.le_trans (by decide) V)) g0 rfl rfl rfl (Nat.le_of_ble_eq_true rfl) ⟨Nat.le_of_ble_eq_true rfl, Nat.le_of_ble_eq_true rfl, Nat.le_of_ble_eq_true rfl, Nat.le_of_ble_eq_true rfl⟩ dX13_divider_29 (fun x3 μ2 => ?_)
    refine g_st (st' := [.int x3]) rfl ?_
    exact s_iret C E dX13_divider_32
  refine s_aload_n C dX13_divider_0 rfl 0 rfl ?_
  refine s_iconst (v := (0 : Int32)) C dX13_divider_1 (by decide) ?_
  refine s_putI C (fpX13_231_26 (Nat.le_trans (by decide) V)) g0 dX13_divider_2 ?_
  refine g_nmM (fun μ4 => ?_)
  refine s_iload_n C dX13_divider_5 rfl 1 rfl ?_
  refine s_iconst (v := (1 : Int32)) C dX13_divider_6 (by decide) ?_
  refine s_ldcw (v := (1000000 : Int32)) C q2424 dX13_divider_7 ?_
  refine s_callS C R0 (kX13_inRange (xl X) p1 (1 : Int32) (1000000 : Int32)) (Nat.le_trans (by decide) V) mmX13_inRange q2257 q2256 rfl rfl rfl rfl (Nat.le_of_ble_eq_true rfl) ⟨Nat.le_of_ble_eq_true rfl, Nat.le_of_ble_eq_true rfl, Nat.le_of_ble_eq_true rfl, Nat.le_of_ble_eq_true rfl⟩ dX13_divider_10 (fun x6 μ5 => ?_)
  refine g_st (st' := [.int x6]) rfl ?_
  refine s_if_eq (tgt := 27) C dX13_divider_13 (by decide) (fun c7 => ?_) (fun c7 => ?_)
  ·
    exact g_sub [0] rfl (hj27 μ5)
  ·
    refine s_iload_n C dX13_divider_16 rfl 2 rfl ?_
    refine s_iconst (v := (1 : Int32)) C dX13_divider_17 (by decide) ?_
    refine s_ldcw (v := (1000000 : Int32)) C q2424 dX13_divider_18 ?_
    refine s_callS C R0 (kX13_inRange (xl X) p2 (1 : Int32) (1000000 : Int32)) (Nat.le_trans (by decide) V) mmX13_inRange q2257 q2256 rfl rfl rfl rfl (Nat.le_of_ble_eq_true rfl) ⟨Nat.le_of_ble_eq_true rfl, Nat.le_of_ble_eq_true rfl, Nat.le_of_ble_eq_true rfl, Nat.le_of_ble_eq_true rfl⟩ dX13_divider_21 (fun x9 μ8 => ?_)
    refine g_st (st' := [.int x9]) rfl ?_
    refine s_if_ne (tgt := 33) C dX13_divider_24 (by decide) (fun c10 => ?_) (fun c10 => ?_)
    ·
      refine g_jn (P := fun j109 => ∀ (μ11 : Mem) (y12 : Int64), G X r0 0 0 μ11 109 [] [.long y12] (j109 μ11 y12)) ?_ (fun j109 hj109 => ?_)
      · intro μ11 y12
        refine s_l2i C dX13_divider_109 ?_
        exact s_iret C E dX13_divider_110
      refine s_ldc2 (v := (256 : Int64)) C q2603 dX13_divider_33 ?_
      refine s_iload_n C dX13_divider_36 rfl 1 rfl ?_
      refine s_i2l C dX13_divider_37 ?_
      refine s_lmul C dX13_divider_38 ?_
      refine g_nmJ (fun y13 => ?_)
      refine s_lstore_n (L' := [(3, .long y13), (0, .ref (xa X 26 n0)), (1, .int p1), (2, .int p2)]) C dX13_divider_39 rfl (hN 4 (by decide)) rfl ?_
      refine s_ldc2 (v := (256 : Int64)) C q2603 dX13_divider_40 ?_
      refine s_ldc2 (v := (65535 : Int64)) C q2604 dX13_divider_43 ?_
      refine s_lload_n C dX13_divider_46 rfl 0 rfl ?_
      refine s_iload_n C dX13_divider_47 rfl 3 rfl ?_
      refine s_i2l C dX13_divider_48 ?_
      refine s_ldiv C dX13_divider_49 ?_
      refine s_mmin_long C R0 q2605 q2606 q172 q2607 ⟨Nat.le_of_ble_eq_true rfl, Nat.le_of_ble_eq_true rfl, Nat.le_of_ble_eq_true rfl, Nat.le_of_ble_eq_true rfl⟩ dX13_divider_50 ?_
      refine s_mmax_long C R0 q2608 q2609 q172 q2610 ⟨Nat.le_of_ble_eq_true rfl, Nat.le_of_ble_eq_true rfl, Nat.le_of_ble_eq_true rfl, Nat.le_of_ble_eq_true rfl⟩ dX13_divider_53 ?_
      refine g_nmJ (fun y14 => ?_)
      refine s_lstore (L' := [(5, .long y14), (3, .long y13), (0, .ref (xa X 26 n0)), (1, .int p1), (2, .int p2)]) C dX13_divider_56 (hN 6 (by decide)) rfl ?_
      refine s_ldc2 (v := (65535 : Int64)) C q2604 dX13_divider_58 ?_
      refine s_lload C dX13_divider_61 0 rfl ?_
      refine s_lconst (v := (1 : Int64)) C dX13_divider_63 (by decide) ?_
      refine s_ladd C dX13_divider_64 ?_
      refine s_mmin_long C R0 q2605 q2606 q172 q2607 ⟨Nat.le_of_ble_eq_true rfl, Nat.le_of_ble_eq_true rfl, Nat.le_of_ble_eq_true rfl, Nat.le_of_ble_eq_true rfl⟩ dX13_divider_65 ?_
      refine g_nmJ (fun y15 => ?_)
      refine s_lstore (L' := [(7, .long y15), (5, .long y14), (3, .long y13), (0, .ref (xa X 26 n0)), (1, .int p1), (2, .int p2)]) C dX13_divider_68 (hN 8 (by decide)) rfl ?_
      refine s_lload C dX13_divider_70 1 rfl ?_
      refine s_iload_n C dX13_divider_72 rfl 5 rfl ?_
      refine s_i2l C dX13_divider_73 ?_
      refine s_lmul C dX13_divider_74 ?_
      refine s_lload_n C dX13_divider_75 rfl 2 rfl ?_
      refine s_lsub C dX13_divider_76 ?_
      refine s_mabs_long C R0 q2611 q2612 q172 q2613 ⟨Nat.le_of_ble_eq_true rfl, Nat.le_of_ble_eq_true rfl, Nat.le_of_ble_eq_true rfl, Nat.le_of_ble_eq_true rfl⟩ dX13_divider_77 ?_
      refine g_nmJ (fun y16 => ?_)
      refine s_lstore (L' := [(9, .long y16), (7, .long y15), (5, .long y14), (3, .long y13), (0, .ref (xa X 26 n0)), (1, .int p1), (2, .int p2)]) C dX13_divider_80 (hN 10 (by decide)) rfl ?_
      refine s_lload C dX13_divider_82 1 rfl ?_
      refine s_iload_n C dX13_divider_84 rfl 6 rfl ?_
      refine s_i2l C dX13_divider_85 ?_
      refine s_lmul C dX13_divider_86 ?_
      refine s_lload_n C dX13_divider_87 rfl 3 rfl ?_
      refine s_lsub C dX13_divider_88 ?_
      refine s_mabs_long C R0 q2611 q2612 q172 q2613 ⟨Nat.le_of_ble_eq_true rfl, Nat.le_of_ble_eq_true rfl, Nat.le_of_ble_eq_true rfl, Nat.le_of_ble_eq_true rfl⟩ dX13_divider_89 ?_
      refine g_nmJ (fun y17 => ?_)
      refine s_lstore (L' := [(11, .long y17), (9, .long y16), (7, .long y15), (5, .long y14), (3, .long y13), (0, .ref (xa X 26 n0)), (1, .int p1), (2, .int p2)]) C dX13_divider_92 (hN 12 (by decide)) rfl ?_
      refine s_lload C dX13_divider_94 0 rfl ?_
      refine s_lload C dX13_divider_96 1 rfl ?_
      refine s_lcmp C dX13_divider_98 ?_
      refine s_if_ge (tgt := 107) C dX13_divider_99 (by decide) (fun c18 => ?_) (fun c18 => ?_)
      ·
        refine s_lload C dX13_divider_107 3 rfl ?_
        exact g_sub [] rfl (hj109 μ8 y14)
      ·
        refine s_lload C dX13_divider_102 2 rfl ?_
        refine s_goto (tgt := 109) C dX13_divider_104 (by decide) ?_
        exact g_sub [] rfl (hj109 μ8 y15)
    ·
      exact g_sub [0] rfl (hj27 μ8)
/-! PinEnginesModel.copy([II[II)V -/
def fX13_copy (fu : Nat) (n0 : Nat) (p1 : Int32) (n2 : Nat) (p3 : Int32) (μ : Mem) : Option (Unit × Mem) :=
  jn (lp (fun _ _ => none) fu (fun j3 (μ1 : Mem) (x2 : Int32) =>
    if (700 : Int32) ≤ x2 then (
      some ((), μ1)
    ) else (
      ckI (((700 : Int32) * p1) + x2) (if n0 = 4 then 7000 else 700) <|
      ckI (((700 : Int32) * p3) + x2) (if n2 = 4 then 7000 else 700) <|
      nm (wI μ1 27 n2 (((700 : Int32) * p3) + x2).toNatClampNeg (μ1.1 27 n0 (((700 : Int32) * p1) + x2).toNatClampNeg)) fun μ4 =>
      nm (x2 + (1 : Int32)) fun x5 =>
      j3 μ4 x5
    )
  )) fun j3 =>
  j3 μ (0 : Int32)
set_option maxHeartbeats 4000000 in
set_option maxRecDepth 100000 in
theorem kX13_copy (l : Launch) (fu : Nat) (n0 : Nat) (g0 : n0 < 5) (p1 : Int32) (n2 : Nat) (g2 : n2 < 5) (p3 : Int32) : Kon 1 l yX13_copy cX13_copy 5 (none) 0 0 0 0 (fun ad => [.ref (ad 27 n0), .int p1, .ref (ad 27 n2), .int p3]) rvV (fun μ => fX13_copy fu n0 p1 n2 p3 μ) := by
  refine kon_of (by decide) (fun _ => Nat.le_of_ble_eq_true rfl) (fun X r0 μ hXl hXn V C E => ?_)
  have hN : ∀ i : Nat, i < 5 → i < xn X := fun i h => hXn.symm ▸ h
  have R0 := fen_rm E
  show G X r0 0 0 μ 0 [(0, .ref (xa X 27 n0)), (1, .int p1), (2, .ref (xa X 27 n2)), (3, .int p3)] [] (fX13_copy fu n0 p1 n2 p3 μ)
  unfold fX13_copy
  refine g_jl (P := fun j3 => ∀ (μ1 : Mem) (x2 : Int32), G X r0 0 0 μ1 3 [(0, .ref (xa X 27 n0)), (1, .int p1), (2, .ref (xa X 27 n2)), (3, .int p3), (4, .int x2)] [] (j3 μ1 x2)) (fun _ _ => g_none) (fun j3 hj3 => ?_) (fun j3 hj3 => ?_)
  · intro μ1 x2
    refine s_iload C dX13_copy_3 4 rfl ?_
    refine s_sipush (v := (700 : Int32)) C dX13_copy_5 (by decide) ?_
    refine s_icmp_ge (tgt := 37) C dX13_copy_8 (by decide) (fun c3 => ?_) (fun c3 => ?_)
    ·
      exact s_vret C E dX13_copy_37
    ·
      refine s_aload_n C dX13_copy_11 rfl 2 rfl ?_
      refine s_sipush (v := (700 : Int32)) C dX13_copy_12 (by decide) ?_
      refine s_iload_n C dX13_copy_15 rfl 3 rfl ?_
      refine s_imul C dX13_copy_16 ?_
      refine s_iload C dX13_copy_17 4 rfl ?_
      refine s_iadd C dX13_copy_19 ?_
      refine s_aload_n C dX13_copy_20 rfl 0 rfl ?_
      refine s_sipush (v := (700 : Int32)) C dX13_copy_21 (by decide) ?_
      refine s_iload_n C dX13_copy_24 rfl 1 rfl ?_
      refine s_imul C dX13_copy_25 ?_
      refine s_iload C dX13_copy_26 4 rfl ?_
      refine s_iadd C dX13_copy_28 ?_
      refine s_iald C (ag27 (Nat.le_trans (by decide) V)) g0 dX13_copy_29 ?_
      refine s_iast C (ag27 (Nat.le_trans (by decide) V)) g2 dX13_copy_30 ?_
      refine g_nmM (fun μ4 => ?_)
      refine g_nmQ (fun x5 ex5 => ?_)
      refine s_iinc (v := x5) (j := 4) (L' := [(4, .int x5), (0, .ref (xa X 27 n0)), (1, .int p1), (2, .ref (xa X 27 n2)), (3, .int p3)]) C dX13_copy_31 rfl (by rw [ex5]; rfl) (hN 4 (by decide)) rfl ?_
      refine s_goto (tgt := 3) C dX13_copy_34 (by decide) ?_
      exact g_sub [1, 2, 3, 4, 0] rfl (hj3 μ4 x5)
  refine s_iconst (v := (0 : Int32)) C dX13_copy_0 (by decide) ?_
  refine s_istore (L' := [(4, .int (0 : Int32)), (0, .ref (xa X 27 n0)), (1, .int p1), (2, .ref (xa X 27 n2)), (3, .int p3)]) C dX13_copy_1 (hN 4 (by decide)) rfl ?_
  exact g_sub [1, 2, 3, 4, 0] rfl (hj3 μ (0 : Int32))
/-! PinEnginesModel.record()V -/
def fX13_record (fu : Nat) (n0 : Nat) (μ : Mem) : Option (Unit × Mem) :=
  jn (fun (μ1 : Mem) =>
    bnd (fX13_copy fu 0 (0 : Int32) 4 (μ1.1 26 n0 5) μ1) fun _ μ2 =>
    nm (wI μ2 26 n0 5 ((μ2.1 26 n0 5) + (1 : Int32))) fun μ3 =>
    some ((), μ3)
  ) fun j48 =>
  if ¬ (μ.1 26 n0 5) = (10 : Int32) then (
    j48 μ
  ) else (
    jn (lp (fun _ _ => none) fu (fun j11 (μ5 : Mem) (x6 : Int32) =>
      if (10 : Int32) ≤ x6 then (
        nm (wI μ5 26 n0 5 ((μ5.1 26 n0 5) - (1 : Int32))) fun μ8 =>
        j48 μ8
      ) else (
        bnd (fX13_copy fu 4 x6 4 (x6 - (1 : Int32)) μ5) fun _ μ9 =>
        nm (x6 + (1 : Int32)) fun x10 =>
        j11 μ9 x10
      )
    )) fun j11 =>
    j11 μ (1 : Int32)
  )
set_option maxHeartbeats 4000000 in
set_option maxRecDepth 100000 in
theorem kX13_record (l : Launch) (fu : Nat) (n0 : Nat) (g0 : n0 < 1) : Kon 1 l yX13_record cX13_record 2 (none) 1 24 0 0 (fun ad => [.ref (ad 26 n0)]) rvV (fun μ => fX13_record fu n0 μ) := by
  refine kon_of (by decide) (fun _ => Nat.le_of_ble_eq_true rfl) (fun X r0 μ hXl hXn V C E => ?_)
  have hN : ∀ i : Nat, i < 2 → i < xn X := fun i h => hXn.symm ▸ h
  have R0 := fen_rm E
  show G X r0 0 0 μ 0 [(0, .ref (xa X 26 n0))] [] (fX13_record fu n0 μ)
  unfold fX13_record
  refine g_jn (P := fun j48 => ∀ (μ1 : Mem), G X r0 0 0 μ1 48 [(0, .ref (xa X 26 n0))] [] (j48 μ1)) ?_ (fun j48 hj48 => ?_)
  · intro μ1
    refine s_aload_n C dX13_record_48 rfl 0 rfl ?_
    refine s_getF C (fgX13_9_26 (Nat.le_trans (by decide) V)) g0 dX13_record_49 ?_
    refine s_iconst (v := (0 : Int32)) C dX13_record_52 (by decide) ?_
    refine s_aload_n C dX13_record_53 rfl 0 rfl ?_
    refine s_getF C (fgX13_22_26 (Nat.le_trans (by decide) V)) g0 dX13_record_54 ?_
    refine s_aload_n C dX13_record_57 rfl 0 rfl ?_
    refine s_getI C (fgX13_459_26 (Nat.le_trans (by decide) V)) g0 dX13_record_58 ?_
    refine s_callS C R0 (kX13_copy (xl X) fu 0 (by decide) (0 : Int32) 4 (by decide) (μ1.1 26 n0 5)) (Nat.le_trans (by decide) V) mmX13_copy q2377 q2376 rfl rfl rfl rfl (Nat.le_of_ble_eq_true rfl) ⟨Nat.le_of_ble_eq_true rfl, Nat.le_of_ble_eq_true rfl, Nat.le_of_ble_eq_true rfl, Nat.le_of_ble_eq_true rfl⟩ dX13_record_61 (fun _ μ2 => ?_)
    refine g_st (st' := []) rfl ?_
    refine s_aload_n C dX13_record_64 rfl 0 rfl ?_
    refine s_dup C dX13_record_65 rfl ?_
    refine s_getI C (fgX13_459_26 (Nat.le_trans (by decide) V)) g0 dX13_record_66 ?_
    refine s_iconst (v := (1 : Int32)) C dX13_record_69 (by decide) ?_
    refine s_iadd C dX13_record_70 ?_
    refine s_putI C (fpX13_459_26 (Nat.le_trans (by decide) V)) g0 dX13_record_71 ?_
    refine g_nmM (fun μ3 => ?_)
    exact s_vret C E dX13_record_74
  refine s_aload_n C dX13_record_0 rfl 0 rfl ?_
  refine s_getI C (fgX13_459_26 (Nat.le_trans (by decide) V)) g0 dX13_record_1 ?_
  refine s_bipush (v := (10 : Int32)) C dX13_record_4 (by decide) ?_
  refine s_icmp_ne (tgt := 48) C dX13_record_6 (by decide) (fun c4 => ?_) (fun c4 => ?_)
  ·
    exact g_sub [0] rfl (hj48 μ)
  ·
    refine g_jl (P := fun j11 => ∀ (μ5 : Mem) (x6 : Int32), G X r0 0 0 μ5 11 [(0, .ref (xa X 26 n0)), (1, .int x6)] [] (j11 μ5 x6)) (fun _ _ => g_none) (fun j11 hj11 => ?_) (fun j11 hj11 => ?_)
    · intro μ5 x6
      refine s_iload_n C dX13_record_11 rfl 1 rfl ?_
      refine s_bipush (v := (10 : Int32)) C dX13_record_12 (by decide) ?_
      refine s_icmp_ge (tgt := 38) C dX13_record_14 (by decide) (fun c7 => ?_) (fun c7 => ?_)
      ·
        refine s_aload_n C dX13_record_38 rfl 0 rfl ?_
        refine s_dup C dX13_record_39 rfl ?_
        refine s_getI C (fgX13_459_26 (Nat.le_trans (by decide) V)) g0 dX13_record_40 ?_
        refine s_iconst (v := (1 : Int32)) C dX13_record_43 (by decide) ?_
        refine s_isub C dX13_record_44 ?_
        refine s_putI C (fpX13_459_26 (Nat.le_trans (by decide) V)) g0 dX13_record_45 ?_
        refine g_nmM (fun μ8 => ?_)
        exact g_sub [0] rfl (hj48 μ8)
      ·
        refine s_aload_n C dX13_record_17 rfl 0 rfl ?_
        refine s_getF C (fgX13_22_26 (Nat.le_trans (by decide) V)) g0 dX13_record_18 ?_
        refine s_iload_n C dX13_record_21 rfl 1 rfl ?_
        refine s_aload_n C dX13_record_22 rfl 0 rfl ?_
        refine s_getF C (fgX13_22_26 (Nat.le_trans (by decide) V)) g0 dX13_record_23 ?_
        refine s_iload_n C dX13_record_26 rfl 1 rfl ?_
        refine s_iconst (v := (1 : Int32)) C dX13_record_27 (by decide) ?_
        refine s_isub C dX13_record_28 ?_
        refine s_callS C R0 (kX13_copy (xl X) fu 4 (by decide) x6 4 (by decide) (x6 - (1 : Int32))) (Nat.le_trans (by decide) V) mmX13_copy q2377 q2376 rfl rfl rfl rfl (Nat.le_of_ble_eq_true rfl) ⟨Nat.le_of_ble_eq_true rfl, Nat.le_of_ble_eq_true rfl, Nat.le_of_ble_eq_true rfl, Nat.le_of_ble_eq_true rfl⟩ dX13_record_29 (fun _ μ9 => ?_)
        refine g_st (st' := []) rfl ?_
        refine g_nmQ (fun x10 ex10 => ?_)
        refine s_iinc (v := x10) (j := 1) (L' := [(1, .int x10), (0, .ref (xa X 26 n0))]) C dX13_record_32 rfl (by rw [ex10]; rfl) (hN 1 (by decide)) rfl ?_
        refine s_goto (tgt := 11) C dX13_record_35 (by decide) ?_
        exact g_sub [1, 0] rfl (hj11 μ9 x10)
    refine s_iconst (v := (1 : Int32)) C dX13_record_9 (by decide) ?_
    refine s_istore_n (L' := [(1, .int (1 : Int32)), (0, .ref (xa X 26 n0))]) C dX13_record_10 rfl (hN 1 (by decide)) rfl ?_
    exact g_sub [1, 0] rfl (hj11 μ (1 : Int32))
/-! PinEnginesModel.undoCount()I -/
def fX13_undoCount (n0 : Nat) (μ : Mem) : Option (Int32 × Mem) :=
  nm (wI μ 26 n0 6 (0 : Int32)) fun μ1 =>
  some ((μ1.1 26 n0 5), μ1)
set_option maxHeartbeats 4000000 in
set_option maxRecDepth 100000 in
theorem kX13_undoCount (l : Launch) (n0 : Nat) (g0 : n0 < 1) : Kon 1 l yX13_undoCount cX13_undoCount 1 (some .int) 0 0 0 0 (fun ad => [.ref (ad 26 n0)]) rvI (fun μ => fX13_undoCount n0 μ) := by
  refine kon_of (by decide) (fun _ => Nat.le_of_ble_eq_true rfl) (fun X r0 μ hXl hXn V C E => ?_)
  have hN : ∀ i : Nat, i < 1 → i < xn X := fun i h => hXn.symm ▸ h
  have R0 := fen_rm E
  show G X r0 0 0 μ 0 [(0, .ref (xa X 26 n0))] [] (fX13_undoCount n0 μ)
  unfold fX13_undoCount
  refine s_aload_n C dX13_undoCount_0 rfl 0 rfl ?_
  refine s_iconst (v := (0 : Int32)) C dX13_undoCount_1 (by decide) ?_
  refine s_putI C (fpX13_231_26 (Nat.le_trans (by decide) V)) g0 dX13_undoCount_2 ?_
  refine g_nmM (fun μ1 => ?_)
  refine s_aload_n C dX13_undoCount_5 rfl 0 rfl ?_
  refine s_getI C (fgX13_459_26 (Nat.le_trans (by decide) V)) g0 dX13_undoCount_6 ?_
  exact s_iret C E dX13_undoCount_9
/-! PinEnginesModel.undo()I -/
def fX13_undo (fu : Nat) (n0 : Nat) (μ : Mem) : Option (Int32 × Mem) :=
  nm (wI μ 26 n0 6 (0 : Int32)) fun μ1 =>
  if ¬ (μ1.1 26 n0 5) = 0 then (
    nm (wI μ1 26 n0 5 ((μ1.1 26 n0 5) - (1 : Int32))) fun μ3 =>
    bnd (fX13_copy fu 4 (μ3.1 26 n0 5) 0 (0 : Int32) μ3) fun _ μ4 =>
    some ((μ4.1 26 n0 5), μ4)
  ) else (
    some ((-1 : Int32), μ1)
  )
set_option maxHeartbeats 4000000 in
set_option maxRecDepth 100000 in
theorem kX13_undo (l : Launch) (fu : Nat) (n0 : Nat) (g0 : n0 < 1) : Kon 1 l yX13_undo cX13_undo 1 (some .int) 1 24 0 0 (fun ad => [.ref (ad 26 n0)]) rvI (fun μ => fX13_undo fu n0 μ) := by
  refine kon_of (by decide) (fun _ => Nat.le_of_ble_eq_true rfl) (fun X r0 μ hXl hXn V C E => ?_)
  have hN : ∀ i : Nat, i < 1 → i < xn X := fun i h => hXn.symm ▸ h
  have R0 := fen_rm E
  show G X r0 0 0 μ 0 [(0, .ref (xa X 26 n0))] [] (fX13_undo fu n0 μ)
  unfold fX13_undo
  refine s_aload_n C dX13_undo_0 rfl 0 rfl ?_
  refine s_iconst (v := (0 : Int32)) C dX13_undo_1 (by decide) ?_
  refine s_putI C (fpX13_231_26 (Nat.le_trans (by decide) V)) g0 dX13_undo_2 ?_
  refine g_nmM (fun μ1 => ?_)
  refine s_aload_n C dX13_undo_5 rfl 0 rfl ?_
  refine s_getI C (fgX13_459_26 (Nat.le_trans (by decide) V)) g0 dX13_undo_6 ?_
  refine s_if_ne (tgt := 14) C dX13_undo_9 (by decide) (fun c2 => ?_) (fun c2 => ?_)
  ·
    refine s_aload_n C dX13_undo_14 rfl 0 rfl ?_
    refine s_dup C dX13_undo_15 rfl ?_
    refine s_getI C (fgX13_459_26 (Nat.le_trans (by decide) V)) g0 dX13_undo_16 ?_
    refine s_iconst (v := (1 : Int32)) C dX13_undo_19 (by decide) ?_
    refine s_isub C dX13_undo_20 ?_
    refine s_putI C (fpX13_459_26 (Nat.le_trans (by decide) V)) g0 dX13_undo_21 ?_
    refine g_nmM (fun μ3 => ?_)
    refine s_aload_n C dX13_undo_24 rfl 0 rfl ?_
    refine s_getF C (fgX13_22_26 (Nat.le_trans (by decide) V)) g0 dX13_undo_25 ?_
    refine s_aload_n C dX13_undo_28 rfl 0 rfl ?_
    refine s_getI C (fgX13_459_26 (Nat.le_trans (by decide) V)) g0 dX13_undo_29 ?_
    refine s_aload_n C dX13_undo_32 rfl 0 rfl ?_
    refine s_getF C (fgX13_9_26 (Nat.le_trans (by decide) V)) g0 dX13_undo_33 ?_
    refine s_iconst (v := (0 : Int32)) C dX13_undo_36 (by decide) ?_
    refine s_callS C R0 (kX13_copy (xl X) fu 4 (by decide) (μ3.1 26 n0 5) 0 (by decide) (0 : Int32)) (Nat.le_trans (by decide) V) mmX13_copy q2377 q2376 rfl rfl rfl rfl (Nat.le_of_ble_eq_true rfl) ⟨Nat.le_of_ble_eq_true rfl, Nat.le_of_ble_eq_true rfl, Nat.le_of_ble_eq_true rfl, Nat.le_of_ble_eq_true rfl⟩ dX13_undo_37 (fun _ μ4 => ?_)
    refine g_st (st' := []) rfl ?_
    refine s_aload_n C dX13_undo_40 rfl 0 rfl ?_
    refine s_getI C (fgX13_459_26 (Nat.le_trans (by decide) V)) g0 dX13_undo_41 ?_
    exact s_iret C E dX13_undo_44
  ·
    refine s_iconst (v := (-1 : Int32)) C dX13_undo_12 (by decide) ?_
    exact s_iret C E dX13_undo_13
/-! PinEnginesModel.saveSnapshot()V -/
def fX13_saveSnapshot (fu : Nat) (n0 : Nat) (μ : Mem) : Option (Unit × Mem) :=
  nm (wI μ 26 n0 6 (0 : Int32)) fun μ1 =>
  bnd (fX13_copy fu 0 (0 : Int32) 3 (0 : Int32) μ1) fun _ μ2 =>
  ckZ (1 : Int32) <|
  nm (wI μ2 26 n0 7 (1 : Int32)) fun μ3 =>
  some ((), μ3)
set_option maxHeartbeats 4000000 in
set_option maxRecDepth 100000 in
theorem kX13_saveSnapshot (l : Launch) (fu : Nat) (n0 : Nat) (g0 : n0 < 1) : Kon 1 l yX13_saveSnapshot cX13_saveSnapshot 1 (none) 1 24 0 0 (fun ad => [.ref (ad 26 n0)]) rvV (fun μ => fX13_saveSnapshot fu n0 μ) := by
  refine kon_of (by decide) (fun _ => Nat.le_of_ble_eq_true rfl) (fun X r0 μ hXl hXn V C E => ?_)
  have hN : ∀ i : Nat, i < 1 → i < xn X := fun i h => hXn.symm ▸ h
  have R0 := fen_rm E
  show G X r0 0 0 μ 0 [(0, .ref (xa X 26 n0))] [] (fX13_saveSnapshot fu n0 μ)
  unfold fX13_saveSnapshot
  refine s_aload_n C dX13_saveSnapshot_0 rfl 0 rfl ?_
  refine s_iconst (v := (0 : Int32)) C dX13_saveSnapshot_1 (by decide) ?_
  refine s_putI C (fpX13_231_26 (Nat.le_trans (by decide) V)) g0 dX13_saveSnapshot_2 ?_
  refine g_nmM (fun μ1 => ?_)
  refine s_aload_n C dX13_saveSnapshot_5 rfl 0 rfl ?_
  refine s_getF C (fgX13_9_26 (Nat.le_trans (by decide) V)) g0 dX13_saveSnapshot_6 ?_
  refine s_iconst (v := (0 : Int32)) C dX13_saveSnapshot_9 (by decide) ?_
  refine s_aload_n C dX13_saveSnapshot_10 rfl 0 rfl ?_
  refine s_getF C (fgX13_19_26 (Nat.le_trans (by decide) V)) g0 dX13_saveSnapshot_11 ?_
  refine s_iconst (v := (0 : Int32)) C dX13_saveSnapshot_14 (by decide) ?_
  refine s_callS C R0 (kX13_copy (xl X) fu 0 (by decide) (0 : Int32) 3 (by decide) (0 : Int32)) (Nat.le_trans (by decide) V) mmX13_copy q2377 q2376 rfl rfl rfl rfl (Nat.le_of_ble_eq_true rfl) ⟨Nat.le_of_ble_eq_true rfl, Nat.le_of_ble_eq_true rfl, Nat.le_of_ble_eq_true rfl, Nat.le_of_ble_eq_true rfl⟩ dX13_saveSnapshot_15 (fun _ μ2 => ?_)
  refine g_st (st' := []) rfl ?_
  refine s_aload_n C dX13_saveSnapshot_18 rfl 0 rfl ?_
  refine s_iconst (v := (1 : Int32)) C dX13_saveSnapshot_19 (by decide) ?_
  refine s_putZ C (fpX13_462_26 (Nat.le_trans (by decide) V)) g0 dX13_saveSnapshot_20 ?_
  refine g_nmM (fun μ3 => ?_)
  exact s_vret C E dX13_saveSnapshot_23
/-! PinEnginesModel.restoreSnapshot()Z -/
def fX13_restoreSnapshot (fu : Nat) (n0 : Nat) (μ : Mem) : Option (Int32 × Mem) :=
  nm (wI μ 26 n0 6 (0 : Int32)) fun μ1 =>
  if ¬ (μ1.1 26 n0 7) = 0 then (
    bnd (fX13_copy fu 3 (0 : Int32) 0 (0 : Int32) μ1) fun _ μ3 =>
    nm (wI μ3 26 n0 5 (0 : Int32)) fun μ4 =>
    ckZ (1 : Int32) (some ((1 : Int32), μ4))
  ) else (
    ckZ (0 : Int32) (some ((0 : Int32), μ1))
  )
set_option maxHeartbeats 4000000 in
set_option maxRecDepth 100000 in
theorem kX13_restoreSnapshot (l : Launch) (fu : Nat) (n0 : Nat) (g0 : n0 < 1) : Kon 1 l yX13_restoreSnapshot cX13_restoreSnapshot 1 (some .boolean) 1 24 0 0 (fun ad => [.ref (ad 26 n0)]) rvI (fun μ => fX13_restoreSnapshot fu n0 μ) := by
  refine kon_of (by decide) (fun _ => Nat.le_of_ble_eq_true rfl) (fun X r0 μ hXl hXn V C E => ?_)
  have hN : ∀ i : Nat, i < 1 → i < xn X := fun i h => hXn.symm ▸ h
  have R0 := fen_rm E
  show G X r0 0 0 μ 0 [(0, .ref (xa X 26 n0))] [] (fX13_restoreSnapshot fu n0 μ)
  unfold fX13_restoreSnapshot
  refine s_aload_n C dX13_restoreSnapshot_0 rfl 0 rfl ?_
  refine s_iconst (v := (0 : Int32)) C dX13_restoreSnapshot_1 (by decide) ?_
  refine s_putI C (fpX13_231_26 (Nat.le_trans (by decide) V)) g0 dX13_restoreSnapshot_2 ?_
  refine g_nmM (fun μ1 => ?_)
  refine s_aload_n C dX13_restoreSnapshot_5 rfl 0 rfl ?_
  refine s_getI C (fgX13_462_26 (Nat.le_trans (by decide) V)) g0 dX13_restoreSnapshot_6 ?_
  refine s_if_ne (tgt := 14) C dX13_restoreSnapshot_9 (by decide) (fun c2 => ?_) (fun c2 => ?_)
  ·
    refine s_aload_n C dX13_restoreSnapshot_14 rfl 0 rfl ?_
    refine s_getF C (fgX13_19_26 (Nat.le_trans (by decide) V)) g0 dX13_restoreSnapshot_15 ?_
    refine s_iconst (v := (0 : Int32)) C dX13_restoreSnapshot_18 (by decide) ?_
    refine s_aload_n C dX13_restoreSnapshot_19 rfl 0 rfl ?_
    refine s_getF C (fgX13_9_26 (Nat.le_trans (by decide) V)) g0 dX13_restoreSnapshot_20 ?_
    refine s_iconst (v := (0 : Int32)) C dX13_restoreSnapshot_23 (by decide) ?_
    refine s_callS C R0 (kX13_copy (xl X) fu 3 (by decide) (0 : Int32) 0 (by decide) (0 : Int32)) (Nat.le_trans (by decide) V) mmX13_copy q2377 q2376 rfl rfl rfl rfl (Nat.le_of_ble_eq_true rfl) ⟨Nat.le_of_ble_eq_true rfl, Nat.le_of_ble_eq_true rfl, Nat.le_of_ble_eq_true rfl, Nat.le_of_ble_eq_true rfl⟩ dX13_restoreSnapshot_24 (fun _ μ3 => ?_)
    refine g_st (st' := []) rfl ?_
    refine s_aload_n C dX13_restoreSnapshot_27 rfl 0 rfl ?_
    refine s_iconst (v := (0 : Int32)) C dX13_restoreSnapshot_28 (by decide) ?_
    refine s_putI C (fpX13_459_26 (Nat.le_trans (by decide) V)) g0 dX13_restoreSnapshot_29 ?_
    refine g_nmM (fun μ4 => ?_)
    refine s_iconst (v := (1 : Int32)) C dX13_restoreSnapshot_32 (by decide) ?_
    exact s_zret C E dX13_restoreSnapshot_33
  ·
    refine s_iconst (v := (0 : Int32)) C dX13_restoreSnapshot_12 (by decide) ?_
    exact s_zret C E dX13_restoreSnapshot_13
