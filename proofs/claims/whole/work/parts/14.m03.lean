/-! PinEnginesModel.stall(I)I -/
def fX13_stall (n0 : Nat) (p1 : Int32) (μ : Mem) : Option (Int32 × Mem) :=
  bnd (fX13_tell n0 p1 (9 : Int32) μ) fun x2 μ1 =>
  some (x2, μ1)
set_option maxHeartbeats 4000000 in
set_option maxRecDepth 100000 in
theorem kX13_stall (l : Launch) (n0 : Nat) (g0 : n0 < 1) (p1 : Int32) : Kon 1 l yX13_stall cX13_stall 2 (some .int) 3 65 0 0 (fun ad => [.ref (ad 26 n0), .int p1]) rvI (fun μ => fX13_stall n0 p1 μ) := by
  refine kon_of (by decide) (fun _ => Nat.le_of_ble_eq_true rfl) (fun X r0 μ hXl hXn V C E => ?_)
  have hN : ∀ i : Nat, i < 2 → i < xn X := fun i h => hXn.symm ▸ h
  have R0 := fen_rm E
  show G X r0 0 0 μ 0 [(0, .ref (xa X 26 n0)), (1, .int p1)] [] (fX13_stall n0 p1 μ)
  unfold fX13_stall
  refine s_aload_n C dX13_stall_0 rfl 0 rfl ?_
  refine s_iload_n C dX13_stall_1 rfl 1 rfl ?_
  refine s_bipush (v := (9 : Int32)) C dX13_stall_2 (by decide) ?_
  refine s_callV C R0 (kX13_tell (xl X) n0 g0 p1 (9 : Int32)) (Nat.le_trans (by decide) V) mmX13_tell miX13_tell q2299 (rc26 (Nat.le_trans (by decide) V)) g0 rfl rfl rfl (Nat.le_of_ble_eq_true rfl) ⟨Nat.le_of_ble_eq_true rfl, Nat.le_of_ble_eq_true rfl, Nat.le_of_ble_eq_true rfl, Nat.le_of_ble_eq_true rfl⟩ dX13_stall_4 (fun x2 μ1 => ?_)
  refine g_st (st' := [.int x2]) rfl ?_
  exact s_iret C E dX13_stall_7
/-! PinEnginesModel.isEnabled(I)Z -/
def fX13_isEnabled (n0 : Nat) (p1 : Int32) (μ : Mem) : Option (Int32 × Mem) :=
  jn (fun (μ1 : Mem) (x2 : Int32) =>
    ckZ x2 (some (x2, μ1))
  ) fun j15 =>
  bnd (fX13_tell n0 p1 (0 : Int32) μ) fun x4 μ3 =>
  if ¬ x4 = (1 : Int32) then (
    j15 μ3 (0 : Int32)
  ) else (
    j15 μ3 (1 : Int32)
  )
set_option maxHeartbeats 4000000 in
set_option maxRecDepth 100000 in
theorem kX13_isEnabled (l : Launch) (n0 : Nat) (g0 : n0 < 1) (p1 : Int32) : Kon 1 l yX13_isEnabled cX13_isEnabled 2 (some .boolean) 3 65 0 0 (fun ad => [.ref (ad 26 n0), .int p1]) rvI (fun μ => fX13_isEnabled n0 p1 μ) := by
  refine kon_of (by decide) (fun _ => Nat.le_of_ble_eq_true rfl) (fun X r0 μ hXl hXn V C E => ?_)
  have hN : ∀ i : Nat, i < 2 → i < xn X := fun i h => hXn.symm ▸ h
  have R0 := fen_rm E
  show G X r0 0 0 μ 0 [(0, .ref (xa X 26 n0)), (1, .int p1)] [] (fX13_isEnabled n0 p1 μ)
  unfold fX13_isEnabled
  refine g_jn (P := fun j15 => ∀ (μ1 : Mem) (x2 : Int32), G X r0 0 0 μ1 15 [] [.int x2] (j15 μ1 x2)) ?_ (fun j15 hj15 => ?_)
  · intro μ1 x2
    exact s_zret C E dX13_isEnabled_15
  refine s_aload_n C dX13_isEnabled_0 rfl 0 rfl ?_
  refine s_iload_n C dX13_isEnabled_1 rfl 1 rfl ?_
  refine s_iconst (v := (0 : Int32)) C dX13_isEnabled_2 (by decide) ?_
  refine s_callV C R0 (kX13_tell (xl X) n0 g0 p1 (0 : Int32)) (Nat.le_trans (by decide) V) mmX13_tell miX13_tell q2299 (rc26 (Nat.le_trans (by decide) V)) g0 rfl rfl rfl (Nat.le_of_ble_eq_true rfl) ⟨Nat.le_of_ble_eq_true rfl, Nat.le_of_ble_eq_true rfl, Nat.le_of_ble_eq_true rfl, Nat.le_of_ble_eq_true rfl⟩ dX13_isEnabled_3 (fun x4 μ3 => ?_)
  refine g_st (st' := [.int x4]) rfl ?_
  refine s_iconst (v := (1 : Int32)) C dX13_isEnabled_6 (by decide) ?_
  refine s_icmp_ne (tgt := 14) C dX13_isEnabled_7 (by decide) (fun c5 => ?_) (fun c5 => ?_)
  ·
    refine s_iconst (v := (0 : Int32)) C dX13_isEnabled_14 (by decide) ?_
    exact g_sub [] rfl (hj15 μ3 (0 : Int32))
  ·
    refine s_iconst (v := (1 : Int32)) C dX13_isEnabled_10 (by decide) ?_
    refine s_goto (tgt := 15) C dX13_isEnabled_11 (by decide) ?_
    exact g_sub [] rfl (hj15 μ3 (1 : Int32))
/-! PinEnginesModel.queueSize(IZ)I -/
def fX13_queueSize (n0 : Nat) (p1 : Int32) (p2 : Int32) (μ : Mem) : Option (Int32 × Mem) :=
  jn (fun (μ1 : Mem) (a2 : Nat) (x4 : Int32) (x5 : Int32) =>
    bnd (fX13_tell a2 x4 x5 μ1) fun x7 μ6 =>
    some (x7, μ6)
  ) fun j13 =>
  if p2 = 0 then (
    j13 μ n0 p1 (11 : Int32)
  ) else (
    j13 μ n0 p1 (12 : Int32)
  )
set_option maxHeartbeats 4000000 in
set_option maxRecDepth 100000 in
theorem kX13_queueSize (l : Launch) (n0 : Nat) (g0 : n0 < 1) (p1 : Int32) (p2 : Int32) : Kon 1 l yX13_queueSize cX13_queueSize 3 (some .int) 3 65 0 0 (fun ad => [.ref (ad 26 n0), .int p1, .int p2]) rvI (fun μ => fX13_queueSize n0 p1 p2 μ) := by
  refine kon_of (by decide) (fun _ => Nat.le_of_ble_eq_true rfl) (fun X r0 μ hXl hXn V C E => ?_)
  have hN : ∀ i : Nat, i < 3 → i < xn X := fun i h => hXn.symm ▸ h
  have R0 := fen_rm E
  show G X r0 0 0 μ 0 [(0, .ref (xa X 26 n0)), (1, .int p1), (2, .int p2)] [] (fX13_queueSize n0 p1 p2 μ)
  unfold fX13_queueSize
  refine g_jn (P := fun j13 => ∀ (μ1 : Mem) (a2 : Nat) (x4 : Int32) (x5 : Int32), a2 < 1 → G X r0 0 0 μ1 13 [] [.int x5, .int x4, .ref (xa X 26 a2)] (j13 μ1 a2 x4 x5)) ?_ (fun j13 hj13 => ?_)
  · intro μ1 a2 x4 x5 b3
    refine s_callV C R0 (kX13_tell (xl X) a2 b3 x4 x5) (Nat.le_trans (by decide) V) mmX13_tell miX13_tell q2299 (rc26 (Nat.le_trans (by decide) V)) b3 rfl rfl rfl (Nat.le_of_ble_eq_true rfl) ⟨Nat.le_of_ble_eq_true rfl, Nat.le_of_ble_eq_true rfl, Nat.le_of_ble_eq_true rfl, Nat.le_of_ble_eq_true rfl⟩ dX13_queueSize_13 (fun x7 μ6 => ?_)
    refine g_st (st' := [.int x7]) rfl ?_
    exact s_iret C E dX13_queueSize_16
  refine s_aload_n C dX13_queueSize_0 rfl 0 rfl ?_
  refine s_iload_n C dX13_queueSize_1 rfl 1 rfl ?_
  refine s_iload_n C dX13_queueSize_2 rfl 2 rfl ?_
  refine s_if_eq (tgt := 11) C dX13_queueSize_3 (by decide) (fun c8 => ?_) (fun c8 => ?_)
  ·
    refine s_bipush (v := (11 : Int32)) C dX13_queueSize_11 (by decide) ?_
    exact g_sub [] rfl (hj13 μ n0 p1 (11 : Int32) g0)
  ·
    refine s_bipush (v := (12 : Int32)) C dX13_queueSize_6 (by decide) ?_
    refine s_goto (tgt := 13) C dX13_queueSize_8 (by decide) ?_
    exact g_sub [] rfl (hj13 μ n0 p1 (12 : Int32) g0)
/-! PinEnginesModel.unsigned(I)J -/
def fX13_unsigned (p0 : Int32) (μ : Mem) : Option (Int64 × Mem) :=
  some (((p0.toInt64) &&& (4294967295 : Int64)), μ)
set_option maxHeartbeats 4000000 in
set_option maxRecDepth 100000 in
theorem kX13_unsigned (l : Launch) (p0 : Int32) : Kon 1 l yX13_unsigned cX13_unsigned 1 (some .long) 0 0 0 0 (fun _ => [.int p0]) rvJ (fun μ => fX13_unsigned p0 μ) := by
  refine kon_of (by decide) (fun _ => Nat.le_of_ble_eq_true rfl) (fun X r0 μ hXl hXn V C E => ?_)
  have hN : ∀ i : Nat, i < 1 → i < xn X := fun i h => hXn.symm ▸ h
  have R0 := fen_rm E
  show G X r0 0 0 μ 0 [(0, .int p0)] [] (fX13_unsigned p0 μ)
  unfold fX13_unsigned
  refine s_iload_n C dX13_unsigned_0 rfl 0 rfl ?_
  refine s_i2l C dX13_unsigned_1 ?_
  refine s_ldc2 (v := (4294967295 : Int64)) C q2346 dX13_unsigned_2 ?_
  refine s_land C dX13_unsigned_5 ?_
  exact s_lret C E dX13_unsigned_6
/-! PinEnginesModel.queued(IZI)J -/
def fX13_queued (n0 : Nat) (p1 : Int32) (p2 : Int32) (p3 : Int32) (μ : Mem) : Option (Int64 × Mem) :=
  jn (fun (μ1 : Mem) =>
    bnd (fX13_raise n0 (1 : Int32) μ1) fun x3 μ2 =>
    some (x3.toInt64, μ2)
  ) fun j17 =>
  nm (wI μ 26 n0 6 (0 : Int32)) fun μ4 =>
  bnd (fX13_exists n0 p1 μ4) fun x6 μ5 =>
  if x6 = 0 then (
    j17 μ5
  ) else (
    if 0 ≤ p3 then (
      jn (fun (μ9 : Mem) (x10 : Int32) (a11 : Nat) (x13 : Int32) (x14 : Int32) =>
        jn (fun (μ15 : Mem) (x16 : Int32) =>
          jn (fun (μ17 : Mem) (y18 : Int64) =>
            some (y18, μ17)
          ) fun j83 =>
          if x16 = 0 then (
            j83 μ15 (-1 : Int64)
          ) else (
            jn (fun (μ20 : Mem) (a21 : Nat) (x23 : Int32) (x24 : Int32) =>
              bnd (fX13_of a21 x23 (x24 + p3) μ20) fun x26 μ25 =>
              bnd (fX13_unsigned x26 μ25) fun y28 μ27 =>
              j83 μ27 y28
            ) fun j69 =>
            if p2 = 0 then (
              j69 μ15 n0 p1 (13 : Int32)
            ) else (
              j69 μ15 n0 p1 (21 : Int32)
            )
          )
        ) fun j49 =>
        bnd (fX13_of a11 x13 x14 μ9) fun x31 μ30 =>
        if x31 ≤ x10 then (
          j49 μ30 (0 : Int32)
        ) else (
          j49 μ30 (1 : Int32)
        )
      ) fun j38 =>
      if p2 = 0 then (
        j38 μ5 p3 n0 p1 (11 : Int32)
      ) else (
        j38 μ5 p3 n0 p1 (12 : Int32)
      )
    ) else (
      j17 μ5
    )
  )
set_option maxHeartbeats 4000000 in
set_option maxRecDepth 100000 in
theorem kX13_queued (l : Launch) (n0 : Nat) (g0 : n0 < 1) (p1 : Int32) (p2 : Int32) (p3 : Int32) : Kon 1 l yX13_queued cX13_queued 5 (some .long) 2 43 0 0 (fun ad => [.ref (ad 26 n0), .int p1, .int p2, .int p3]) rvJ (fun μ => fX13_queued n0 p1 p2 p3 μ) := by
  refine kon_of (by decide) (fun _ => Nat.le_of_ble_eq_true rfl) (fun X r0 μ hXl hXn V C E => ?_)
  have hN : ∀ i : Nat, i < 5 → i < xn X := fun i h => hXn.symm ▸ h
  have R0 := fen_rm E
  show G X r0 0 0 μ 0 [(0, .ref (xa X 26 n0)), (1, .int p1), (2, .int p2), (3, .int p3)] [] (fX13_queued n0 p1 p2 p3 μ)
  unfold fX13_queued
  refine g_jn (P := fun j17 => ∀ (μ1 : Mem), G X r0 0 0 μ1 17 [(0, .ref (xa X 26 n0))] [] (j17 μ1)) ?_ (fun j17 hj17 => ?_)
  · intro μ1
    refine s_aload_n C dX13_queued_17 rfl 0 rfl ?_
    refine s_iconst (v := (1 : Int32)) C dX13_queued_18 (by decide) ?_
    refine s_callV C R0 (kX13_raise (xl X) n0 g0 (1 : Int32)) (Nat.le_trans (by decide) V) mmX13_raise miX13_raise q2259 (rc26 (Nat.le_trans (by decide) V)) g0 rfl rfl rfl (Nat.le_of_ble_eq_true rfl) ⟨Nat.le_of_ble_eq_true rfl, Nat.le_of_ble_eq_true rfl, Nat.le_of_ble_eq_true rfl, Nat.le_of_ble_eq_true rfl⟩ dX13_queued_19 (fun x3 μ2 => ?_)
    refine g_st (st' := [.int x3]) rfl ?_
    refine s_i2l C dX13_queued_22 ?_
    exact s_lret C E dX13_queued_23
  refine s_aload_n C dX13_queued_0 rfl 0 rfl ?_
  refine s_iconst (v := (0 : Int32)) C dX13_queued_1 (by decide) ?_
  refine s_putI C (fpX13_231_26 (Nat.le_trans (by decide) V)) g0 dX13_queued_2 ?_
  refine g_nmM (fun μ4 => ?_)
  refine s_aload_n C dX13_queued_5 rfl 0 rfl ?_
  refine s_iload_n C dX13_queued_6 rfl 1 rfl ?_
  refine s_callV C R0 (kX13_exists (xl X) n0 g0 p1) (Nat.le_trans (by decide) V) mmX13_exists miX13_exists q2303 (rc26 (Nat.le_trans (by decide) V)) g0 rfl rfl rfl (Nat.le_of_ble_eq_true rfl) ⟨Nat.le_of_ble_eq_true rfl, Nat.le_of_ble_eq_true rfl, Nat.le_of_ble_eq_true rfl, Nat.le_of_ble_eq_true rfl⟩ dX13_queued_7 (fun x6 μ5 => ?_)
  refine g_st (st' := [.int x6]) rfl ?_
  refine s_if_eq (tgt := 17) C dX13_queued_10 (by decide) (fun c7 => ?_) (fun c7 => ?_)
  ·
    exact g_sub [0] rfl (hj17 μ5)
  ·
    refine s_iload_n C dX13_queued_13 rfl 3 rfl ?_
    refine s_if_ge (tgt := 24) C dX13_queued_14 (by decide) (fun c8 => ?_) (fun c8 => ?_)
    ·
      refine g_jn (P := fun j38 => ∀ (μ9 : Mem) (x10 : Int32) (a11 : Nat) (x13 : Int32) (x14 : Int32), a11 < 1 → G X r0 0 0 μ9 38 [(0, .ref (xa X 26 n0)), (1, .int p1), (2, .int p2), (3, .int p3)] [.int x14, .int x13, .ref (xa X 26 a11), .int x10] (j38 μ9 x10 a11 x13 x14)) ?_ (fun j38 hj38 => ?_)
      · intro μ9 x10 a11 x13 x14 b12
        refine g_jn (P := fun j49 => ∀ (μ15 : Mem) (x16 : Int32), G X r0 0 0 μ15 49 [(0, .ref (xa X 26 n0)), (1, .int p1), (2, .int p2), (3, .int p3)] [.int x16] (j49 μ15 x16)) ?_ (fun j49 hj49 => ?_)
        · intro μ15 x16
          refine g_jn (P := fun j83 => ∀ (μ17 : Mem) (y18 : Int64), G X r0 0 0 μ17 83 [] [.long y18] (j83 μ17 y18)) ?_ (fun j83 hj83 => ?_)
          · intro μ17 y18
            exact s_lret C E dX13_queued_83
          refine s_istore (L' := [(4, .int x16), (0, .ref (xa X 26 n0)), (1, .int p1), (2, .int p2), (3, .int p3)]) C dX13_queued_49 (hN 4 (by decide)) rfl ?_
          refine s_iload C dX13_queued_51 0 rfl ?_
          refine s_if_eq (tgt := 80) C dX13_queued_53 (by decide) (fun c19 => ?_) (fun c19 => ?_)
          ·
            refine s_ldc2 (v := (-1 : Int64)) C q2347 dX13_queued_80 ?_
            exact g_sub [] rfl (hj83 μ15 (-1 : Int64))
          ·
            refine g_jn (P := fun j69 => ∀ (μ20 : Mem) (a21 : Nat) (x23 : Int32) (x24 : Int32), a21 < 1 → G X r0 0 0 μ20 69 [(3, .int p3)] [.int x24, .int x23, .ref (xa X 26 a21)] (j69 μ20 a21 x23 x24)) ?_ (fun j69 hj69 => ?_)
            · intro μ20 a21 x23 x24 b22
              refine s_iload_n C dX13_queued_69 rfl 0 rfl ?_
              refine s_iadd C dX13_queued_70 ?_
              refine s_callV C R0 (kX13_of (xl X) a21 b22 x23 (x24 + p3)) (Nat.le_trans (by decide) V) mmX13_of miX13_of q2307 (rc26 (Nat.le_trans (by decide) V)) b22 rfl rfl rfl (Nat.le_of_ble_eq_true rfl) ⟨Nat.le_of_ble_eq_true rfl, Nat.le_of_ble_eq_true rfl, Nat.le_of_ble_eq_true rfl, Nat.le_of_ble_eq_true rfl⟩ dX13_queued_71 (fun x26 μ25 => ?_)
              refine g_st (st' := [.int x26]) rfl ?_
              refine s_callS C R0 (kX13_unsigned (xl X) x26) (Nat.le_trans (by decide) V) mmX13_unsigned q2344 q2343 rfl rfl rfl rfl (Nat.le_of_ble_eq_true rfl) ⟨Nat.le_of_ble_eq_true rfl, Nat.le_of_ble_eq_true rfl, Nat.le_of_ble_eq_true rfl, Nat.le_of_ble_eq_true rfl⟩ dX13_queued_74 (fun y28 μ27 => ?_)
              refine g_st (st' := [.long y28]) rfl ?_
              refine s_goto (tgt := 83) C dX13_queued_77 (by decide) ?_
              exact g_sub [] rfl (hj83 μ27 y28)
            refine s_aload_n C dX13_queued_56 rfl 1 rfl ?_
            refine s_iload_n C dX13_queued_57 rfl 2 rfl ?_
            refine s_iload_n C dX13_queued_58 rfl 3 rfl ?_
            refine s_if_eq (tgt := 67) C dX13_queued_59 (by decide) (fun c29 => ?_) (fun c29 => ?_)
            ·
              refine s_bipush (v := (13 : Int32)) C dX13_queued_67 (by decide) ?_
              exact g_sub [4] rfl (hj69 μ15 n0 p1 (13 : Int32) g0)
            ·
              refine s_bipush (v := (21 : Int32)) C dX13_queued_62 (by decide) ?_
              refine s_goto (tgt := 69) C dX13_queued_64 (by decide) ?_
              exact g_sub [4] rfl (hj69 μ15 n0 p1 (21 : Int32) g0)
        refine s_callV C R0 (kX13_of (xl X) a11 b12 x13 x14) (Nat.le_trans (by decide) V) mmX13_of miX13_of q2307 (rc26 (Nat.le_trans (by decide) V)) b12 rfl rfl rfl (Nat.le_of_ble_eq_true rfl) ⟨Nat.le_of_ble_eq_true rfl, Nat.le_of_ble_eq_true rfl, Nat.le_of_ble_eq_true rfl, Nat.le_of_ble_eq_true rfl⟩ dX13_queued_38 (fun x31 μ30 => ?_)
        refine g_st (st' := [.int x31, .int x10]) rfl ?_
        refine s_icmp_ge (tgt := 48) C dX13_queued_41 (by decide) (fun c32 => ?_) (fun c32 => ?_)
        ·
          refine s_iconst (v := (0 : Int32)) C dX13_queued_48 (by decide) ?_
          exact g_sub [0, 1, 2, 3] rfl (hj49 μ30 (0 : Int32))
        ·
          refine s_iconst (v := (1 : Int32)) C dX13_queued_44 (by decide) ?_
          refine s_goto (tgt := 49) C dX13_queued_45 (by decide) ?_
          exact g_sub [0, 1, 2, 3] rfl (hj49 μ30 (1 : Int32))
      refine s_iload_n C dX13_queued_24 rfl 3 rfl ?_
      refine s_aload_n C dX13_queued_25 rfl 0 rfl ?_
      refine s_iload_n C dX13_queued_26 rfl 1 rfl ?_
      refine s_iload_n C dX13_queued_27 rfl 2 rfl ?_
      refine s_if_eq (tgt := 36) C dX13_queued_28 (by decide) (fun c33 => ?_) (fun c33 => ?_)
      ·
        refine s_bipush (v := (11 : Int32)) C dX13_queued_36 (by decide) ?_
        exact g_sub [0, 1, 2, 3] rfl (hj38 μ5 p3 n0 p1 (11 : Int32) g0)
      ·
        refine s_bipush (v := (12 : Int32)) C dX13_queued_31 (by decide) ?_
        refine s_goto (tgt := 38) C dX13_queued_33 (by decide) ?_
        exact g_sub [0, 1, 2, 3] rfl (hj38 μ5 p3 n0 p1 (12 : Int32) g0)
    ·
      exact g_sub [0] rfl (hj17 μ5)
/-! PinEnginesModel.isFull(IZ)Z -/
def fX13_isFull (n0 : Nat) (p1 : Int32) (p2 : Int32) (μ : Mem) : Option (Int32 × Mem) :=
  jn (fun (μ1 : Mem) (a2 : Nat) (x4 : Int32) (x5 : Int32) =>
    jn (fun (μ6 : Mem) (x7 : Int32) (a8 : Nat) (x10 : Int32) (x11 : Int32) =>
      jn (fun (μ12 : Mem) (x13 : Int32) =>
        ckZ x13 (some (x13, μ12))
      ) fun j40 =>
      bnd (fX13_setting a8 x10 x11 μ6) fun x15 μ14 =>
      if x7 < x15 then (
        j40 μ14 (0 : Int32)
      ) else (
        j40 μ14 (1 : Int32)
      )
    ) fun j29 =>
    bnd (fX13_of a2 x4 x5 μ1) fun x18 μ17 =>
    if p2 = 0 then (
      j29 μ17 x18 n0 p1 (19 : Int32)
    ) else (
      j29 μ17 x18 n0 p1 (20 : Int32)
    )
  ) fun j13 =>
  if p2 = 0 then (
    j13 μ n0 p1 (11 : Int32)
  ) else (
    j13 μ n0 p1 (12 : Int32)
  )
set_option maxHeartbeats 4000000 in
set_option maxRecDepth 100000 in
theorem kX13_isFull (l : Launch) (n0 : Nat) (g0 : n0 < 1) (p1 : Int32) (p2 : Int32) : Kon 1 l yX13_isFull cX13_isFull 3 (some .boolean) 1 22 0 0 (fun ad => [.ref (ad 26 n0), .int p1, .int p2]) rvI (fun μ => fX13_isFull n0 p1 p2 μ) := by
  refine kon_of (by decide) (fun _ => Nat.le_of_ble_eq_true rfl) (fun X r0 μ hXl hXn V C E => ?_)
  have hN : ∀ i : Nat, i < 3 → i < xn X := fun i h => hXn.symm ▸ h
  have R0 := fen_rm E
  show G X r0 0 0 μ 0 [(0, .ref (xa X 26 n0)), (1, .int p1), (2, .int p2)] [] (fX13_isFull n0 p1 p2 μ)
  unfold fX13_isFull
  refine g_jn (P := fun j13 => ∀ (μ1 : Mem) (a2 : Nat) (x4 : Int32) (x5 : Int32), a2 < 1 → G X r0 0 0 μ1 13 [(0, .ref (xa X 26 n0)), (1, .int p1), (2, .int p2)] [.int x5, .int x4, .ref (xa X 26 a2)] (j13 μ1 a2 x4 x5)) ?_ (fun j13 hj13 => ?_)
  · intro μ1 a2 x4 x5 b3
    refine g_jn (P := fun j29 => ∀ (μ6 : Mem) (x7 : Int32) (a8 : Nat) (x10 : Int32) (x11 : Int32), a8 < 1 → G X r0 0 0 μ6 29 [] [.int x11, .int x10, .ref (xa X 26 a8), .int x7] (j29 μ6 x7 a8 x10 x11)) ?_ (fun j29 hj29 => ?_)
    · intro μ6 x7 a8 x10 x11 b9
      refine g_jn (P := fun j40 => ∀ (μ12 : Mem) (x13 : Int32), G X r0 0 0 μ12 40 [] [.int x13] (j40 μ12 x13)) ?_ (fun j40 hj40 => ?_)
      · intro μ12 x13
        exact s_zret C E dX13_isFull_40
      refine s_callV C R0 (kX13_setting (xl X) a8 b9 x10 x11) (Nat.le_trans (by decide) V) mmX13_setting miX13_setting q2241 (rc26 (Nat.le_trans (by decide) V)) b9 rfl rfl rfl (Nat.le_of_ble_eq_true rfl) ⟨Nat.le_of_ble_eq_true rfl, Nat.le_of_ble_eq_true rfl, Nat.le_of_ble_eq_true rfl, Nat.le_of_ble_eq_true rfl⟩ dX13_isFull_29 (fun x15 μ14 => ?_)
      refine g_st (st' := [.int x15, .int x7]) rfl ?_
      refine s_icmp_lt (tgt := 39) C dX13_isFull_32 (by decide) (fun c16 => ?_) (fun c16 => ?_)
      ·
        refine s_iconst (v := (0 : Int32)) C dX13_isFull_39 (by decide) ?_
        exact g_sub [] rfl (hj40 μ14 (0 : Int32))
      ·
        refine s_iconst (v := (1 : Int32)) C dX13_isFull_35 (by decide) ?_
        refine s_goto (tgt := 40) C dX13_isFull_36 (by decide) ?_
        exact g_sub [] rfl (hj40 μ14 (1 : Int32))
    refine s_callV C R0 (kX13_of (xl X) a2 b3 x4 x5) (Nat.le_trans (by decide) V) mmX13_of miX13_of q2307 (rc26 (Nat.le_trans (by decide) V)) b3 rfl rfl rfl (Nat.le_of_ble_eq_true rfl) ⟨Nat.le_of_ble_eq_true rfl, Nat.le_of_ble_eq_true rfl, Nat.le_of_ble_eq_true rfl, Nat.le_of_ble_eq_true rfl⟩ dX13_isFull_13 (fun x18 μ17 => ?_)
    refine g_st (st' := [.int x18]) rfl ?_
    refine s_aload_n C dX13_isFull_16 rfl 0 rfl ?_
    refine s_iload_n C dX13_isFull_17 rfl 1 rfl ?_
    refine s_iload_n C dX13_isFull_18 rfl 2 rfl ?_
    refine s_if_eq (tgt := 27) C dX13_isFull_19 (by decide) (fun c19 => ?_) (fun c19 => ?_)
    ·
      refine s_bipush (v := (19 : Int32)) C dX13_isFull_27 (by decide) ?_
      exact g_sub [] rfl (hj29 μ17 x18 n0 p1 (19 : Int32) g0)
    ·
      refine s_bipush (v := (20 : Int32)) C dX13_isFull_22 (by decide) ?_
      refine s_goto (tgt := 29) C dX13_isFull_24 (by decide) ?_
      exact g_sub [] rfl (hj29 μ17 x18 n0 p1 (20 : Int32) g0)
  refine s_aload_n C dX13_isFull_0 rfl 0 rfl ?_
  refine s_iload_n C dX13_isFull_1 rfl 1 rfl ?_
  refine s_iload_n C dX13_isFull_2 rfl 2 rfl ?_
  refine s_if_eq (tgt := 11) C dX13_isFull_3 (by decide) (fun c20 => ?_) (fun c20 => ?_)
  ·
    refine s_bipush (v := (11 : Int32)) C dX13_isFull_11 (by decide) ?_
    exact g_sub [0, 1, 2] rfl (hj13 μ n0 p1 (11 : Int32) g0)
  ·
    refine s_bipush (v := (12 : Int32)) C dX13_isFull_6 (by decide) ?_
    refine s_goto (tgt := 13) C dX13_isFull_8 (by decide) ?_
    exact g_sub [0, 1, 2] rfl (hj13 μ n0 p1 (12 : Int32) g0)
/-! PinEnginesModel.append(IZI)V -/
def fX13_append (n0 : Nat) (p1 : Int32) (p2 : Int32) (p3 : Int32) (μ : Mem) : Option (Unit × Mem) :=
  jn (fun (μ1 : Mem) (x2 : Int32) =>
    jn (fun (μ3 : Mem) (x4 : Int32) (a5 : Nat) (x7 : Int32) (x8 : Int32) =>
      bnd (fX13_of n0 p1 x4 μ3) fun x10 μ9 =>
      bnd (fX13_set a5 x7 (x8 + x10) p3 μ9) fun _ μ11 =>
      bnd (fX13_add n0 p1 x4 (1 : Int32) μ11) fun _ μ12 =>
      some ((), μ12)
    ) fun j26 =>
    if p2 = 0 then (
      j26 μ1 x2 n0 p1 (13 : Int32)
    ) else (
      j26 μ1 x2 n0 p1 (21 : Int32)
    )
  ) fun j11 =>
  if p2 = 0 then (
    j11 μ (11 : Int32)
  ) else (
    j11 μ (12 : Int32)
  )
set_option maxHeartbeats 4000000 in
set_option maxRecDepth 100000 in
theorem kX13_append (l : Launch) (n0 : Nat) (g0 : n0 < 1) (p1 : Int32) (p2 : Int32) (p3 : Int32) : Kon 1 l yX13_append cX13_append 5 (none) 1 23 0 0 (fun ad => [.ref (ad 26 n0), .int p1, .int p2, .int p3]) rvV (fun μ => fX13_append n0 p1 p2 p3 μ) := by
  refine kon_of (by decide) (fun _ => Nat.le_of_ble_eq_true rfl) (fun X r0 μ hXl hXn V C E => ?_)
  have hN : ∀ i : Nat, i < 5 → i < xn X := fun i h => hXn.symm ▸ h
  have R0 := fen_rm E
  show G X r0 0 0 μ 0 [(0, .ref (xa X 26 n0)), (1, .int p1), (2, .int p2), (3, .int p3)] [] (fX13_append n0 p1 p2 p3 μ)
  unfold fX13_append
  refine g_jn (P := fun j11 => ∀ (μ1 : Mem) (x2 : Int32), G X r0 0 0 μ1 11 [(0, .ref (xa X 26 n0)), (1, .int p1), (2, .int p2), (3, .int p3)] [.int x2] (j11 μ1 x2)) ?_ (fun j11 hj11 => ?_)
  · intro μ1 x2
    refine g_jn (P := fun j26 => ∀ (μ3 : Mem) (x4 : Int32) (a5 : Nat) (x7 : Int32) (x8 : Int32), a5 < 1 → G X r0 0 0 μ3 26 [(0, .ref (xa X 26 n0)), (1, .int p1), (3, .int p3), (4, .int x4)] [.int x8, .int x7, .ref (xa X 26 a5)] (j26 μ3 x4 a5 x7 x8)) ?_ (fun j26 hj26 => ?_)
    · intro μ3 x4 a5 x7 x8 b6
      refine s_aload_n C dX13_append_26 rfl 0 rfl ?_
      refine s_iload_n C dX13_append_27 rfl 1 rfl ?_
      refine s_iload C dX13_append_28 3 rfl ?_
      refine s_callV C R0 (kX13_of (xl X) n0 g0 p1 x4) (Nat.le_trans (by decide) V) mmX13_of miX13_of q2307 (rc26 (Nat.le_trans (by decide) V)) g0 rfl rfl rfl (Nat.le_of_ble_eq_true rfl) ⟨Nat.le_of_ble_eq_true rfl, Nat.le_of_ble_eq_true rfl, Nat.le_of_ble_eq_true rfl, Nat.le_of_ble_eq_true rfl⟩ dX13_append_30 (fun x10 μ9 => ?_)
      refine g_st (st' := [.int x10, .int x8, .int x7, .ref (xa X 26 a5)]) rfl ?_
      refine s_iadd C dX13_append_33 ?_
      refine s_iload_n C dX13_append_34 rfl 2 rfl ?_
      refine s_callV C R0 (kX13_set (xl X) a5 b6 x7 (x8 + x10) p3) (Nat.le_trans (by decide) V) mmX13_set miX13_set q2383 (rc26 (Nat.le_trans (by decide) V)) b6 rfl rfl rfl (Nat.le_of_ble_eq_true rfl) ⟨Nat.le_of_ble_eq_true rfl, Nat.le_of_ble_eq_true rfl, Nat.le_of_ble_eq_true rfl, Nat.le_of_ble_eq_true rfl⟩ dX13_append_35 (fun _ μ11 => ?_)
      refine g_st (st' := []) rfl ?_
      refine s_aload_n C dX13_append_38 rfl 0 rfl ?_
      refine s_iload_n C dX13_append_39 rfl 1 rfl ?_
      refine s_iload C dX13_append_40 3 rfl ?_
      refine s_iconst (v := (1 : Int32)) C dX13_append_42 (by decide) ?_
      refine s_callV C R0 (kX13_add (xl X) n0 g0 p1 x4 (1 : Int32)) (Nat.le_trans (by decide) V) mmX13_add miX13_add q2387 (rc26 (Nat.le_trans (by decide) V)) g0 rfl rfl rfl (Nat.le_of_ble_eq_true rfl) ⟨Nat.le_of_ble_eq_true rfl, Nat.le_of_ble_eq_true rfl, Nat.le_of_ble_eq_true rfl, Nat.le_of_ble_eq_true rfl⟩ dX13_append_43 (fun _ μ12 => ?_)
      refine g_st (st' := []) rfl ?_
      exact s_vret C E dX13_append_46
    refine s_istore (L' := [(4, .int x2), (0, .ref (xa X 26 n0)), (1, .int p1), (2, .int p2), (3, .int p3)]) C dX13_append_11 (hN 4 (by decide)) rfl ?_
    refine s_aload_n C dX13_append_13 rfl 1 rfl ?_
    refine s_iload_n C dX13_append_14 rfl 2 rfl ?_
    refine s_iload_n C dX13_append_15 rfl 3 rfl ?_
    refine s_if_eq (tgt := 24) C dX13_append_16 (by decide) (fun c13 => ?_) (fun c13 => ?_)
    ·
      refine s_bipush (v := (13 : Int32)) C dX13_append_24 (by decide) ?_
      exact g_sub [1, 2, 4, 0] rfl (hj26 μ1 x2 n0 p1 (13 : Int32) g0)
    ·
      refine s_bipush (v := (21 : Int32)) C dX13_append_19 (by decide) ?_
      refine s_goto (tgt := 26) C dX13_append_21 (by decide) ?_
      exact g_sub [1, 2, 4, 0] rfl (hj26 μ1 x2 n0 p1 (21 : Int32) g0)
  refine s_iload_n C dX13_append_0 rfl 2 rfl ?_
  refine s_if_eq (tgt := 9) C dX13_append_1 (by decide) (fun c14 => ?_) (fun c14 => ?_)
  ·
    refine s_bipush (v := (11 : Int32)) C dX13_append_9 (by decide) ?_
    exact g_sub [0, 1, 2, 3] rfl (hj11 μ (11 : Int32))
  ·
    refine s_bipush (v := (12 : Int32)) C dX13_append_4 (by decide) ?_
    refine s_goto (tgt := 11) C dX13_append_6 (by decide) ?_
    exact g_sub [0, 1, 2, 3] rfl (hj11 μ (12 : Int32))
/-! PinEnginesModel.removeFirst(IZ)I -/
def fX13_removeFirst (fu : Nat) (n0 : Nat) (p1 : Int32) (p2 : Int32) (μ : Mem) : Option (Int32 × Mem) :=
  jn (fun (μ1 : Mem) (x2 : Int32) =>
    jn (fun (μ3 : Mem) (x4 : Int32) (x5 : Int32) =>
      jn (lp (fun _ _ _ _ => none) fu (fun j36 (μ6 : Mem) (x7 : Int32) (x8 : Int32) (x9 : Int32) =>
        bnd (fX13_of n0 p1 x7 μ6) fun x11 μ10 =>
        if x11 ≤ x9 then (
          bnd (fX13_add n0 p1 x7 (-1 : Int32) μ10) fun _ μ13 =>
          some (x8, μ13)
        ) else (
          bnd (fX13_of n0 p1 (x4 + x9) μ10) fun x15 μ14 =>
          bnd (fX13_set n0 p1 ((x4 + x9) - (1 : Int32)) x15 μ14) fun _ μ16 =>
          nm (x9 + (1 : Int32)) fun x17 =>
          j36 μ16 x7 x8 x17
        )
      )) fun j36 =>
      bnd (fX13_of n0 p1 x4 μ3) fun x19 μ18 =>
      j36 μ18 x5 x19 (1 : Int32)
    ) fun j23 =>
    if p2 = 0 then (
      j23 μ1 x2 (11 : Int32)
    ) else (
      j23 μ1 x2 (12 : Int32)
    )
  ) fun j11 =>
  if p2 = 0 then (
    j11 μ (13 : Int32)
  ) else (
    j11 μ (21 : Int32)
  )
set_option maxHeartbeats 4000000 in
set_option maxRecDepth 100000 in
theorem kX13_removeFirst (l : Launch) (fu : Nat) (n0 : Nat) (g0 : n0 < 1) (p1 : Int32) (p2 : Int32) : Kon 1 l yX13_removeFirst cX13_removeFirst 7 (some .int) 1 23 0 0 (fun ad => [.ref (ad 26 n0), .int p1, .int p2]) rvI (fun μ => fX13_removeFirst fu n0 p1 p2 μ) := by
  refine kon_of (by decide) (fun _ => Nat.le_of_ble_eq_true rfl) (fun X r0 μ hXl hXn V C E => ?_)
  have hN : ∀ i : Nat, i < 7 → i < xn X := fun i h => hXn.symm ▸ h
  have R0 := fen_rm E
  show G X r0 0 0 μ 0 [(0, .ref (xa X 26 n0)), (1, .int p1), (2, .int p2)] [] (fX13_removeFirst fu n0 p1 p2 μ)
  unfold fX13_removeFirst
  refine g_jn (P := fun j11 => ∀ (μ1 : Mem) (x2 : Int32), G X r0 0 0 μ1 11 [(0, .ref (xa X 26 n0)), (1, .int p1), (2, .int p2)] [.int x2] (j11 μ1 x2)) ?_ (fun j11 hj11 => ?_)
  · intro μ1 x2
    refine g_jn (P := fun j23 => ∀ (μ3 : Mem) (x4 : Int32) (x5 : Int32), G X r0 0 0 μ3 23 [(0, .ref (xa X 26 n0)), (1, .int p1), (3, .int x4)] [.int x5] (j23 μ3 x4 x5)) ?_ (fun j23 hj23 => ?_)
    · intro μ3 x4 x5
      refine g_jl (P := fun j36 => ∀ (μ6 : Mem) (x7 : Int32) (x8 : Int32) (x9 : Int32), G X r0 0 0 μ6 36 [(0, .ref (xa X 26 n0)), (1, .int p1), (3, .int x4), (4, .int x7), (5, .int x8), (6, .int x9)] [] (j36 μ6 x7 x8 x9)) (fun _ _ _ _ => g_none) (fun j36 hj36 => ?_) (fun j36 hj36 => ?_)
      · intro μ6 x7 x8 x9
        refine s_iload C dX13_removeFirst_36 5 rfl ?_
        refine s_aload_n C dX13_removeFirst_38 rfl 0 rfl ?_
        refine s_iload_n C dX13_removeFirst_39 rfl 1 rfl ?_
        refine s_iload C dX13_removeFirst_40 3 rfl ?_
        refine s_callV C R0 (kX13_of (xl X) n0 g0 p1 x7) (Nat.le_trans (by decide) V) mmX13_of miX13_of q2307 (rc26 (Nat.le_trans (by decide) V)) g0 rfl rfl rfl (Nat.le_of_ble_eq_true rfl) ⟨Nat.le_of_ble_eq_true rfl, Nat.le_of_ble_eq_true rfl, Nat.le_of_ble_eq_true rfl, Nat.le_of_ble_eq_true rfl⟩ dX13_removeFirst_42 (fun x11 μ10 => ?_)
        refine g_st (st' := [.int x11, .int x9]) rfl ?_
        refine s_icmp_ge (tgt := 74) C dX13_removeFirst_45 (by decide) (fun c12 => ?_) (fun c12 => ?_)
        ·
          refine s_aload_n C dX13_removeFirst_74 rfl 0 rfl ?_
          refine s_iload_n C dX13_removeFirst_75 rfl 1 rfl ?_
          refine s_iload C dX13_removeFirst_76 3 rfl ?_
          refine s_iconst (v := (-1 : Int32)) C dX13_removeFirst_78 (by decide) ?_
          refine s_callV C R0 (kX13_add (xl X) n0 g0 p1 x7 (-1 : Int32)) (Nat.le_trans (by decide) V) mmX13_add miX13_add q2387 (rc26 (Nat.le_trans (by decide) V)) g0 rfl rfl rfl (Nat.le_of_ble_eq_true rfl) ⟨Nat.le_of_ble_eq_true rfl, Nat.le_of_ble_eq_true rfl, Nat.le_of_ble_eq_true rfl, Nat.le_of_ble_eq_true rfl⟩ dX13_removeFirst_79 (fun _ μ13 => ?_)
          refine g_st (st' := []) rfl ?_
          refine s_iload C dX13_removeFirst_82 4 rfl ?_
          exact s_iret C E dX13_removeFirst_84
        ·
          refine s_aload_n C dX13_removeFirst_48 rfl 0 rfl ?_
          refine s_iload_n C dX13_removeFirst_49 rfl 1 rfl ?_
          refine s_iload_n C dX13_removeFirst_50 rfl 2 rfl ?_
          refine s_iload C dX13_removeFirst_51 5 rfl ?_
          refine s_iadd C dX13_removeFirst_53 ?_
          refine s_iconst (v := (1 : Int32)) C dX13_removeFirst_54 (by decide) ?_
          refine s_isub C dX13_removeFirst_55 ?_
          refine s_aload_n C dX13_removeFirst_56 rfl 0 rfl ?_
          refine s_iload_n C dX13_removeFirst_57 rfl 1 rfl ?_
          refine s_iload_n C dX13_removeFirst_58 rfl 2 rfl ?_
          refine s_iload C dX13_removeFirst_59 5 rfl ?_
          refine s_iadd C dX13_removeFirst_61 ?_
          refine s_callV C R0 (kX13_of (xl X) n0 g0 p1 (x4 + x9)) (Nat.le_trans (by decide) V) mmX13_of miX13_of q2307 (rc26 (Nat.le_trans (by decide) V)) g0 rfl rfl rfl (Nat.le_of_ble_eq_true rfl) ⟨Nat.le_of_ble_eq_true rfl, Nat.le_of_ble_eq_true rfl, Nat.le_of_ble_eq_true rfl, Nat.le_of_ble_eq_true rfl⟩ dX13_removeFirst_62 (fun x15 μ14 => ?_)
          refine g_st (st' := [.int x15, .int ((x4 + x9) - (1 : Int32)), .int p1, .ref (xa X 26 n0)]) rfl ?_
          refine s_callV C R0 (kX13_set (xl X) n0 g0 p1 ((x4 + x9) - (1 : Int32)) x15) (Nat.le_trans (by decide) V) mmX13_set miX13_set q2383 (rc26 (Nat.le_trans (by decide) V)) g0 rfl rfl rfl (Nat.le_of_ble_eq_true rfl) ⟨Nat.le_of_ble_eq_true rfl, Nat.le_of_ble_eq_true rfl, Nat.le_of_ble_eq_true rfl, Nat.le_of_ble_eq_true rfl⟩ dX13_removeFirst_65 (fun _ μ16 => ?_)
          refine g_st (st' := []) rfl ?_
          refine g_nmQ (fun x17 ex17 => ?_)
          refine s_iinc (v := x17) (j := 5) (L' := [(6, .int x17), (0, .ref (xa X 26 n0)), (1, .int p1), (3, .int x4), (4, .int x7), (5, .int x8)]) C dX13_removeFirst_68 rfl (by rw [ex17]; rfl) (hN 6 (by decide)) rfl ?_
          refine s_goto (tgt := 36) C dX13_removeFirst_71 (by decide) ?_
          exact g_sub [1, 2, 3, 4, 5, 0] rfl (hj36 μ16 x7 x8 x17)
      refine s_istore (L' := [(4, .int x5), (0, .ref (xa X 26 n0)), (1, .int p1), (3, .int x4)]) C dX13_removeFirst_23 (hN 4 (by decide)) rfl ?_
      refine s_aload_n C dX13_removeFirst_25 rfl 1 rfl ?_
      refine s_iload_n C dX13_removeFirst_26 rfl 2 rfl ?_
      refine s_iload_n C dX13_removeFirst_27 rfl 3 rfl ?_
      refine s_callV C R0 (kX13_of (xl X) n0 g0 p1 x4) (Nat.le_trans (by decide) V) mmX13_of miX13_of q2307 (rc26 (Nat.le_trans (by decide) V)) g0 rfl rfl rfl (Nat.le_of_ble_eq_true rfl) ⟨Nat.le_of_ble_eq_true rfl, Nat.le_of_ble_eq_true rfl, Nat.le_of_ble_eq_true rfl, Nat.le_of_ble_eq_true rfl⟩ dX13_removeFirst_28 (fun x19 μ18 => ?_)
      refine g_st (st' := [.int x19]) rfl ?_
      refine s_istore (L' := [(5, .int x19), (4, .int x5), (0, .ref (xa X 26 n0)), (1, .int p1), (3, .int x4)]) C dX13_removeFirst_31 (hN 5 (by decide)) rfl ?_
      refine s_iconst (v := (1 : Int32)) C dX13_removeFirst_33 (by decide) ?_
      refine s_istore (L' := [(6, .int (1 : Int32)), (5, .int x19), (4, .int x5), (0, .ref (xa X 26 n0)), (1, .int p1), (3, .int x4)]) C dX13_removeFirst_34 (hN 6 (by decide)) rfl ?_
      exact g_sub [3, 4, 5, 2, 1, 0] rfl (hj36 μ18 x5 x19 (1 : Int32))
    refine s_istore_n (L' := [(3, .int x2), (0, .ref (xa X 26 n0)), (1, .int p1), (2, .int p2)]) C dX13_removeFirst_11 rfl (hN 3 (by decide)) rfl ?_
    refine s_iload_n C dX13_removeFirst_12 rfl 3 rfl ?_
    refine s_if_eq (tgt := 21) C dX13_removeFirst_13 (by decide) (fun c20 => ?_) (fun c20 => ?_)
    ·
      refine s_bipush (v := (11 : Int32)) C dX13_removeFirst_21 (by decide) ?_
      exact g_sub [1, 2, 0] rfl (hj23 μ1 x2 (11 : Int32))
    ·
      refine s_bipush (v := (12 : Int32)) C dX13_removeFirst_16 (by decide) ?_
      refine s_goto (tgt := 23) C dX13_removeFirst_18 (by decide) ?_
      exact g_sub [1, 2, 0] rfl (hj23 μ1 x2 (12 : Int32))
  refine s_iload_n C dX13_removeFirst_0 rfl 2 rfl ?_
  refine s_if_eq (tgt := 9) C dX13_removeFirst_1 (by decide) (fun c21 => ?_) (fun c21 => ?_)
  ·
    refine s_bipush (v := (13 : Int32)) C dX13_removeFirst_9 (by decide) ?_
    exact g_sub [0, 1, 2] rfl (hj11 μ (13 : Int32))
  ·
    refine s_bipush (v := (21 : Int32)) C dX13_removeFirst_4 (by decide) ?_
    refine s_goto (tgt := 11) C dX13_removeFirst_6 (by decide) ?_
    exact g_sub [0, 1, 2] rfl (hj11 μ (21 : Int32))
/-! PinEnginesModel.applyScheduled()V -/
def fX13_applyScheduled (fu : Nat) (n0 : Nat) (μ : Mem) : Option (Unit × Mem) :=
  jn (lp (fun _ _ _ => none) fu (fun j4 (μ1 : Mem) (x2 : Int32) (x3 : Int32) =>
    ckI (3 : Int32) (if 0 = 4 then 7000 else 700) <|
    if (μ1.1 27 0 (3 : Int32).toNatClampNeg) ≤ x3 then (
      ckI (3 : Int32) (if 0 = 4 then 7000 else 700) <|
      nm (wI μ1 27 0 (3 : Int32).toNatClampNeg x2) fun μ5 =>
      some ((), μ5)
    ) else (
      jn (fun (μ6 : Mem) (x7 : Int32) (x8 : Int32) =>
        nm (x8 + (1 : Int32)) fun x9 =>
        j4 μ6 x7 x9
      ) fun j101 =>
      nm (((124 : Int32) + ((3 : Int32) * x3))) fun x10 =>
      ckI x10 (if 0 = 4 then 7000 else 700) <|
      ckI (1 : Int32) (if 0 = 4 then 7000 else 700) <|
      if ¬ (μ1.1 27 0 x10.toNatClampNeg) = (μ1.1 27 0 (1 : Int32).toNatClampNeg) then (
        jn (lp (fun _ _ _ => none) fu (fun j63 (μ12 : Mem) (x13 : Int32) (x14 : Int32) =>
          if (3 : Int32) ≤ x14 then (
            nm (x13 + (1 : Int32)) fun x16 =>
            j101 μ12 x16 x3
          ) else (
            ckI (x10 + x14) (if 0 = 4 then 7000 else 700) <|
            ckI (((124 : Int32) + ((3 : Int32) * x13)) + x14) (if 0 = 4 then 7000 else 700) <|
            nm (wI μ12 27 0 (((124 : Int32) + ((3 : Int32) * x13)) + x14).toNatClampNeg (μ12.1 27 0 (x10 + x14).toNatClampNeg)) fun μ17 =>
            nm (x14 + (1 : Int32)) fun x18 =>
            j63 μ17 x13 x18
          )
        )) fun j63 =>
        j63 μ1 x2 (0 : Int32)
      ) else (
        ckI (x10 + (1 : Int32)) (if 0 = 4 then 7000 else 700) <|
        ckI (x10 + (2 : Int32)) (if 0 = 4 then 7000 else 700) <|
        bnd (fX13_putPin n0 (μ1.1 27 0 (x10 + (1 : Int32)).toNatClampNeg) (2 : Int32) (μ1.1 27 0 (x10 + (2 : Int32)).toNatClampNeg) μ1) fun _ μ19 =>
        j101 μ19 x2 x3
      )
    )
  )) fun j4 =>
  j4 μ (0 : Int32) (0 : Int32)
set_option maxHeartbeats 4000000 in
set_option maxRecDepth 100000 in
theorem kX13_applyScheduled (l : Launch) (fu : Nat) (n0 : Nat) (g0 : n0 < 1) : Kon 1 l yX13_applyScheduled cX13_applyScheduled 5 (none) 1 23 0 0 (fun ad => [.ref (ad 26 n0)]) rvV (fun μ => fX13_applyScheduled fu n0 μ) := by
  refine kon_of (by decide) (fun _ => Nat.le_of_ble_eq_true rfl) (fun X r0 μ hXl hXn V C E => ?_)
  have hN : ∀ i : Nat, i < 5 → i < xn X := fun i h => hXn.symm ▸ h
  have R0 := fen_rm E
  show G X r0 0 0 μ 0 [(0, .ref (xa X 26 n0))] [] (fX13_applyScheduled fu n0 μ)
  unfold fX13_applyScheduled
  refine g_jl (P := fun j4 => ∀ (μ1 : Mem) (x2 : Int32) (x3 : Int32), G X r0 0 0 μ1 4 [(0, .ref (xa X 26 n0)), (1, .int x2), (2, .int x3)] [] (j4 μ1 x2 x3)) (fun _ _ _ => g_none) (fun j4 hj4 => ?_) (fun j4 hj4 => ?_)
  · intro μ1 x2 x3
    refine s_iload_n C dX13_applyScheduled_4 rfl 2 rfl ?_
    refine s_aload_n C dX13_applyScheduled_5 rfl 0 rfl ?_
    refine s_getF C (fgX13_9_26 (Nat.le_trans (by decide) V)) g0 dX13_applyScheduled_6 ?_
    refine s_iconst (v := (3 : Int32)) C dX13_applyScheduled_9 (by decide) ?_
    refine s_iald C (ag27 (Nat.le_trans (by decide) V)) (by decide) dX13_applyScheduled_10 ?_
    refine s_icmp_ge (tgt := 107) C dX13_applyScheduled_11 (by decide) (fun c4 => ?_) (fun c4 => ?_)
    ·
      refine s_aload_n C dX13_applyScheduled_107 rfl 0 rfl ?_
      refine s_getF C (fgX13_9_26 (Nat.le_trans (by decide) V)) g0 dX13_applyScheduled_108 ?_
      refine s_iconst (v := (3 : Int32)) C dX13_applyScheduled_111 (by decide) ?_
      refine s_iload_n C dX13_applyScheduled_112 rfl 1 rfl ?_
      refine s_iast C (ag27 (Nat.le_trans (by decide) V)) (by decide) dX13_applyScheduled_113 ?_
      refine g_nmM (fun μ5 => ?_)
      exact s_vret C E dX13_applyScheduled_114
    ·
      refine g_jn (P := fun j101 => ∀ (μ6 : Mem) (x7 : Int32) (x8 : Int32), G X r0 0 0 μ6 101 [(0, .ref (xa X 26 n0)), (1, .int x7), (2, .int x8)] [] (j101 μ6 x7 x8)) ?_ (fun j101 hj101 => ?_)
      · intro μ6 x7 x8
        refine g_nmQ (fun x9 ex9 => ?_)
        refine s_iinc (v := x9) (j := 2) (L' := [(2, .int x9), (0, .ref (xa X 26 n0)), (1, .int x7)]) C dX13_applyScheduled_101 rfl (by rw [ex9]; rfl) (hN 2 (by decide)) rfl ?_
        refine s_goto (tgt := 4) C dX13_applyScheduled_104 (by decide) ?_
        exact g_sub [1, 2, 0] rfl (hj4 μ6 x7 x9)
      refine s_bipush (v := (124 : Int32)) C dX13_applyScheduled_14 (by decide) ?_
      refine s_iconst (v := (3 : Int32)) C dX13_applyScheduled_16 (by decide) ?_
      refine s_iload_n C dX13_applyScheduled_17 rfl 2 rfl ?_
      refine s_imul C dX13_applyScheduled_18 ?_
      refine s_iadd C dX13_applyScheduled_19 ?_
      refine g_nmI (fun x10 => ?_)
      refine s_istore_n (L' := [(3, .int x10), (0, .ref (xa X 26 n0)), (1, .int x2), (2, .int x3)]) C dX13_applyScheduled_20 rfl (hN 3 (by decide)) rfl ?_
      refine s_aload_n C dX13_applyScheduled_21 rfl 1 rfl ?_
      refine s_getF C (fgX13_9_26 (Nat.le_trans (by decide) V)) g0 dX13_applyScheduled_22 ?_
      refine s_iload_n C dX13_applyScheduled_25 rfl 0 rfl ?_
      refine s_iald C (ag27 (Nat.le_trans (by decide) V)) (by decide) dX13_applyScheduled_26 ?_
      refine s_aload_n C dX13_applyScheduled_27 rfl 1 rfl ?_
      refine s_getF C (fgX13_9_26 (Nat.le_trans (by decide) V)) g0 dX13_applyScheduled_28 ?_
      refine s_iconst (v := (1 : Int32)) C dX13_applyScheduled_31 (by decide) ?_
      refine s_iald C (ag27 (Nat.le_trans (by decide) V)) (by decide) dX13_applyScheduled_32 ?_
      refine s_icmp_ne (tgt := 60) C dX13_applyScheduled_33 (by decide) (fun c11 => ?_) (fun c11 => ?_)
      ·
        refine g_jl (P := fun j63 => ∀ (μ12 : Mem) (x13 : Int32) (x14 : Int32), G X r0 0 0 μ12 63 [(0, .ref (xa X 26 n0)), (1, .int x13), (2, .int x3), (3, .int x10), (4, .int x14)] [] (j63 μ12 x13 x14)) (fun _ _ _ => g_none) (fun j63 hj63 => ?_) (fun j63 hj63 => ?_)
        · intro μ12 x13 x14
          refine s_iload C dX13_applyScheduled_63 4 rfl ?_
          refine s_iconst (v := (3 : Int32)) C dX13_applyScheduled_65 (by decide) ?_
          refine s_icmp_ge (tgt := 98) C dX13_applyScheduled_66 (by decide) (fun c15 => ?_) (fun c15 => ?_)
          ·
            refine g_nmQ (fun x16 ex16 => ?_)
            refine s_iinc (v := x16) (j := 1) (L' := [(1, .int x16), (0, .ref (xa X 26 n0)), (2, .int x3), (3, .int x10), (4, .int x14)]) C dX13_applyScheduled_98 rfl (by rw [ex16]; rfl) (hN 1 (by decide)) rfl ?_
            exact g_sub [1, 0, 2] rfl (hj101 μ12 x16 x3)
          ·
            refine s_aload_n C dX13_applyScheduled_69 rfl 0 rfl ?_
            refine s_getF C (fgX13_9_26 (Nat.le_trans (by decide) V)) g0 dX13_applyScheduled_70 ?_
            refine s_bipush (v := (124 : Int32)) C dX13_applyScheduled_73 (by decide) ?_
            refine s_iconst (v := (3 : Int32)) C dX13_applyScheduled_75 (by decide) ?_
            refine s_iload_n C dX13_applyScheduled_76 rfl 1 rfl ?_
            refine s_imul C dX13_applyScheduled_77 ?_
            refine s_iadd C dX13_applyScheduled_78 ?_
            refine s_iload C dX13_applyScheduled_79 4 rfl ?_
            refine s_iadd C dX13_applyScheduled_81 ?_
            refine s_aload_n C dX13_applyScheduled_82 rfl 0 rfl ?_
            refine s_getF C (fgX13_9_26 (Nat.le_trans (by decide) V)) g0 dX13_applyScheduled_83 ?_
            refine s_iload_n C dX13_applyScheduled_86 rfl 3 rfl ?_
            refine s_iload C dX13_applyScheduled_87 4 rfl ?_
            refine s_iadd C dX13_applyScheduled_89 ?_
            refine s_iald C (ag27 (Nat.le_trans (by decide) V)) (by decide) dX13_applyScheduled_90 ?_
            refine s_iast C (ag27 (Nat.le_trans (by decide) V)) (by decide) dX13_applyScheduled_91 ?_
            refine g_nmM (fun μ17 => ?_)
            refine g_nmQ (fun x18 ex18 => ?_)
            refine s_iinc (v := x18) (j := 4) (L' := [(4, .int x18), (0, .ref (xa X 26 n0)), (1, .int x13), (2, .int x3), (3, .int x10)]) C dX13_applyScheduled_92 rfl (by rw [ex18]; rfl) (hN 4 (by decide)) rfl ?_
            refine s_goto (tgt := 63) C dX13_applyScheduled_95 (by decide) ?_
            exact g_sub [1, 2, 3, 4, 0] rfl (hj63 μ17 x13 x18)
        refine s_iconst (v := (0 : Int32)) C dX13_applyScheduled_60 (by decide) ?_
        refine s_istore (L' := [(4, .int (0 : Int32)), (3, .int x10), (0, .ref (xa X 26 n0)), (1, .int x2), (2, .int x3)]) C dX13_applyScheduled_61 (hN 4 (by decide)) rfl ?_
        exact g_sub [2, 3, 4, 1, 0] rfl (hj63 μ1 x2 (0 : Int32))
      ·
        refine s_aload_n C dX13_applyScheduled_36 rfl 1 rfl ?_
        refine s_aload_n C dX13_applyScheduled_37 rfl 1 rfl ?_
        refine s_getF C (fgX13_9_26 (Nat.le_trans (by decide) V)) g0 dX13_applyScheduled_38 ?_
        refine s_iload_n C dX13_applyScheduled_41 rfl 0 rfl ?_
        refine s_iconst (v := (1 : Int32)) C dX13_applyScheduled_42 (by decide) ?_
        refine s_iadd C dX13_applyScheduled_43 ?_
        refine s_iald C (ag27 (Nat.le_trans (by decide) V)) (by decide) dX13_applyScheduled_44 ?_
        refine s_iconst (v := (2 : Int32)) C dX13_applyScheduled_45 (by decide) ?_
        refine s_aload_n C dX13_applyScheduled_46 rfl 1 rfl ?_
        refine s_getF C (fgX13_9_26 (Nat.le_trans (by decide) V)) g0 dX13_applyScheduled_47 ?_
        refine s_iload_n C dX13_applyScheduled_50 rfl 0 rfl ?_
        refine s_iconst (v := (2 : Int32)) C dX13_applyScheduled_51 (by decide) ?_
        refine s_iadd C dX13_applyScheduled_52 ?_
        refine s_iald C (ag27 (Nat.le_trans (by decide) V)) (by decide) dX13_applyScheduled_53 ?_
        refine s_callV C R0 (kX13_putPin (xl X) n0 g0 (μ1.1 27 0 (x10 + (1 : Int32)).toNatClampNeg) (2 : Int32) (μ1.1 27 0 (x10 + (2 : Int32)).toNatClampNeg)) (Nat.le_trans (by decide) V) mmX13_putPin miX13_putPin q2416 (rc26 (Nat.le_trans (by decide) V)) g0 rfl rfl rfl (Nat.le_of_ble_eq_true rfl) ⟨Nat.le_of_ble_eq_true rfl, Nat.le_of_ble_eq_true rfl, Nat.le_of_ble_eq_true rfl, Nat.le_of_ble_eq_true rfl⟩ dX13_applyScheduled_54 (fun _ μ19 => ?_)
        refine g_st (st' := []) rfl ?_
        refine s_goto (tgt := 101) C dX13_applyScheduled_57 (by decide) ?_
        exact g_sub [1, 2, 3] rfl (hj101 μ19 x2 x3)
  refine s_iconst (v := (0 : Int32)) C dX13_applyScheduled_0 (by decide) ?_
  refine s_istore_n (L' := [(1, .int (0 : Int32)), (0, .ref (xa X 26 n0))]) C dX13_applyScheduled_1 rfl (hN 1 (by decide)) rfl ?_
  refine s_iconst (v := (0 : Int32)) C dX13_applyScheduled_2 (by decide) ?_
  refine s_istore_n (L' := [(2, .int (0 : Int32)), (1, .int (0 : Int32)), (0, .ref (xa X 26 n0))]) C dX13_applyScheduled_3 rfl (hN 2 (by decide)) rfl ?_
  exact g_sub [2, 1, 0] rfl (hj4 μ (0 : Int32) (0 : Int32))
/-! PinEnginesModel.readAll()V -/
def fX13_readAll (fu : Nat) (n0 : Nat) (μ : Mem) : Option (Unit × Mem) :=
  jn (lp (fun _ _ => none) fu (fun j2 (μ1 : Mem) (x2 : Int32) =>
    if (16 : Int32) ≤ x2 then (
      jn (lp (fun _ _ => none) fu (fun j27 (μ4 : Mem) (x5 : Int32) =>
        if (8 : Int32) ≤ x5 then (
          nm (wI μ4 26 n0 16 (0 : Int32)) fun μ7 =>
          nm (wI μ7 26 n0 17 (0 : Int32)) fun μ8 =>
          some ((), μ8)
        ) else (
          ckI ((100 : Int32) + x5) (if 0 = 4 then 7000 else 700) <|
          ckI x5 (mil.getD 1 0) <|
          nm (wI μ4 28 1 x5.toNatClampNeg (μ4.1 27 0 ((100 : Int32) + x5).toNatClampNeg)) fun μ9 =>
          nm (x5 + (1 : Int32)) fun x10 =>
          j27 μ9 x10
        )
      )) fun j27 =>
      j27 μ1 (0 : Int32)
    ) else (
      bnd (fX13_levelOf n0 x2 μ1) fun x12 μ11 =>
      ckI x2 (mil.getD 0 0) <|
      nm (wI μ11 28 0 x2.toNatClampNeg x12) fun μ13 =>
      nm (x2 + (1 : Int32)) fun x14 =>
      j2 μ13 x14
    )
  )) fun j2 =>
  j2 μ (0 : Int32)
set_option maxHeartbeats 4000000 in
set_option maxRecDepth 100000 in
theorem kX13_readAll (l : Launch) (fu : Nat) (n0 : Nat) (g0 : n0 < 1) : Kon 1 l yX13_readAll cX13_readAll 2 (none) 2 43 0 0 (fun ad => [.ref (ad 26 n0)]) rvV (fun μ => fX13_readAll fu n0 μ) := by
  refine kon_of (by decide) (fun _ => Nat.le_of_ble_eq_true rfl) (fun X r0 μ hXl hXn V C E => ?_)
  have hN : ∀ i : Nat, i < 2 → i < xn X := fun i h => hXn.symm ▸ h
  have R0 := fen_rm E
  show G X r0 0 0 μ 0 [(0, .ref (xa X 26 n0))] [] (fX13_readAll fu n0 μ)
  unfold fX13_readAll
  refine g_jl (P := fun j2 => ∀ (μ1 : Mem) (x2 : Int32), G X r0 0 0 μ1 2 [(0, .ref (xa X 26 n0)), (1, .int x2)] [] (j2 μ1 x2)) (fun _ _ => g_none) (fun j2 hj2 => ?_) (fun j2 hj2 => ?_)
  · intro μ1 x2
    refine s_iload_n C dX13_readAll_2 rfl 1 rfl ?_
    refine s_bipush (v := (16 : Int32)) C dX13_readAll_3 (by decide) ?_
    refine s_icmp_ge (tgt := 25) C dX13_readAll_5 (by decide) (fun c3 => ?_) (fun c3 => ?_)
    ·
      refine g_jl (P := fun j27 => ∀ (μ4 : Mem) (x5 : Int32), G X r0 0 0 μ4 27 [(0, .ref (xa X 26 n0)), (1, .int x5)] [] (j27 μ4 x5)) (fun _ _ => g_none) (fun j27 hj27 => ?_) (fun j27 hj27 => ?_)
      · intro μ4 x5
        refine s_iload_n C dX13_readAll_27 rfl 1 rfl ?_
        refine s_bipush (v := (8 : Int32)) C dX13_readAll_28 (by decide) ?_
        refine s_icmp_ge (tgt := 54) C dX13_readAll_30 (by decide) (fun c6 => ?_) (fun c6 => ?_)
        ·
          refine s_aload_n C dX13_readAll_54 rfl 0 rfl ?_
          refine s_iconst (v := (0 : Int32)) C dX13_readAll_55 (by decide) ?_
          refine s_putI C (fpX13_287_26 (Nat.le_trans (by decide) V)) g0 dX13_readAll_56 ?_
          refine g_nmM (fun μ7 => ?_)
          refine s_aload_n C dX13_readAll_59 rfl 0 rfl ?_
          refine s_iconst (v := (0 : Int32)) C dX13_readAll_60 (by decide) ?_
          refine s_putI C (fpX13_290_26 (Nat.le_trans (by decide) V)) g0 dX13_readAll_61 ?_
          refine g_nmM (fun μ8 => ?_)
          exact s_vret C E dX13_readAll_64
        ·
          refine s_aload_n C dX13_readAll_33 rfl 0 rfl ?_
          refine s_getF C (fgX13_28_26 (Nat.le_trans (by decide) V)) g0 dX13_readAll_34 ?_
          refine s_iload_n C dX13_readAll_37 rfl 1 rfl ?_
          refine s_aload_n C dX13_readAll_38 rfl 0 rfl ?_
          refine s_getF C (fgX13_9_26 (Nat.le_trans (by decide) V)) g0 dX13_readAll_39 ?_
          refine s_bipush (v := (100 : Int32)) C dX13_readAll_42 (by decide) ?_
          refine s_iload_n C dX13_readAll_44 rfl 1 rfl ?_
          refine s_iadd C dX13_readAll_45 ?_
          refine s_iald C (ag27 (Nat.le_trans (by decide) V)) (by decide) dX13_readAll_46 ?_
          refine s_iast C (ag28 (Nat.le_trans (by decide) V)) (by decide) dX13_readAll_47 ?_
          refine g_nmM (fun μ9 => ?_)
          refine g_nmQ (fun x10 ex10 => ?_)
          refine s_iinc (v := x10) (j := 1) (L' := [(1, .int x10), (0, .ref (xa X 26 n0))]) C dX13_readAll_48 rfl (by rw [ex10]; rfl) (hN 1 (by decide)) rfl ?_
          refine s_goto (tgt := 27) C dX13_readAll_51 (by decide) ?_
          exact g_sub [1, 0] rfl (hj27 μ9 x10)
      refine s_iconst (v := (0 : Int32)) C dX13_readAll_25 (by decide) ?_
      refine s_istore_n (L' := [(1, .int (0 : Int32)), (0, .ref (xa X 26 n0))]) C dX13_readAll_26 rfl (hN 1 (by decide)) rfl ?_
      exact g_sub [1, 0] rfl (hj27 μ1 (0 : Int32))
    ·
      refine s_aload_n C dX13_readAll_8 rfl 0 rfl ?_
      refine s_getF C (fgX13_25_26 (Nat.le_trans (by decide) V)) g0 dX13_readAll_9 ?_
      refine s_iload_n C dX13_readAll_12 rfl 1 rfl ?_
      refine s_aload_n C dX13_readAll_13 rfl 0 rfl ?_
      refine s_iload_n C dX13_readAll_14 rfl 1 rfl ?_
      refine s_callV C R0 (kX13_levelOf (xl X) n0 g0 x2) (Nat.le_trans (by decide) V) mmX13_levelOf miX13_levelOf q2263 (rc26 (Nat.le_trans (by decide) V)) g0 rfl rfl rfl (Nat.le_of_ble_eq_true rfl) ⟨Nat.le_of_ble_eq_true rfl, Nat.le_of_ble_eq_true rfl, Nat.le_of_ble_eq_true rfl, Nat.le_of_ble_eq_true rfl⟩ dX13_readAll_15 (fun x12 μ11 => ?_)
      refine g_st (st' := [.int x12, .int x2, .ref (xa X 28 0)]) rfl ?_
      refine s_iast C (ag28 (Nat.le_trans (by decide) V)) (by decide) dX13_readAll_18 ?_
      refine g_nmM (fun μ13 => ?_)
      refine g_nmQ (fun x14 ex14 => ?_)
      refine s_iinc (v := x14) (j := 1) (L' := [(1, .int x14), (0, .ref (xa X 26 n0))]) C dX13_readAll_19 rfl (by rw [ex14]; rfl) (hN 1 (by decide)) rfl ?_
      refine s_goto (tgt := 2) C dX13_readAll_22 (by decide) ?_
      exact g_sub [1, 0] rfl (hj2 μ13 x14)
  refine s_iconst (v := (0 : Int32)) C dX13_readAll_0 (by decide) ?_
  refine s_istore_n (L' := [(1, .int (0 : Int32)), (0, .ref (xa X 26 n0))]) C dX13_readAll_1 rfl (hN 1 (by decide)) rfl ?_
  exact g_sub [1, 0] rfl (hj2 μ (0 : Int32))
/-! PinEnginesModel.countOn(I)V -/
def fX13_countOn (n0 : Nat) (p1 : Int32) (μ : Mem) : Option (Unit × Mem) :=
  jn (fun (μ1 : Mem) =>
    some ((), μ1)
  ) fun j39 =>
  ckI p1 (4) <|
  nm (wI μ 29 0 p1.toNatClampNeg (vp_nar .boolean (0 : Int32))) fun μ2 =>
  ckI p1 (mil.getD 2 0) <|
  nm (wI μ2 28 2 p1.toNatClampNeg (-1 : Int32)) fun μ3 =>
  ckI p1 (mil.getD 6 0) <|
  nm (wI μ3 28 6 p1.toNatClampNeg (-1 : Int32)) fun μ4 =>
  bnd (fX13_setting n0 p1 (0 : Int32) μ4) fun x6 μ5 =>
  if x6 = 0 then (
    j39 μ5
  ) else (
    bnd (fX13_of n0 p1 (0 : Int32) μ5) fun x9 μ8 =>
    if ¬ x9 = 0 then (
      jn (fun (μ11 : Mem) (x12 : Int32) (a13 : Nat) (x15 : Int32) (x16 : Int32) =>
        jn (fun (μ17 : Mem) (a18 : Nat) (x20 : Int32) (x21 : Int32) (x22 : Int32) =>
          bnd (fX13_set a18 x20 x21 x22 μ17) fun _ μ23 =>
          some ((), μ23)
        ) fun j98 =>
        ckI x15 (4) <|
        nm (wI μ11 29 a13 x15.toNatClampNeg (vp_nar .boolean x16)) fun μ24 =>
        ckI p1 (4) <|
        if (μ24.1 29 0 p1.toNatClampNeg) = 0 then (
          j98 μ24 n0 p1 (10 : Int32) x12
        ) else (
          bnd (fX13_setting n0 p1 (2 : Int32) μ24) fun x27 μ26 =>
          j98 μ26 n0 p1 (10 : Int32) (x12 - x27)
        )
      ) fun j72 =>
      bnd (fX13_of n0 p1 (10 : Int32) μ8) fun x29 μ28 =>
      nm ((x29 + (256 : Int32))) fun x30 =>
      bnd (fX13_setting n0 p1 (2 : Int32) μ28) fun x32 μ31 =>
      if x30 < x32 then (
        j72 μ31 x30 0 p1 (0 : Int32)
      ) else (
        j72 μ31 x30 0 p1 (1 : Int32)
      )
    ) else (
      j39 μ8
    )
  )
set_option maxHeartbeats 4000000 in
set_option maxRecDepth 100000 in
theorem kX13_countOn (l : Launch) (n0 : Nat) (g0 : n0 < 1) (p1 : Int32) : Kon 1 l yX13_countOn cX13_countOn 3 (none) 1 23 0 0 (fun ad => [.ref (ad 26 n0), .int p1]) rvV (fun μ => fX13_countOn n0 p1 μ) := by
  refine kon_of (by decide) (fun _ => Nat.le_of_ble_eq_true rfl) (fun X r0 μ hXl hXn V C E => ?_)
  have hN : ∀ i : Nat, i < 3 → i < xn X := fun i h => hXn.symm ▸ h
  have R0 := fen_rm E
  show G X r0 0 0 μ 0 [(0, .ref (xa X 26 n0)), (1, .int p1)] [] (fX13_countOn n0 p1 μ)
  unfold fX13_countOn
  refine g_jn (P := fun j39 => ∀ (μ1 : Mem), G X r0 0 0 μ1 39 [] [] (j39 μ1)) ?_ (fun j39 hj39 => ?_)
  · intro μ1
    exact s_vret C E dX13_countOn_39
  refine s_aload_n C dX13_countOn_0 rfl 0 rfl ?_
  refine s_getF C (fgX13_31_26 (Nat.le_trans (by decide) V)) g0 dX13_countOn_1 ?_
  refine s_iload_n C dX13_countOn_4 rfl 1 rfl ?_
  refine s_iconst (v := (0 : Int32)) C dX13_countOn_5 (by decide) ?_
  refine s_zast C (ag29 (Nat.le_trans (by decide) V)) (by decide) dX13_countOn_6 ?_
  refine g_nmM (fun μ2 => ?_)
  refine s_aload_n C dX13_countOn_7 rfl 0 rfl ?_
  refine s_getF C (fgX13_35_26 (Nat.le_trans (by decide) V)) g0 dX13_countOn_8 ?_
  refine s_iload_n C dX13_countOn_11 rfl 1 rfl ?_
  refine s_iconst (v := (-1 : Int32)) C dX13_countOn_12 (by decide) ?_
  refine s_iast C (ag28 (Nat.le_trans (by decide) V)) (by decide) dX13_countOn_13 ?_
  refine g_nmM (fun μ3 => ?_)
  refine s_aload_n C dX13_countOn_14 rfl 0 rfl ?_
  refine s_getF C (fgX13_47_26 (Nat.le_trans (by decide) V)) g0 dX13_countOn_15 ?_
  refine s_iload_n C dX13_countOn_18 rfl 1 rfl ?_
  refine s_iconst (v := (-1 : Int32)) C dX13_countOn_19 (by decide) ?_
  refine s_iast C (ag28 (Nat.le_trans (by decide) V)) (by decide) dX13_countOn_20 ?_
  refine g_nmM (fun μ4 => ?_)
  refine s_aload_n C dX13_countOn_21 rfl 0 rfl ?_
  refine s_iload_n C dX13_countOn_22 rfl 1 rfl ?_
  refine s_iconst (v := (0 : Int32)) C dX13_countOn_23 (by decide) ?_
  refine s_callV C R0 (kX13_setting (xl X) n0 g0 p1 (0 : Int32)) (Nat.le_trans (by decide) V) mmX13_setting miX13_setting q2241 (rc26 (Nat.le_trans (by decide) V)) g0 rfl rfl rfl (Nat.le_of_ble_eq_true rfl) ⟨Nat.le_of_ble_eq_true rfl, Nat.le_of_ble_eq_true rfl, Nat.le_of_ble_eq_true rfl, Nat.le_of_ble_eq_true rfl⟩ dX13_countOn_24 (fun x6 μ5 => ?_)
  refine g_st (st' := [.int x6]) rfl ?_
  refine s_if_eq (tgt := 39) C dX13_countOn_27 (by decide) (fun c7 => ?_) (fun c7 => ?_)
  ·
    exact g_sub [] rfl (hj39 μ5)
  ·
    refine s_aload_n C dX13_countOn_30 rfl 0 rfl ?_
    refine s_iload_n C dX13_countOn_31 rfl 1 rfl ?_
    refine s_iconst (v := (0 : Int32)) C dX13_countOn_32 (by decide) ?_
    refine s_callV C R0 (kX13_of (xl X) n0 g0 p1 (0 : Int32)) (Nat.le_trans (by decide) V) mmX13_of miX13_of q2307 (rc26 (Nat.le_trans (by decide) V)) g0 rfl rfl rfl (Nat.le_of_ble_eq_true rfl) ⟨Nat.le_of_ble_eq_true rfl, Nat.le_of_ble_eq_true rfl, Nat.le_of_ble_eq_true rfl, Nat.le_of_ble_eq_true rfl⟩ dX13_countOn_33 (fun x9 μ8 => ?_)
    refine g_st (st' := [.int x9]) rfl ?_
    refine s_if_ne (tgt := 40) C dX13_countOn_36 (by decide) (fun c10 => ?_) (fun c10 => ?_)
    ·
      refine g_jn (P := fun j72 => ∀ (μ11 : Mem) (x12 : Int32) (a13 : Nat) (x15 : Int32) (x16 : Int32), a13 < 1 → G X r0 0 0 μ11 72 [(0, .ref (xa X 26 n0)), (1, .int p1), (2, .int x12)] [.int x16, .int x15, .ref (xa X 29 a13)] (j72 μ11 x12 a13 x15 x16)) ?_ (fun j72 hj72 => ?_)
      · intro μ11 x12 a13 x15 x16 b14
        refine g_jn (P := fun j98 => ∀ (μ17 : Mem) (a18 : Nat) (x20 : Int32) (x21 : Int32) (x22 : Int32), a18 < 1 → G X r0 0 0 μ17 98 [] [.int x22, .int x21, .int x20, .ref (xa X 26 a18)] (j98 μ17 a18 x20 x21 x22)) ?_ (fun j98 hj98 => ?_)
        · intro μ17 a18 x20 x21 x22 b19
          refine s_callV C R0 (kX13_set (xl X) a18 b19 x20 x21 x22) (Nat.le_trans (by decide) V) mmX13_set miX13_set q2383 (rc26 (Nat.le_trans (by decide) V)) b19 rfl rfl rfl (Nat.le_of_ble_eq_true rfl) ⟨Nat.le_of_ble_eq_true rfl, Nat.le_of_ble_eq_true rfl, Nat.le_of_ble_eq_true rfl, Nat.le_of_ble_eq_true rfl⟩ dX13_countOn_98 (fun _ μ23 => ?_)
          refine g_st (st' := []) rfl ?_
          exact s_vret C E dX13_countOn_101
        refine s_zast C (ag29 (Nat.le_trans (by decide) V)) b14 dX13_countOn_72 ?_
        refine g_nmM (fun μ24 => ?_)
        refine s_aload_n C dX13_countOn_73 rfl 0 rfl ?_
        refine s_iload_n C dX13_countOn_74 rfl 1 rfl ?_
        refine s_bipush (v := (10 : Int32)) C dX13_countOn_75 (by decide) ?_
        refine s_aload_n C dX13_countOn_77 rfl 0 rfl ?_
        refine s_getF C (fgX13_31_26 (Nat.le_trans (by decide) V)) g0 dX13_countOn_78 ?_
        refine s_iload_n C dX13_countOn_81 rfl 1 rfl ?_
        refine s_zald C (ag29 (Nat.le_trans (by decide) V)) (by decide) dX13_countOn_82 ?_
        refine s_if_eq (tgt := 97) C dX13_countOn_83 (by decide) (fun c25 => ?_) (fun c25 => ?_)
        ·
          refine s_iload_n C dX13_countOn_97 rfl 2 rfl ?_
          exact g_sub [] rfl (hj98 μ24 n0 p1 (10 : Int32) x12 g0)
        ·
          refine s_iload_n C dX13_countOn_86 rfl 2 rfl ?_
          refine s_aload_n C dX13_countOn_87 rfl 0 rfl ?_
          refine s_iload_n C dX13_countOn_88 rfl 1 rfl ?_
          refine s_iconst (v := (2 : Int32)) C dX13_countOn_89 (by decide) ?_
          refine s_callV C R0 (kX13_setting (xl X) n0 g0 p1 (2 : Int32)) (Nat.le_trans (by decide) V) mmX13_setting miX13_setting q2241 (rc26 (Nat.le_trans (by decide) V)) g0 rfl rfl rfl (Nat.le_of_ble_eq_true rfl) ⟨Nat.le_of_ble_eq_true rfl, Nat.le_of_ble_eq_true rfl, Nat.le_of_ble_eq_true rfl, Nat.le_of_ble_eq_true rfl⟩ dX13_countOn_90 (fun x27 μ26 => ?_)
          refine g_st (st' := [.int x27, .int x12, .int (10 : Int32), .int p1, .ref (xa X 26 n0)]) rfl ?_
          refine s_isub C dX13_countOn_93 ?_
          refine s_goto (tgt := 98) C dX13_countOn_94 (by decide) ?_
          exact g_sub [] rfl (hj98 μ26 n0 p1 (10 : Int32) (x12 - x27) g0)
      refine s_aload_n C dX13_countOn_40 rfl 0 rfl ?_
      refine s_iload_n C dX13_countOn_41 rfl 1 rfl ?_
      refine s_bipush (v := (10 : Int32)) C dX13_countOn_42 (by decide) ?_
      refine s_callV C R0 (kX13_of (xl X) n0 g0 p1 (10 : Int32)) (Nat.le_trans (by decide) V) mmX13_of miX13_of q2307 (rc26 (Nat.le_trans (by decide) V)) g0 rfl rfl rfl (Nat.le_of_ble_eq_true rfl) ⟨Nat.le_of_ble_eq_true rfl, Nat.le_of_ble_eq_true rfl, Nat.le_of_ble_eq_true rfl, Nat.le_of_ble_eq_true rfl⟩ dX13_countOn_44 (fun x29 μ28 => ?_)
      refine g_st (st' := [.int x29]) rfl ?_
      refine s_sipush (v := (256 : Int32)) C dX13_countOn_47 (by decide) ?_
      refine s_iadd C dX13_countOn_50 ?_
      refine g_nmI (fun x30 => ?_)
      refine s_istore_n (L' := [(2, .int x30), (0, .ref (xa X 26 n0)), (1, .int p1)]) C dX13_countOn_51 rfl (hN 2 (by decide)) rfl ?_
      refine s_aload_n C dX13_countOn_52 rfl 1 rfl ?_
      refine s_getF C (fgX13_31_26 (Nat.le_trans (by decide) V)) g0 dX13_countOn_53 ?_
      refine s_iload_n C dX13_countOn_56 rfl 2 rfl ?_
      refine s_iload_n C dX13_countOn_57 rfl 0 rfl ?_
      refine s_aload_n C dX13_countOn_58 rfl 1 rfl ?_
      refine s_iload_n C dX13_countOn_59 rfl 2 rfl ?_
      refine s_iconst (v := (2 : Int32)) C dX13_countOn_60 (by decide) ?_
      refine s_callV C R0 (kX13_setting (xl X) n0 g0 p1 (2 : Int32)) (Nat.le_trans (by decide) V) mmX13_setting miX13_setting q2241 (rc26 (Nat.le_trans (by decide) V)) g0 rfl rfl rfl (Nat.le_of_ble_eq_true rfl) ⟨Nat.le_of_ble_eq_true rfl, Nat.le_of_ble_eq_true rfl, Nat.le_of_ble_eq_true rfl, Nat.le_of_ble_eq_true rfl⟩ dX13_countOn_61 (fun x32 μ31 => ?_)
      refine g_st (st' := [.int x32, .int x30, .int p1, .ref (xa X 29 0)]) rfl ?_
      refine s_icmp_lt (tgt := 71) C dX13_countOn_64 (by decide) (fun c33 => ?_) (fun c33 => ?_)
      ·
        refine s_iconst (v := (0 : Int32)) C dX13_countOn_71 (by decide) ?_
        exact g_sub [1, 2, 0] rfl (hj72 μ31 x30 0 p1 (0 : Int32) (by decide))
      ·
        refine s_iconst (v := (1 : Int32)) C dX13_countOn_67 (by decide) ?_
        refine s_goto (tgt := 72) C dX13_countOn_68 (by decide) ?_
        exact g_sub [1, 2, 0] rfl (hj72 μ31 x30 0 p1 (1 : Int32) (by decide))
    ·
      exact g_sub [] rfl (hj39 μ8)
/-! PinEnginesModel.wantsPort(I)Z -/
def fX13_wantsPort (n0 : Nat) (p1 : Int32) (μ : Mem) : Option (Int32 × Mem) :=
  jn (fun (μ1 : Mem) (x2 : Int32) =>
    ckZ x2 (some (x2, μ1))
  ) fun j35 =>
  jn (fun (μ3 : Mem) =>
    j35 μ3 (0 : Int32)
  ) fun j34 =>
  ckI p1 (4) <|
  if (μ.1 29 0 p1.toNatClampNeg) = 0 then (
    j34 μ
  ) else (
    bnd (fX13_of n0 p1 (8 : Int32) μ) fun x6 μ5 =>
    if ¬ x6 = 0 then (
      j34 μ5
    ) else (
      bnd (fX13_codeOf n0 p1 (0 : Int32) μ5) fun x9 μ8 =>
      if x9 < (11 : Int32) then (
        j34 μ8
      ) else (
        j35 μ8 (1 : Int32)
      )
    )
  )
set_option maxHeartbeats 4000000 in
set_option maxRecDepth 100000 in
theorem kX13_wantsPort (l : Launch) (n0 : Nat) (g0 : n0 < 1) (p1 : Int32) : Kon 1 l yX13_wantsPort cX13_wantsPort 2 (some .boolean) 2 44 0 0 (fun ad => [.ref (ad 26 n0), .int p1]) rvI (fun μ => fX13_wantsPort n0 p1 μ) := by
  refine kon_of (by decide) (fun _ => Nat.le_of_ble_eq_true rfl) (fun X r0 μ hXl hXn V C E => ?_)
  have hN : ∀ i : Nat, i < 2 → i < xn X := fun i h => hXn.symm ▸ h
  have R0 := fen_rm E
  show G X r0 0 0 μ 0 [(0, .ref (xa X 26 n0)), (1, .int p1)] [] (fX13_wantsPort n0 p1 μ)
  unfold fX13_wantsPort
  refine g_jn (P := fun j35 => ∀ (μ1 : Mem) (x2 : Int32), G X r0 0 0 μ1 35 [] [.int x2] (j35 μ1 x2)) ?_ (fun j35 hj35 => ?_)
  · intro μ1 x2
    exact s_zret C E dX13_wantsPort_35
  refine g_jn (P := fun j34 => ∀ (μ3 : Mem), G X r0 0 0 μ3 34 [] [] (j34 μ3)) ?_ (fun j34 hj34 => ?_)
  · intro μ3
    refine s_iconst (v := (0 : Int32)) C dX13_wantsPort_34 (by decide) ?_
    exact g_sub [] rfl (hj35 μ3 (0 : Int32))
  refine s_aload_n C dX13_wantsPort_0 rfl 0 rfl ?_
  refine s_getF C (fgX13_31_26 (Nat.le_trans (by decide) V)) g0 dX13_wantsPort_1 ?_
  refine s_iload_n C dX13_wantsPort_4 rfl 1 rfl ?_
  refine s_zald C (ag29 (Nat.le_trans (by decide) V)) (by decide) dX13_wantsPort_5 ?_
  refine s_if_eq (tgt := 34) C dX13_wantsPort_6 (by decide) (fun c4 => ?_) (fun c4 => ?_)
  ·
    exact g_sub [] rfl (hj34 μ)
  ·
    refine s_aload_n C dX13_wantsPort_9 rfl 0 rfl ?_
    refine s_iload_n C dX13_wantsPort_10 rfl 1 rfl ?_
    refine s_bipush (v := (8 : Int32)) C dX13_wantsPort_11 (by decide) ?_
    refine s_callV C R0 (kX13_of (xl X) n0 g0 p1 (8 : Int32)) (Nat.le_trans (by decide) V) mmX13_of miX13_of q2307 (rc26 (Nat.le_trans (by decide) V)) g0 rfl rfl rfl (Nat.le_of_ble_eq_true rfl) ⟨Nat.le_of_ble_eq_true rfl, Nat.le_of_ble_eq_true rfl, Nat.le_of_ble_eq_true rfl, Nat.le_of_ble_eq_true rfl⟩ dX13_wantsPort_13 (fun x6 μ5 => ?_)
    refine g_st (st' := [.int x6]) rfl ?_
    refine s_if_ne (tgt := 34) C dX13_wantsPort_16 (by decide) (fun c7 => ?_) (fun c7 => ?_)
    ·
      exact g_sub [] rfl (hj34 μ5)
    ·
      refine s_aload_n C dX13_wantsPort_19 rfl 0 rfl ?_
      refine s_iload_n C dX13_wantsPort_20 rfl 1 rfl ?_
      refine s_iconst (v := (0 : Int32)) C dX13_wantsPort_21 (by decide) ?_
      refine s_callV C R0 (kX13_codeOf (xl X) n0 g0 p1 (0 : Int32)) (Nat.le_trans (by decide) V) mmX13_codeOf miX13_codeOf q2461 (rc26 (Nat.le_trans (by decide) V)) g0 rfl rfl rfl (Nat.le_of_ble_eq_true rfl) ⟨Nat.le_of_ble_eq_true rfl, Nat.le_of_ble_eq_true rfl, Nat.le_of_ble_eq_true rfl, Nat.le_of_ble_eq_true rfl⟩ dX13_wantsPort_22 (fun x9 μ8 => ?_)
      refine g_st (st' := [.int x9]) rfl ?_
      refine s_bipush (v := (11 : Int32)) C dX13_wantsPort_25 (by decide) ?_
      refine s_icmp_lt (tgt := 34) C dX13_wantsPort_27 (by decide) (fun c10 => ?_) (fun c10 => ?_)
      ·
        exact g_sub [] rfl (hj34 μ8)
      ·
        refine s_iconst (v := (1 : Int32)) C dX13_wantsPort_30 (by decide) ?_
        refine s_goto (tgt := 35) C dX13_wantsPort_31 (by decide) ?_
        exact g_sub [] rfl (hj35 μ8 (1 : Int32))
/-! PinEnginesModel.givePort()V -/
def fX13_givePort (fu : Nat) (n0 : Nat) (μ : Mem) : Option (Unit × Mem) :=
  jn (lp (fun _ _ => none) fu (fun j7 (μ1 : Mem) (x2 : Int32) =>
    jn (fun (μ3 : Mem) =>
      jn (fun (μ4 : Mem) (a5 : Nat) (x7 : Int32) (x8 : Int32) =>
        ckI x7 (if a5 = 4 then 7000 else 700) <|
        nm (wI μ4 27 a5 x7.toNatClampNeg x8) fun μ9 =>
        some ((), μ9)
      ) fun j80 =>
      if ¬ (μ3.1 26 n0 18) = (-1 : Int32) then (
        j80 μ3 0 (2 : Int32) (μ3.1 26 n0 18)
      ) else (
        ckI (2 : Int32) (if 0 = 4 then 7000 else 700) <|
        j80 μ3 0 (2 : Int32) (μ3.1 27 0 (2 : Int32).toNatClampNeg)
      )
    ) fun j54 =>
    if (4 : Int32) < x2 then (
      j54 μ1
    ) else (
      if ¬ (μ1.1 26 n0 18) = (-1 : Int32) then (
        j54 μ1
      ) else (
        jn (fun (μ13 : Mem) (x14 : Int32) (a15 : Nat) (x17 : Int32) =>
          nm (wI μ13 26 a15 18 x17) fun μ18 =>
          nm (x14 + (1 : Int32)) fun x19 =>
          j7 μ18 x19
        ) fun j45 =>
        ckI (2 : Int32) (if 0 = 4 then 7000 else 700) <|
        ckD (4 : Int32) <|
        nm ((((μ1.1 27 0 (2 : Int32).toNatClampNeg) + x2) - ((μ1.1 27 0 (2 : Int32).toNatClampNeg) + x2) / (4 : Int32) * (4 : Int32))) fun x20 =>
        bnd (fX13_wantsPort n0 x20 μ1) fun x22 μ21 =>
        if x22 = 0 then (
          j45 μ21 x2 n0 (-1 : Int32)
        ) else (
          j45 μ21 x2 n0 x20
        )
      )
    )
  )) fun j7 =>
  nm (wI μ 26 n0 18 (-1 : Int32)) fun μ24 =>
  j7 μ24 (1 : Int32)
set_option maxHeartbeats 4000000 in
set_option maxRecDepth 100000 in
theorem kX13_givePort (l : Launch) (fu : Nat) (n0 : Nat) (g0 : n0 < 1) : Kon 1 l yX13_givePort cX13_givePort 3 (none) 3 65 0 0 (fun ad => [.ref (ad 26 n0)]) rvV (fun μ => fX13_givePort fu n0 μ) := by
  refine kon_of (by decide) (fun _ => Nat.le_of_ble_eq_true rfl) (fun X r0 μ hXl hXn V C E => ?_)
  have hN : ∀ i : Nat, i < 3 → i < xn X := fun i h => hXn.symm ▸ h
  have R0 := fen_rm E
  show G X r0 0 0 μ 0 [(0, .ref (xa X 26 n0))] [] (fX13_givePort fu n0 μ)
  unfold fX13_givePort
  refine g_jl (P := fun j7 => ∀ (μ1 : Mem) (x2 : Int32), G X r0 0 0 μ1 7 [(0, .ref (xa X 26 n0)), (1, .int x2)] [] (j7 μ1 x2)) (fun _ _ => g_none) (fun j7 hj7 => ?_) (fun j7 hj7 => ?_)
  · intro μ1 x2
    refine g_jn (P := fun j54 => ∀ (μ3 : Mem), G X r0 0 0 μ3 54 [(0, .ref (xa X 26 n0))] [] (j54 μ3)) ?_ (fun j54 hj54 => ?_)
    · intro μ3
      refine g_jn (P := fun j80 => ∀ (μ4 : Mem) (a5 : Nat) (x7 : Int32) (x8 : Int32), a5 < 5 → G X r0 0 0 μ4 80 [] [.int x8, .int x7, .ref (xa X 27 a5)] (j80 μ4 a5 x7 x8)) ?_ (fun j80 hj80 => ?_)
      · intro μ4 a5 x7 x8 b6
        refine s_iast C (ag27 (Nat.le_trans (by decide) V)) b6 dX13_givePort_80 ?_
        refine g_nmM (fun μ9 => ?_)
        exact s_vret C E dX13_givePort_81
      refine s_aload_n C dX13_givePort_54 rfl 0 rfl ?_
      refine s_getF C (fgX13_9_26 (Nat.le_trans (by decide) V)) g0 dX13_givePort_55 ?_
      refine s_iconst (v := (2 : Int32)) C dX13_givePort_58 (by decide) ?_
      refine s_aload_n C dX13_givePort_59 rfl 0 rfl ?_
      refine s_getI C (fgX13_296_26 (Nat.le_trans (by decide) V)) g0 dX13_givePort_60 ?_
      refine s_iconst (v := (-1 : Int32)) C dX13_givePort_63 (by decide) ?_
      refine s_icmp_ne (tgt := 76) C dX13_givePort_64 (by decide) (fun c10 => ?_) (fun c10 => ?_)
      ·
        refine s_aload_n C dX13_givePort_76 rfl 0 rfl ?_
        refine s_getI C (fgX13_296_26 (Nat.le_trans (by decide) V)) g0 dX13_givePort_77 ?_
        exact g_sub [] rfl (hj80 μ3 0 (2 : Int32) (μ3.1 26 n0 18) (by decide))
      ·
        refine s_aload_n C dX13_givePort_67 rfl 0 rfl ?_
        refine s_getF C (fgX13_9_26 (Nat.le_trans (by decide) V)) g0 dX13_givePort_68 ?_
        refine s_iconst (v := (2 : Int32)) C dX13_givePort_71 (by decide) ?_
        refine s_iald C (ag27 (Nat.le_trans (by decide) V)) (by decide) dX13_givePort_72 ?_
        refine s_goto (tgt := 80) C dX13_givePort_73 (by decide) ?_
        exact g_sub [] rfl (hj80 μ3 0 (2 : Int32) (μ3.1 27 0 (2 : Int32).toNatClampNeg) (by decide))
    refine s_iload_n C dX13_givePort_7 rfl 1 rfl ?_
    refine s_iconst (v := (4 : Int32)) C dX13_givePort_8 (by decide) ?_
    refine s_icmp_gt (tgt := 54) C dX13_givePort_9 (by decide) (fun c11 => ?_) (fun c11 => ?_)
    ·
      exact g_sub [0] rfl (hj54 μ1)
    ·
      refine s_aload_n C dX13_givePort_12 rfl 0 rfl ?_
      refine s_getI C (fgX13_296_26 (Nat.le_trans (by decide) V)) g0 dX13_givePort_13 ?_
      refine s_iconst (v := (-1 : Int32)) C dX13_givePort_16 (by decide) ?_
      refine s_icmp_ne (tgt := 54) C dX13_givePort_17 (by decide) (fun c12 => ?_) (fun c12 => ?_)
      ·
        exact g_sub [0] rfl (hj54 μ1)
      ·
        refine g_jn (P := fun j45 => ∀ (μ13 : Mem) (x14 : Int32) (a15 : Nat) (x17 : Int32), a15 < 1 → G X r0 0 0 μ13 45 [(0, .ref (xa X 26 n0)), (1, .int x14)] [.int x17, .ref (xa X 26 a15)] (j45 μ13 x14 a15 x17)) ?_ (fun j45 hj45 => ?_)
        · intro μ13 x14 a15 x17 b16
          refine s_putI C (fpX13_296_26 (Nat.le_trans (by decide) V)) b16 dX13_givePort_45 ?_
          refine g_nmM (fun μ18 => ?_)
          refine g_nmQ (fun x19 ex19 => ?_)
          refine s_iinc (v := x19) (j := 1) (L' := [(1, .int x19), (0, .ref (xa X 26 n0))]) C dX13_givePort_48 rfl (by rw [ex19]; rfl) (hN 1 (by decide)) rfl ?_
          refine s_goto (tgt := 7) C dX13_givePort_51 (by decide) ?_
          exact g_sub [1, 0] rfl (hj7 μ18 x19)
        refine s_aload_n C dX13_givePort_20 rfl 0 rfl ?_
        refine s_getF C (fgX13_9_26 (Nat.le_trans (by decide) V)) g0 dX13_givePort_21 ?_
        refine s_iconst (v := (2 : Int32)) C dX13_givePort_24 (by decide) ?_
        refine s_iald C (ag27 (Nat.le_trans (by decide) V)) (by decide) dX13_givePort_25 ?_
        refine s_iload_n C dX13_givePort_26 rfl 1 rfl ?_
        refine s_iadd C dX13_givePort_27 ?_
        refine s_iconst (v := (4 : Int32)) C dX13_givePort_28 (by decide) ?_
        refine s_irem C dX13_givePort_29 ?_
        refine g_nmI (fun x20 => ?_)
        refine s_istore_n (L' := [(2, .int x20), (0, .ref (xa X 26 n0)), (1, .int x2)]) C dX13_givePort_30 rfl (hN 2 (by decide)) rfl ?_
        refine s_aload_n C dX13_givePort_31 rfl 1 rfl ?_
        refine s_aload_n C dX13_givePort_32 rfl 1 rfl ?_
        refine s_iload_n C dX13_givePort_33 rfl 0 rfl ?_
        refine s_callV C R0 (kX13_wantsPort (xl X) n0 g0 x20) (Nat.le_trans (by decide) V) mmX13_wantsPort miX13_wantsPort q2457 (rc26 (Nat.le_trans (by decide) V)) g0 rfl rfl rfl (Nat.le_of_ble_eq_true rfl) ⟨Nat.le_of_ble_eq_true rfl, Nat.le_of_ble_eq_true rfl, Nat.le_of_ble_eq_true rfl, Nat.le_of_ble_eq_true rfl⟩ dX13_givePort_34 (fun x22 μ21 => ?_)
        refine g_st (st' := [.int x22, .ref (xa X 26 n0)]) rfl ?_
        refine s_if_eq (tgt := 44) C dX13_givePort_37 (by decide) (fun c23 => ?_) (fun c23 => ?_)
        ·
          refine s_iconst (v := (-1 : Int32)) C dX13_givePort_44 (by decide) ?_
          exact g_sub [1, 2] rfl (hj45 μ21 x2 n0 (-1 : Int32) g0)
        ·
          refine s_iload_n C dX13_givePort_40 rfl 0 rfl ?_
          refine s_goto (tgt := 45) C dX13_givePort_41 (by decide) ?_
          exact g_sub [1, 2] rfl (hj45 μ21 x2 n0 x20 g0)
  refine s_aload_n C dX13_givePort_0 rfl 0 rfl ?_
  refine s_iconst (v := (-1 : Int32)) C dX13_givePort_1 (by decide) ?_
  refine s_putI C (fpX13_296_26 (Nat.le_trans (by decide) V)) g0 dX13_givePort_2 ?_
  refine g_nmM (fun μ24 => ?_)
  refine s_iconst (v := (1 : Int32)) C dX13_givePort_5 (by decide) ?_
  refine s_istore_n (L' := [(1, .int (1 : Int32)), (0, .ref (xa X 26 n0))]) C dX13_givePort_6 rfl (hN 1 (by decide)) rfl ?_
  exact g_sub [1, 0] rfl (hj7 μ24 (1 : Int32))
/-! PinEnginesModel.writeBits(IIIZ)V -/
def fX13_writeBits (fu : Nat) (n0 : Nat) (p1 : Int32) (p2 : Int32) (p3 : Int32) (p4 : Int32) (μ : Mem) : Option (Unit × Mem) :=
  jn (lp (fun _ _ => none) fu (fun j3 (μ1 : Mem) (x2 : Int32) =>
    if p2 ≤ x2 then (
      some ((), μ1)
    ) else (
      jn (fun (μ4 : Mem) (x5 : Int32) (a6 : Nat) (x8 : Int32) (x9 : Int32) =>
        bnd (fX13_putPin a6 x8 x9 ((p3 >>> (x5 &&& 31)) &&& (1 : Int32)) μ4) fun _ μ10 =>
        nm (x5 + (1 : Int32)) fun x11 =>
        j3 μ10 x11
      ) fun j27 =>
      ckD (16 : Int32) <|
      if p4 = 0 then (
        j27 μ1 x2 n0 ((p1 + x2) - (p1 + x2) / (16 : Int32) * (16 : Int32)) (0 : Int32)
      ) else (
        j27 μ1 x2 n0 ((p1 + x2) - (p1 + x2) / (16 : Int32) * (16 : Int32)) (1 : Int32)
      )
    )
  )) fun j3 =>
  j3 μ (0 : Int32)
set_option maxHeartbeats 4000000 in
set_option maxRecDepth 100000 in
theorem kX13_writeBits (l : Launch) (fu : Nat) (n0 : Nat) (g0 : n0 < 1) (p1 : Int32) (p2 : Int32) (p3 : Int32) (p4 : Int32) : Kon 1 l yX13_writeBits cX13_writeBits 6 (none) 1 23 0 0 (fun ad => [.ref (ad 26 n0), .int p1, .int p2, .int p3, .int p4]) rvV (fun μ => fX13_writeBits fu n0 p1 p2 p3 p4 μ) := by
  refine kon_of (by decide) (fun _ => Nat.le_of_ble_eq_true rfl) (fun X r0 μ hXl hXn V C E => ?_)
  have hN : ∀ i : Nat, i < 6 → i < xn X := fun i h => hXn.symm ▸ h
  have R0 := fen_rm E
  show G X r0 0 0 μ 0 [(0, .ref (xa X 26 n0)), (1, .int p1), (2, .int p2), (3, .int p3), (4, .int p4)] [] (fX13_writeBits fu n0 p1 p2 p3 p4 μ)
  unfold fX13_writeBits
  refine g_jl (P := fun j3 => ∀ (μ1 : Mem) (x2 : Int32), G X r0 0 0 μ1 3 [(0, .ref (xa X 26 n0)), (1, .int p1), (2, .int p2), (3, .int p3), (4, .int p4), (5, .int x2)] [] (j3 μ1 x2)) (fun _ _ => g_none) (fun j3 hj3 => ?_) (fun j3 hj3 => ?_)
  · intro μ1 x2
    refine s_iload C dX13_writeBits_3 5 rfl ?_
    refine s_iload_n C dX13_writeBits_5 rfl 2 rfl ?_
    refine s_icmp_ge (tgt := 42) C dX13_writeBits_6 (by decide) (fun c3 => ?_) (fun c3 => ?_)
    ·
      exact s_vret C E dX13_writeBits_42
    ·
      refine g_jn (P := fun j27 => ∀ (μ4 : Mem) (x5 : Int32) (a6 : Nat) (x8 : Int32) (x9 : Int32), a6 < 1 → G X r0 0 0 μ4 27 [(0, .ref (xa X 26 n0)), (1, .int p1), (2, .int p2), (3, .int p3), (4, .int p4), (5, .int x5)] [.int x9, .int x8, .ref (xa X 26 a6)] (j27 μ4 x5 a6 x8 x9)) ?_ (fun j27 hj27 => ?_)
      · intro μ4 x5 a6 x8 x9 b7
        refine s_iload_n C dX13_writeBits_27 rfl 3 rfl ?_
        refine s_iload C dX13_writeBits_28 5 rfl ?_
        refine s_ishr C dX13_writeBits_30 ?_
        refine s_iconst (v := (1 : Int32)) C dX13_writeBits_31 (by decide) ?_
        refine s_iand C dX13_writeBits_32 ?_
        refine s_callV C R0 (kX13_putPin (xl X) a6 b7 x8 x9 ((p3 >>> (x5 &&& 31)) &&& (1 : Int32))) (Nat.le_trans (by decide) V) mmX13_putPin miX13_putPin q2416 (rc26 (Nat.le_trans (by decide) V)) b7 rfl rfl rfl (Nat.le_of_ble_eq_true rfl) ⟨Nat.le_of_ble_eq_true rfl, Nat.le_of_ble_eq_true rfl, Nat.le_of_ble_eq_true rfl, Nat.le_of_ble_eq_true rfl⟩ dX13_writeBits_33 (fun _ μ10 => ?_)
        refine g_st (st' := []) rfl ?_
        refine g_nmQ (fun x11 ex11 => ?_)
        refine s_iinc (v := x11) (j := 5) (L' := [(5, .int x11), (0, .ref (xa X 26 n0)), (1, .int p1), (2, .int p2), (3, .int p3), (4, .int p4)]) C dX13_writeBits_36 rfl (by rw [ex11]; rfl) (hN 5 (by decide)) rfl ?_
        refine s_goto (tgt := 3) C dX13_writeBits_39 (by decide) ?_
        exact g_sub [1, 2, 3, 4, 5, 0] rfl (hj3 μ10 x11)
      refine s_aload_n C dX13_writeBits_9 rfl 0 rfl ?_
      refine s_iload_n C dX13_writeBits_10 rfl 1 rfl ?_
      refine s_iload C dX13_writeBits_11 5 rfl ?_
      refine s_iadd C dX13_writeBits_13 ?_
      refine s_bipush (v := (16 : Int32)) C dX13_writeBits_14 (by decide) ?_
      refine s_irem C dX13_writeBits_16 ?_
      refine s_iload C dX13_writeBits_17 4 rfl ?_
      refine s_if_eq (tgt := 26) C dX13_writeBits_19 (by decide) (fun c12 => ?_) (fun c12 => ?_)
      ·
        refine s_iconst (v := (0 : Int32)) C dX13_writeBits_26 (by decide) ?_
        exact g_sub [0, 1, 2, 3, 4, 5] rfl (hj27 μ1 x2 n0 ((p1 + x2) - (p1 + x2) / (16 : Int32) * (16 : Int32)) (0 : Int32) g0)
      ·
        refine s_iconst (v := (1 : Int32)) C dX13_writeBits_22 (by decide) ?_
        refine s_goto (tgt := 27) C dX13_writeBits_23 (by decide) ?_
        exact g_sub [0, 1, 2, 3, 4, 5] rfl (hj27 μ1 x2 n0 ((p1 + x2) - (p1 + x2) / (16 : Int32) * (16 : Int32)) (1 : Int32) g0)
  refine s_iconst (v := (0 : Int32)) C dX13_writeBits_0 (by decide) ?_
  refine s_istore (L' := [(5, .int (0 : Int32)), (0, .ref (xa X 26 n0)), (1, .int p1), (2, .int p2), (3, .int p3), (4, .int p4)]) C dX13_writeBits_1 (hN 5 (by decide)) rfl ?_
  exact g_sub [1, 2, 3, 4, 5, 0] rfl (hj3 μ (0 : Int32))
/-! PinEnginesModel.writeAll(I)V -/
def fX13_writeAll (fu : Nat) (n0 : Nat) (p1 : Int32) (μ : Mem) : Option (Unit × Mem) :=
  jn (fun (μ1 : Mem) =>
    jn (fun (μ2 : Mem) =>
      some ((), μ2)
    ) fun j83 =>
    ckI p1 (mil.getD 6 0) <|
    if (μ1.1 28 6 p1.toNatClampNeg) = (-1 : Int32) then (
      j83 μ1
    ) else (
      bnd (fX13_setting n0 p1 (9 : Int32) μ1) fun x5 μ4 =>
      bnd (fX13_setting n0 p1 (10 : Int32) μ4) fun x7 μ6 =>
      ckI p1 (mil.getD 6 0) <|
      bnd (fX13_writeBits fu n0 x5 x7 (μ6.1 28 6 p1.toNatClampNeg) (0 : Int32) μ6) fun _ μ8 =>
      j83 μ8
    )
  ) fun j48 =>
  ckI p1 (mil.getD 2 0) <|
  if (μ.1 28 2 p1.toNatClampNeg) = (-1 : Int32) then (
    j48 μ
  ) else (
    jn (fun (μ10 : Mem) (a11 : Nat) (x13 : Int32) (x14 : Int32) (x15 : Int32) (x16 : Int32) =>
      bnd (fX13_writeBits fu a11 x13 x14 x15 x16 μ10) fun _ μ17 =>
      j48 μ17
    ) fun j45 =>
    ckI p1 (mil.getD 3 0) <|
    ckI p1 (mil.getD 4 0) <|
    ckI p1 (mil.getD 5 0) <|
    ckI p1 (mil.getD 2 0) <|
    if ¬ (μ.1 28 2 p1.toNatClampNeg) = (7 : Int32) then (
      j45 μ n0 (μ.1 28 3 p1.toNatClampNeg) (μ.1 28 4 p1.toNatClampNeg) (μ.1 28 5 p1.toNatClampNeg) (0 : Int32)
    ) else (
      j45 μ n0 (μ.1 28 3 p1.toNatClampNeg) (μ.1 28 4 p1.toNatClampNeg) (μ.1 28 5 p1.toNatClampNeg) (1 : Int32)
    )
  )
set_option maxHeartbeats 4000000 in
set_option maxRecDepth 100000 in
theorem kX13_writeAll (l : Launch) (fu : Nat) (n0 : Nat) (g0 : n0 < 1) (p1 : Int32) : Kon 1 l yX13_writeAll cX13_writeAll 2 (none) 2 48 0 0 (fun ad => [.ref (ad 26 n0), .int p1]) rvV (fun μ => fX13_writeAll fu n0 p1 μ) := by
  refine kon_of (by decide) (fun _ => Nat.le_of_ble_eq_true rfl) (fun X r0 μ hXl hXn V C E => ?_)
  have hN : ∀ i : Nat, i < 2 → i < xn X := fun i h => hXn.symm ▸ h
  have R0 := fen_rm E
  show G X r0 0 0 μ 0 [(0, .ref (xa X 26 n0)), (1, .int p1)] [] (fX13_writeAll fu n0 p1 μ)
  unfold fX13_writeAll
  refine g_jn (P := fun j48 => ∀ (μ1 : Mem), G X r0 0 0 μ1 48 [(0, .ref (xa X 26 n0)), (1, .int p1)] [] (j48 μ1)) ?_ (fun j48 hj48 => ?_)
  · intro μ1
    refine g_jn (P := fun j83 => ∀ (μ2 : Mem), G X r0 0 0 μ2 83 [] [] (j83 μ2)) ?_ (fun j83 hj83 => ?_)
    · intro μ2
      exact s_vret C E dX13_writeAll_83
    refine s_aload_n C dX13_writeAll_48 rfl 0 rfl ?_
    refine s_getF C (fgX13_47_26 (Nat.le_trans (by decide) V)) g0 dX13_writeAll_49 ?_
    refine s_iload_n C dX13_writeAll_52 rfl 1 rfl ?_
    refine s_iald C (ag28 (Nat.le_trans (by decide) V)) (by decide) dX13_writeAll_53 ?_
    refine s_iconst (v := (-1 : Int32)) C dX13_writeAll_54 (by decide) ?_
    refine s_icmp_eq (tgt := 83) C dX13_writeAll_55 (by decide) (fun c3 => ?_) (fun c3 => ?_)
    ·
      exact g_sub [] rfl (hj83 μ1)
    ·
      refine s_aload_n C dX13_writeAll_58 rfl 0 rfl ?_
      refine s_aload_n C dX13_writeAll_59 rfl 0 rfl ?_
      refine s_iload_n C dX13_writeAll_60 rfl 1 rfl ?_
      refine s_bipush (v := (9 : Int32)) C dX13_writeAll_61 (by decide) ?_
      refine s_callV C R0 (kX13_setting (xl X) n0 g0 p1 (9 : Int32)) (Nat.le_trans (by decide) V) mmX13_setting miX13_setting q2241 (rc26 (Nat.le_trans (by decide) V)) g0 rfl rfl rfl (Nat.le_of_ble_eq_true rfl) ⟨Nat.le_of_ble_eq_true rfl, Nat.le_of_ble_eq_true rfl, Nat.le_of_ble_eq_true rfl, Nat.le_of_ble_eq_true rfl⟩ dX13_writeAll_63 (fun x5 μ4 => ?_)
      refine g_st (st' := [.int x5, .ref (xa X 26 n0)]) rfl ?_
      refine s_aload_n C dX13_writeAll_66 rfl 0 rfl ?_
      refine s_iload_n C dX13_writeAll_67 rfl 1 rfl ?_
      refine s_bipush (v := (10 : Int32)) C dX13_writeAll_68 (by decide) ?_
      refine s_callV C R0 (kX13_setting (xl X) n0 g0 p1 (10 : Int32)) (Nat.le_trans (by decide) V) mmX13_setting miX13_setting q2241 (rc26 (Nat.le_trans (by decide) V)) g0 rfl rfl rfl (Nat.le_of_ble_eq_true rfl) ⟨Nat.le_of_ble_eq_true rfl, Nat.le_of_ble_eq_true rfl, Nat.le_of_ble_eq_true rfl, Nat.le_of_ble_eq_true rfl⟩ dX13_writeAll_70 (fun x7 μ6 => ?_)
      refine g_st (st' := [.int x7, .int x5, .ref (xa X 26 n0)]) rfl ?_
      refine s_aload_n C dX13_writeAll_73 rfl 0 rfl ?_
      refine s_getF C (fgX13_47_26 (Nat.le_trans (by decide) V)) g0 dX13_writeAll_74 ?_
      refine s_iload_n C dX13_writeAll_77 rfl 1 rfl ?_
      refine s_iald C (ag28 (Nat.le_trans (by decide) V)) (by decide) dX13_writeAll_78 ?_
      refine s_iconst (v := (0 : Int32)) C dX13_writeAll_79 (by decide) ?_
      refine s_callV C R0 (kX13_writeBits (xl X) fu n0 g0 x5 x7 (μ6.1 28 6 p1.toNatClampNeg) (0 : Int32)) (Nat.le_trans (by decide) V) mmX13_writeBits miX13_writeBits q2572 (rc26 (Nat.le_trans (by decide) V)) g0 rfl rfl rfl (Nat.le_of_ble_eq_true rfl) ⟨Nat.le_of_ble_eq_true rfl, Nat.le_of_ble_eq_true rfl, Nat.le_of_ble_eq_true rfl, Nat.le_of_ble_eq_true rfl⟩ dX13_writeAll_80 (fun _ μ8 => ?_)
      refine g_st (st' := []) rfl ?_
      exact g_sub [] rfl (hj83 μ8)
  refine s_aload_n C dX13_writeAll_0 rfl 0 rfl ?_
  refine s_getF C (fgX13_35_26 (Nat.le_trans (by decide) V)) g0 dX13_writeAll_1 ?_
  refine s_iload_n C dX13_writeAll_4 rfl 1 rfl ?_
  refine s_iald C (ag28 (Nat.le_trans (by decide) V)) (by decide) dX13_writeAll_5 ?_
  refine s_iconst (v := (-1 : Int32)) C dX13_writeAll_6 (by decide) ?_
  refine s_icmp_eq (tgt := 48) C dX13_writeAll_7 (by decide) (fun c9 => ?_) (fun c9 => ?_)
  ·
    exact g_sub [0, 1] rfl (hj48 μ)
  ·
    refine g_jn (P := fun j45 => ∀ (μ10 : Mem) (a11 : Nat) (x13 : Int32) (x14 : Int32) (x15 : Int32) (x16 : Int32), a11 < 1 → G X r0 0 0 μ10 45 [(0, .ref (xa X 26 n0)), (1, .int p1)] [.int x16, .int x15, .int x14, .int x13, .ref (xa X 26 a11)] (j45 μ10 a11 x13 x14 x15 x16)) ?_ (fun j45 hj45 => ?_)
    · intro μ10 a11 x13 x14 x15 x16 b12
      refine s_callV C R0 (kX13_writeBits (xl X) fu a11 b12 x13 x14 x15 x16) (Nat.le_trans (by decide) V) mmX13_writeBits miX13_writeBits q2572 (rc26 (Nat.le_trans (by decide) V)) b12 rfl rfl rfl (Nat.le_of_ble_eq_true rfl) ⟨Nat.le_of_ble_eq_true rfl, Nat.le_of_ble_eq_true rfl, Nat.le_of_ble_eq_true rfl, Nat.le_of_ble_eq_true rfl⟩ dX13_writeAll_45 (fun _ μ17 => ?_)
      refine g_st (st' := []) rfl ?_
      exact g_sub [0, 1] rfl (hj48 μ17)
    refine s_aload_n C dX13_writeAll_10 rfl 0 rfl ?_
    refine s_aload_n C dX13_writeAll_11 rfl 0 rfl ?_
    refine s_getF C (fgX13_38_26 (Nat.le_trans (by decide) V)) g0 dX13_writeAll_12 ?_
    refine s_iload_n C dX13_writeAll_15 rfl 1 rfl ?_
    refine s_iald C (ag28 (Nat.le_trans (by decide) V)) (by decide) dX13_writeAll_16 ?_
    refine s_aload_n C dX13_writeAll_17 rfl 0 rfl ?_
    refine s_getF C (fgX13_41_26 (Nat.le_trans (by decide) V)) g0 dX13_writeAll_18 ?_
    refine s_iload_n C dX13_writeAll_21 rfl 1 rfl ?_
    refine s_iald C (ag28 (Nat.le_trans (by decide) V)) (by decide) dX13_writeAll_22 ?_
    refine s_aload_n C dX13_writeAll_23 rfl 0 rfl ?_
    refine s_getF C (fgX13_44_26 (Nat.le_trans (by decide) V)) g0 dX13_writeAll_24 ?_
    refine s_iload_n C dX13_writeAll_27 rfl 1 rfl ?_
    refine s_iald C (ag28 (Nat.le_trans (by decide) V)) (by decide) dX13_writeAll_28 ?_
    refine s_aload_n C dX13_writeAll_29 rfl 0 rfl ?_
    refine s_getF C (fgX13_35_26 (Nat.le_trans (by decide) V)) g0 dX13_writeAll_30 ?_
    refine s_iload_n C dX13_writeAll_33 rfl 1 rfl ?_
    refine s_iald C (ag28 (Nat.le_trans (by decide) V)) (by decide) dX13_writeAll_34 ?_
    refine s_bipush (v := (7 : Int32)) C dX13_writeAll_35 (by decide) ?_
    refine s_icmp_ne (tgt := 44) C dX13_writeAll_37 (by decide) (fun c18 => ?_) (fun c18 => ?_)
    ·
      refine s_iconst (v := (0 : Int32)) C dX13_writeAll_44 (by decide) ?_
      exact g_sub [0, 1] rfl (hj45 μ n0 (μ.1 28 3 p1.toNatClampNeg) (μ.1 28 4 p1.toNatClampNeg) (μ.1 28 5 p1.toNatClampNeg) (0 : Int32) g0)
    ·
      refine s_iconst (v := (1 : Int32)) C dX13_writeAll_40 (by decide) ?_
      refine s_goto (tgt := 45) C dX13_writeAll_41 (by decide) ?_
      exact g_sub [0, 1] rfl (hj45 μ n0 (μ.1 28 3 p1.toNatClampNeg) (μ.1 28 4 p1.toNatClampNeg) (μ.1 28 5 p1.toNatClampNeg) (1 : Int32) g0)
/-! PinEnginesModel.recordLevels()V -/
def fX13_recordLevels (fu : Nat) (n0 : Nat) (μ : Mem) : Option (Unit × Mem) :=
  jn (lp (fun _ _ _ => none) fu (fun j4 (μ1 : Mem) (x2 : Int32) (x3 : Int32) =>
    if (16 : Int32) ≤ x3 then (
      ckI (1 : Int32) (if 0 = 4 then 7000 else 700) <|
      ckD (64 : Int32) <|
      ckI ((220 : Int32) + ((μ1.1 27 0 (1 : Int32).toNatClampNeg) - (μ1.1 27 0 (1 : Int32).toNatClampNeg) / (64 : Int32) * (64 : Int32))) (if 0 = 4 then 7000 else 700) <|
      nm (wI μ1 27 0 ((220 : Int32) + ((μ1.1 27 0 (1 : Int32).toNatClampNeg) - (μ1.1 27 0 (1 : Int32).toNatClampNeg) / (64 : Int32) * (64 : Int32))).toNatClampNeg x2) fun μ5 =>
      some ((), μ5)
    ) else (
      jn (fun (μ6 : Mem) (x7 : Int32) (x8 : Int32) (x9 : Int32) (a10 : Nat) (x12 : Int32) (x13 : Int32) (x14 : Int32) (x15 : Int32) =>
        bnd (fX13_putPin a10 x12 x13 (x14 + x15) μ6) fun _ μ16 =>
        bnd (fX13_ofPin n0 x8 (5 : Int32) μ16) fun x18 μ17 =>
        bnd (fX13_putPin n0 x8 (5 : Int32) (x18 + x9) μ17) fun _ μ19 =>
        bnd (fX13_putPin n0 x8 (3 : Int32) x9 μ19) fun _ μ20 =>
        nm (x8 + (1 : Int32)) fun x21 =>
        j4 μ20 x7 x21
      ) fun j46 =>
      bnd (fX13_levelOf n0 x3 μ1) fun x23 μ22 =>
      nm ((x2 ||| (x23 <<< (x3 &&& 31)))) fun x24 =>
      bnd (fX13_ofPin n0 x3 (4 : Int32) μ22) fun x26 μ25 =>
      bnd (fX13_ofPin n0 x3 (3 : Int32) μ25) fun x28 μ27 =>
      if x23 = x28 then (
        j46 μ27 x24 x3 x23 n0 x3 (4 : Int32) x26 (0 : Int32)
      ) else (
        j46 μ27 x24 x3 x23 n0 x3 (4 : Int32) x26 (1 : Int32)
      )
    )
  )) fun j4 =>
  j4 μ (0 : Int32) (0 : Int32)
set_option maxHeartbeats 4000000 in
set_option maxRecDepth 100000 in
theorem kX13_recordLevels (l : Launch) (fu : Nat) (n0 : Nat) (g0 : n0 < 1) : Kon 1 l yX13_recordLevels cX13_recordLevels 4 (none) 2 43 0 0 (fun ad => [.ref (ad 26 n0)]) rvV (fun μ => fX13_recordLevels fu n0 μ) := by
  refine kon_of (by decide) (fun _ => Nat.le_of_ble_eq_true rfl) (fun X r0 μ hXl hXn V C E => ?_)
  have hN : ∀ i : Nat, i < 4 → i < xn X := fun i h => hXn.symm ▸ h
  have R0 := fen_rm E
  show G X r0 0 0 μ 0 [(0, .ref (xa X 26 n0))] [] (fX13_recordLevels fu n0 μ)
  unfold fX13_recordLevels
  refine g_jl (P := fun j4 => ∀ (μ1 : Mem) (x2 : Int32) (x3 : Int32), G X r0 0 0 μ1 4 [(0, .ref (xa X 26 n0)), (1, .int x2), (2, .int x3)] [] (j4 μ1 x2 x3)) (fun _ _ _ => g_none) (fun j4 hj4 => ?_) (fun j4 hj4 => ?_)
  · intro μ1 x2 x3
    refine s_iload_n C dX13_recordLevels_4 rfl 2 rfl ?_
    refine s_bipush (v := (16 : Int32)) C dX13_recordLevels_5 (by decide) ?_
    refine s_icmp_ge (tgt := 77) C dX13_recordLevels_7 (by decide) (fun c4 => ?_) (fun c4 => ?_)
    ·
      refine s_aload_n C dX13_recordLevels_77 rfl 0 rfl ?_
      refine s_getF C (fgX13_9_26 (Nat.le_trans (by decide) V)) g0 dX13_recordLevels_78 ?_
      refine s_sipush (v := (220 : Int32)) C dX13_recordLevels_81 (by decide) ?_
      refine s_aload_n C dX13_recordLevels_84 rfl 0 rfl ?_
      refine s_getF C (fgX13_9_26 (Nat.le_trans (by decide) V)) g0 dX13_recordLevels_85 ?_
      refine s_iconst (v := (1 : Int32)) C dX13_recordLevels_88 (by decide) ?_
      refine s_iald C (ag27 (Nat.le_trans (by decide) V)) (by decide) dX13_recordLevels_89 ?_
      refine s_bipush (v := (64 : Int32)) C dX13_recordLevels_90 (by decide) ?_
      refine s_irem C dX13_recordLevels_92 ?_
      refine s_iadd C dX13_recordLevels_93 ?_
      refine s_iload_n C dX13_recordLevels_94 rfl 1 rfl ?_
      refine s_iast C (ag27 (Nat.le_trans (by decide) V)) (by decide) dX13_recordLevels_95 ?_
      refine g_nmM (fun μ5 => ?_)
      exact s_vret C E dX13_recordLevels_96
    ·
      refine g_jn (P := fun j46 => ∀ (μ6 : Mem) (x7 : Int32) (x8 : Int32) (x9 : Int32) (a10 : Nat) (x12 : Int32) (x13 : Int32) (x14 : Int32) (x15 : Int32), a10 < 1 → G X r0 0 0 μ6 46 [(0, .ref (xa X 26 n0)), (1, .int x7), (2, .int x8), (3, .int x9)] [.int x15, .int x14, .int x13, .int x12, .ref (xa X 26 a10)] (j46 μ6 x7 x8 x9 a10 x12 x13 x14 x15)) ?_ (fun j46 hj46 => ?_)
      · intro μ6 x7 x8 x9 a10 x12 x13 x14 x15 b11
        refine s_iadd C dX13_recordLevels_46 ?_
        refine s_callV C R0 (kX13_putPin (xl X) a10 b11 x12 x13 (x14 + x15)) (Nat.le_trans (by decide) V) mmX13_putPin miX13_putPin q2416 (rc26 (Nat.le_trans (by decide) V)) b11 rfl rfl rfl (Nat.le_of_ble_eq_true rfl) ⟨Nat.le_of_ble_eq_true rfl, Nat.le_of_ble_eq_true rfl, Nat.le_of_ble_eq_true rfl, Nat.le_of_ble_eq_true rfl⟩ dX13_recordLevels_47 (fun _ μ16 => ?_)
        refine g_st (st' := []) rfl ?_
        refine s_aload_n C dX13_recordLevels_50 rfl 0 rfl ?_
        refine s_iload_n C dX13_recordLevels_51 rfl 2 rfl ?_
        refine s_iconst (v := (5 : Int32)) C dX13_recordLevels_52 (by decide) ?_
        refine s_aload_n C dX13_recordLevels_53 rfl 0 rfl ?_
        refine s_iload_n C dX13_recordLevels_54 rfl 2 rfl ?_
        refine s_iconst (v := (5 : Int32)) C dX13_recordLevels_55 (by decide) ?_
        refine s_callV C R0 (kX13_ofPin (xl X) n0 g0 x8 (5 : Int32)) (Nat.le_trans (by decide) V) mmX13_ofPin miX13_ofPin q2267 (rc26 (Nat.le_trans (by decide) V)) g0 rfl rfl rfl (Nat.le_of_ble_eq_true rfl) ⟨Nat.le_of_ble_eq_true rfl, Nat.le_of_ble_eq_true rfl, Nat.le_of_ble_eq_true rfl, Nat.le_of_ble_eq_true rfl⟩ dX13_recordLevels_56 (fun x18 μ17 => ?_)
        refine g_st (st' := [.int x18, .int (5 : Int32), .int x8, .ref (xa X 26 n0)]) rfl ?_
        refine s_iload_n C dX13_recordLevels_59 rfl 3 rfl ?_
        refine s_iadd C dX13_recordLevels_60 ?_
        refine s_callV C R0 (kX13_putPin (xl X) n0 g0 x8 (5 : Int32) (x18 + x9)) (Nat.le_trans (by decide) V) mmX13_putPin miX13_putPin q2416 (rc26 (Nat.le_trans (by decide) V)) g0 rfl rfl rfl (Nat.le_of_ble_eq_true rfl) ⟨Nat.le_of_ble_eq_true rfl, Nat.le_of_ble_eq_true rfl, Nat.le_of_ble_eq_true rfl, Nat.le_of_ble_eq_true rfl⟩ dX13_recordLevels_61 (fun _ μ19 => ?_)
        refine g_st (st' := []) rfl ?_
        refine s_aload_n C dX13_recordLevels_64 rfl 0 rfl ?_
        refine s_iload_n C dX13_recordLevels_65 rfl 2 rfl ?_
        refine s_iconst (v := (3 : Int32)) C dX13_recordLevels_66 (by decide) ?_
        refine s_iload_n C dX13_recordLevels_67 rfl 3 rfl ?_
        refine s_callV C R0 (kX13_putPin (xl X) n0 g0 x8 (3 : Int32) x9) (Nat.le_trans (by decide) V) mmX13_putPin miX13_putPin q2416 (rc26 (Nat.le_trans (by decide) V)) g0 rfl rfl rfl (Nat.le_of_ble_eq_true rfl) ⟨Nat.le_of_ble_eq_true rfl, Nat.le_of_ble_eq_true rfl, Nat.le_of_ble_eq_true rfl, Nat.le_of_ble_eq_true rfl⟩ dX13_recordLevels_68 (fun _ μ20 => ?_)
        refine g_st (st' := []) rfl ?_
        refine g_nmQ (fun x21 ex21 => ?_)
        refine s_iinc (v := x21) (j := 2) (L' := [(2, .int x21), (0, .ref (xa X 26 n0)), (1, .int x7), (3, .int x9)]) C dX13_recordLevels_71 rfl (by rw [ex21]; rfl) (hN 2 (by decide)) rfl ?_
        refine s_goto (tgt := 4) C dX13_recordLevels_74 (by decide) ?_
        exact g_sub [1, 2, 0] rfl (hj4 μ20 x7 x21)
      refine s_aload_n C dX13_recordLevels_10 rfl 0 rfl ?_
      refine s_iload_n C dX13_recordLevels_11 rfl 2 rfl ?_
      refine s_callV C R0 (kX13_levelOf (xl X) n0 g0 x3) (Nat.le_trans (by decide) V) mmX13_levelOf miX13_levelOf q2263 (rc26 (Nat.le_trans (by decide) V)) g0 rfl rfl rfl (Nat.le_of_ble_eq_true rfl) ⟨Nat.le_of_ble_eq_true rfl, Nat.le_of_ble_eq_true rfl, Nat.le_of_ble_eq_true rfl, Nat.le_of_ble_eq_true rfl⟩ dX13_recordLevels_12 (fun x23 μ22 => ?_)
      refine g_st (st' := [.int x23]) rfl ?_
      refine s_istore_n (L' := [(3, .int x23), (0, .ref (xa X 26 n0)), (1, .int x2), (2, .int x3)]) C dX13_recordLevels_15 rfl (hN 3 (by decide)) rfl ?_
      refine s_iload_n C dX13_recordLevels_16 rfl 2 rfl ?_
      refine s_iload_n C dX13_recordLevels_17 rfl 0 rfl ?_
      refine s_iload_n C dX13_recordLevels_18 rfl 3 rfl ?_
      refine s_ishl C dX13_recordLevels_19 ?_
      refine s_ior C dX13_recordLevels_20 ?_
      refine g_nmI (fun x24 => ?_)
      refine s_istore_n (L' := [(1, .int x24), (3, .int x23), (0, .ref (xa X 26 n0)), (2, .int x3)]) C dX13_recordLevels_21 rfl (hN 1 (by decide)) rfl ?_
      refine s_aload_n C dX13_recordLevels_22 rfl 2 rfl ?_
      refine s_iload_n C dX13_recordLevels_23 rfl 3 rfl ?_
      refine s_iconst (v := (4 : Int32)) C dX13_recordLevels_24 (by decide) ?_
      refine s_aload_n C dX13_recordLevels_25 rfl 2 rfl ?_
      refine s_iload_n C dX13_recordLevels_26 rfl 3 rfl ?_
      refine s_iconst (v := (4 : Int32)) C dX13_recordLevels_27 (by decide) ?_
      refine s_callV C R0 (kX13_ofPin (xl X) n0 g0 x3 (4 : Int32)) (Nat.le_trans (by decide) V) mmX13_ofPin miX13_ofPin q2267 (rc26 (Nat.le_trans (by decide) V)) g0 rfl rfl rfl (Nat.le_of_ble_eq_true rfl) ⟨Nat.le_of_ble_eq_true rfl, Nat.le_of_ble_eq_true rfl, Nat.le_of_ble_eq_true rfl, Nat.le_of_ble_eq_true rfl⟩ dX13_recordLevels_28 (fun x26 μ25 => ?_)
      refine g_st (st' := [.int x26, .int (4 : Int32), .int x3, .ref (xa X 26 n0)]) rfl ?_
      refine s_iload_n C dX13_recordLevels_31 rfl 1 rfl ?_
      refine s_aload_n C dX13_recordLevels_32 rfl 2 rfl ?_
      refine s_iload_n C dX13_recordLevels_33 rfl 3 rfl ?_
      refine s_iconst (v := (3 : Int32)) C dX13_recordLevels_34 (by decide) ?_
      refine s_callV C R0 (kX13_ofPin (xl X) n0 g0 x3 (3 : Int32)) (Nat.le_trans (by decide) V) mmX13_ofPin miX13_ofPin q2267 (rc26 (Nat.le_trans (by decide) V)) g0 rfl rfl rfl (Nat.le_of_ble_eq_true rfl) ⟨Nat.le_of_ble_eq_true rfl, Nat.le_of_ble_eq_true rfl, Nat.le_of_ble_eq_true rfl, Nat.le_of_ble_eq_true rfl⟩ dX13_recordLevels_35 (fun x28 μ27 => ?_)
      refine g_st (st' := [.int x28, .int x23, .int x26, .int (4 : Int32), .int x3, .ref (xa X 26 n0)]) rfl ?_
      refine s_icmp_eq (tgt := 45) C dX13_recordLevels_38 (by decide) (fun c29 => ?_) (fun c29 => ?_)
      ·
        refine s_iconst (v := (0 : Int32)) C dX13_recordLevels_45 (by decide) ?_
        exact g_sub [2, 0, 3, 1] rfl (hj46 μ27 x24 x3 x23 n0 x3 (4 : Int32) x26 (0 : Int32) g0)
      ·
        refine s_iconst (v := (1 : Int32)) C dX13_recordLevels_41 (by decide) ?_
        refine s_goto (tgt := 46) C dX13_recordLevels_42 (by decide) ?_
        exact g_sub [2, 0, 3, 1] rfl (hj46 μ27 x24 x3 x23 n0 x3 (4 : Int32) x26 (1 : Int32) g0)
  refine s_iconst (v := (0 : Int32)) C dX13_recordLevels_0 (by decide) ?_
  refine s_istore_n (L' := [(1, .int (0 : Int32)), (0, .ref (xa X 26 n0))]) C dX13_recordLevels_1 rfl (hN 1 (by decide)) rfl ?_
  refine s_iconst (v := (0 : Int32)) C dX13_recordLevels_2 (by decide) ?_
  refine s_istore_n (L' := [(2, .int (0 : Int32)), (1, .int (0 : Int32)), (0, .ref (xa X 26 n0))]) C dX13_recordLevels_3 rfl (hN 2 (by decide)) rfl ?_
  exact g_sub [2, 1, 0] rfl (hj4 μ (0 : Int32) (0 : Int32))
/-! PinEnginesModel.nextAddress(I)I -/
def fX13_nextAddress (n0 : Nat) (p1 : Int32) (μ : Mem) : Option (Int32 × Mem) :=
  jn (fun (μ1 : Mem) (x2 : Int32) =>
    some (x2, μ1)
  ) fun j36 =>
  bnd (fX13_of n0 p1 (1 : Int32) μ) fun x4 μ3 =>
  bnd (fX13_setting n0 p1 (4 : Int32) μ3) fun x6 μ5 =>
  if ¬ x4 = x6 then (
    ckI (0 : Int32) (if 0 = 4 then 7000 else 700) <|
    ckD (μ5.1 27 0 (0 : Int32).toNatClampNeg) <|
    j36 μ5 ((x4 + (1 : Int32)) - (x4 + (1 : Int32)) / (μ5.1 27 0 (0 : Int32).toNatClampNeg) * (μ5.1 27 0 (0 : Int32).toNatClampNeg))
  ) else (
    bnd (fX13_setting n0 p1 (3 : Int32) μ5) fun x9 μ8 =>
    j36 μ8 x9
  )
set_option maxHeartbeats 4000000 in
set_option maxRecDepth 100000 in
theorem kX13_nextAddress (l : Launch) (n0 : Nat) (g0 : n0 < 1) (p1 : Int32) : Kon 1 l yX13_nextAddress cX13_nextAddress 3 (some .int) 1 22 0 0 (fun ad => [.ref (ad 26 n0), .int p1]) rvI (fun μ => fX13_nextAddress n0 p1 μ) := by
  refine kon_of (by decide) (fun _ => Nat.le_of_ble_eq_true rfl) (fun X r0 μ hXl hXn V C E => ?_)
  have hN : ∀ i : Nat, i < 3 → i < xn X := fun i h => hXn.symm ▸ h
  have R0 := fen_rm E
  show G X r0 0 0 μ 0 [(0, .ref (xa X 26 n0)), (1, .int p1)] [] (fX13_nextAddress n0 p1 μ)
  unfold fX13_nextAddress
  refine g_jn (P := fun j36 => ∀ (μ1 : Mem) (x2 : Int32), G X r0 0 0 μ1 36 [] [.int x2] (j36 μ1 x2)) ?_ (fun j36 hj36 => ?_)
  · intro μ1 x2
    exact s_iret C E dX13_nextAddress_36
  refine s_aload_n C dX13_nextAddress_0 rfl 0 rfl ?_
  refine s_iload_n C dX13_nextAddress_1 rfl 1 rfl ?_
  refine s_iconst (v := (1 : Int32)) C dX13_nextAddress_2 (by decide) ?_
  refine s_callV C R0 (kX13_of (xl X) n0 g0 p1 (1 : Int32)) (Nat.le_trans (by decide) V) mmX13_of miX13_of q2307 (rc26 (Nat.le_trans (by decide) V)) g0 rfl rfl rfl (Nat.le_of_ble_eq_true rfl) ⟨Nat.le_of_ble_eq_true rfl, Nat.le_of_ble_eq_true rfl, Nat.le_of_ble_eq_true rfl, Nat.le_of_ble_eq_true rfl⟩ dX13_nextAddress_3 (fun x4 μ3 => ?_)
  refine g_st (st' := [.int x4]) rfl ?_
  refine s_istore_n (L' := [(2, .int x4), (0, .ref (xa X 26 n0)), (1, .int p1)]) C dX13_nextAddress_6 rfl (hN 2 (by decide)) rfl ?_
  refine s_iload_n C dX13_nextAddress_7 rfl 0 rfl ?_
  refine s_aload_n C dX13_nextAddress_8 rfl 1 rfl ?_
  refine s_iload_n C dX13_nextAddress_9 rfl 2 rfl ?_
  refine s_iconst (v := (4 : Int32)) C dX13_nextAddress_10 (by decide) ?_
  refine s_callV C R0 (kX13_setting (xl X) n0 g0 p1 (4 : Int32)) (Nat.le_trans (by decide) V) mmX13_setting miX13_setting q2241 (rc26 (Nat.le_trans (by decide) V)) g0 rfl rfl rfl (Nat.le_of_ble_eq_true rfl) ⟨Nat.le_of_ble_eq_true rfl, Nat.le_of_ble_eq_true rfl, Nat.le_of_ble_eq_true rfl, Nat.le_of_ble_eq_true rfl⟩ dX13_nextAddress_11 (fun x6 μ5 => ?_)
  refine g_st (st' := [.int x6, .int x4]) rfl ?_
  refine s_icmp_ne (tgt := 26) C dX13_nextAddress_14 (by decide) (fun c7 => ?_) (fun c7 => ?_)
  ·
    refine s_iload_n C dX13_nextAddress_26 rfl 0 rfl ?_
    refine s_iconst (v := (1 : Int32)) C dX13_nextAddress_27 (by decide) ?_
    refine s_iadd C dX13_nextAddress_28 ?_
    refine s_aload_n C dX13_nextAddress_29 rfl 1 rfl ?_
    refine s_getF C (fgX13_9_26 (Nat.le_trans (by decide) V)) g0 dX13_nextAddress_30 ?_
    refine s_iconst (v := (0 : Int32)) C dX13_nextAddress_33 (by decide) ?_
    refine s_iald C (ag27 (Nat.le_trans (by decide) V)) (by decide) dX13_nextAddress_34 ?_
    refine s_irem C dX13_nextAddress_35 ?_
    exact g_sub [] rfl (hj36 μ5 ((x4 + (1 : Int32)) - (x4 + (1 : Int32)) / (μ5.1 27 0 (0 : Int32).toNatClampNeg) * (μ5.1 27 0 (0 : Int32).toNatClampNeg)))
  ·
    refine s_aload_n C dX13_nextAddress_17 rfl 1 rfl ?_
    refine s_iload_n C dX13_nextAddress_18 rfl 2 rfl ?_
    refine s_iconst (v := (3 : Int32)) C dX13_nextAddress_19 (by decide) ?_
    refine s_callV C R0 (kX13_setting (xl X) n0 g0 p1 (3 : Int32)) (Nat.le_trans (by decide) V) mmX13_setting miX13_setting q2241 (rc26 (Nat.le_trans (by decide) V)) g0 rfl rfl rfl (Nat.le_of_ble_eq_true rfl) ⟨Nat.le_of_ble_eq_true rfl, Nat.le_of_ble_eq_true rfl, Nat.le_of_ble_eq_true rfl, Nat.le_of_ble_eq_true rfl⟩ dX13_nextAddress_20 (fun x9 μ8 => ?_)
    refine g_st (st' := [.int x9]) rfl ?_
    refine s_goto (tgt := 36) C dX13_nextAddress_23 (by decide) ?_
    exact g_sub [] rfl (hj36 μ8 x9)
/-! PinEnginesModel.jumpToWord(I)V -/
def fX13_jumpToWord (n0 : Nat) (p1 : Int32) (μ : Mem) : Option (Unit × Mem) :=
  bnd (fX13_unsigned p1 μ) fun y2 μ1 =>
  ckI (0 : Int32) (if 0 = 4 then 7000 else 700) <|
  ckL ((μ1.1 27 0 (0 : Int32).toNatClampNeg).toInt64) <|
  nm (wI μ1 26 n0 19 ((y2 - y2 / ((μ1.1 27 0 (0 : Int32).toNatClampNeg).toInt64) * ((μ1.1 27 0 (0 : Int32).toNatClampNeg).toInt64)).toInt32)) fun μ3 =>
  some ((), μ3)
set_option maxHeartbeats 4000000 in
set_option maxRecDepth 100000 in
theorem kX13_jumpToWord (l : Launch) (n0 : Nat) (g0 : n0 < 1) (p1 : Int32) : Kon 1 l yX13_jumpToWord cX13_jumpToWord 2 (none) 1 20 0 0 (fun ad => [.ref (ad 26 n0), .int p1]) rvV (fun μ => fX13_jumpToWord n0 p1 μ) := by
  refine kon_of (by decide) (fun _ => Nat.le_of_ble_eq_true rfl) (fun X r0 μ hXl hXn V C E => ?_)
  have hN : ∀ i : Nat, i < 2 → i < xn X := fun i h => hXn.symm ▸ h
  have R0 := fen_rm E
  show G X r0 0 0 μ 0 [(0, .ref (xa X 26 n0)), (1, .int p1)] [] (fX13_jumpToWord n0 p1 μ)
  unfold fX13_jumpToWord
  refine s_aload_n C dX13_jumpToWord_0 rfl 0 rfl ?_
  refine s_iload_n C dX13_jumpToWord_1 rfl 1 rfl ?_
  refine s_callS C R0 (kX13_unsigned (xl X) p1) (Nat.le_trans (by decide) V) mmX13_unsigned q2344 q2343 rfl rfl rfl rfl (Nat.le_of_ble_eq_true rfl) ⟨Nat.le_of_ble_eq_true rfl, Nat.le_of_ble_eq_true rfl, Nat.le_of_ble_eq_true rfl, Nat.le_of_ble_eq_true rfl⟩ dX13_jumpToWord_2 (fun y2 μ1 => ?_)
  refine g_st (st' := [.long y2, .ref (xa X 26 n0)]) rfl ?_
  refine s_aload_n C dX13_jumpToWord_5 rfl 0 rfl ?_
  refine s_getF C (fgX13_9_26 (Nat.le_trans (by decide) V)) g0 dX13_jumpToWord_6 ?_
  refine s_iconst (v := (0 : Int32)) C dX13_jumpToWord_9 (by decide) ?_
  refine s_iald C (ag27 (Nat.le_trans (by decide) V)) (by decide) dX13_jumpToWord_10 ?_
  refine s_i2l C dX13_jumpToWord_11 ?_
  refine s_lrem C dX13_jumpToWord_12 ?_
  refine s_l2i C dX13_jumpToWord_13 ?_
  refine s_putI C (fpX13_332_26 (Nat.le_trans (by decide) V)) g0 dX13_jumpToWord_14 ?_
  refine g_nmM (fun μ3 => ?_)
  exact s_vret C E dX13_jumpToWord_17
/-! PinEnginesModel.decrease(II)Z -/
def fX13_decrease (n0 : Nat) (p1 : Int32) (p2 : Int32) (μ : Mem) : Option (Int32 × Mem) :=
  jn (fun (μ1 : Mem) (x2 : Int32) =>
    bnd (fX13_add n0 p1 p2 (-1 : Int32) μ1) fun _ μ3 =>
    ckZ x2 (some (x2, μ3))
  ) fun j14 =>
  bnd (fX13_of n0 p1 p2 μ) fun x5 μ4 =>
  if x5 = 0 then (
    j14 μ4 (0 : Int32)
  ) else (
    j14 μ4 (1 : Int32)
  )
set_option maxHeartbeats 4000000 in
set_option maxRecDepth 100000 in
theorem kX13_decrease (l : Launch) (n0 : Nat) (g0 : n0 < 1) (p1 : Int32) (p2 : Int32) : Kon 1 l yX13_decrease cX13_decrease 4 (some .boolean) 1 23 0 0 (fun ad => [.ref (ad 26 n0), .int p1, .int p2]) rvI (fun μ => fX13_decrease n0 p1 p2 μ) := by
  refine kon_of (by decide) (fun _ => Nat.le_of_ble_eq_true rfl) (fun X r0 μ hXl hXn V C E => ?_)
  have hN : ∀ i : Nat, i < 4 → i < xn X := fun i h => hXn.symm ▸ h
  have R0 := fen_rm E
  show G X r0 0 0 μ 0 [(0, .ref (xa X 26 n0)), (1, .int p1), (2, .int p2)] [] (fX13_decrease n0 p1 p2 μ)
  unfold fX13_decrease
  refine g_jn (P := fun j14 => ∀ (μ1 : Mem) (x2 : Int32), G X r0 0 0 μ1 14 [(0, .ref (xa X 26 n0)), (1, .int p1), (2, .int p2)] [.int x2] (j14 μ1 x2)) ?_ (fun j14 hj14 => ?_)
  · intro μ1 x2
    refine s_istore_n (L' := [(3, .int x2), (0, .ref (xa X 26 n0)), (1, .int p1), (2, .int p2)]) C dX13_decrease_14 rfl (hN 3 (by decide)) rfl ?_
    refine s_aload_n C dX13_decrease_15 rfl 1 rfl ?_
    refine s_iload_n C dX13_decrease_16 rfl 2 rfl ?_
    refine s_iload_n C dX13_decrease_17 rfl 3 rfl ?_
    refine s_iconst (v := (-1 : Int32)) C dX13_decrease_18 (by decide) ?_
    refine s_callV C R0 (kX13_add (xl X) n0 g0 p1 p2 (-1 : Int32)) (Nat.le_trans (by decide) V) mmX13_add miX13_add q2387 (rc26 (Nat.le_trans (by decide) V)) g0 rfl rfl rfl (Nat.le_of_ble_eq_true rfl) ⟨Nat.le_of_ble_eq_true rfl, Nat.le_of_ble_eq_true rfl, Nat.le_of_ble_eq_true rfl, Nat.le_of_ble_eq_true rfl⟩ dX13_decrease_19 (fun _ μ3 => ?_)
    refine g_st (st' := []) rfl ?_
    refine s_iload_n C dX13_decrease_22 rfl 0 rfl ?_
    exact s_zret C E dX13_decrease_23
  refine s_aload_n C dX13_decrease_0 rfl 0 rfl ?_
  refine s_iload_n C dX13_decrease_1 rfl 1 rfl ?_
  refine s_iload_n C dX13_decrease_2 rfl 2 rfl ?_
  refine s_callV C R0 (kX13_of (xl X) n0 g0 p1 p2) (Nat.le_trans (by decide) V) mmX13_of miX13_of q2307 (rc26 (Nat.le_trans (by decide) V)) g0 rfl rfl rfl (Nat.le_of_ble_eq_true rfl) ⟨Nat.le_of_ble_eq_true rfl, Nat.le_of_ble_eq_true rfl, Nat.le_of_ble_eq_true rfl, Nat.le_of_ble_eq_true rfl⟩ dX13_decrease_3 (fun x5 μ4 => ?_)
  refine g_st (st' := [.int x5]) rfl ?_
  refine s_if_eq (tgt := 13) C dX13_decrease_6 (by decide) (fun c6 => ?_) (fun c6 => ?_)
  ·
    refine s_iconst (v := (0 : Int32)) C dX13_decrease_13 (by decide) ?_
    exact g_sub [0, 1, 2] rfl (hj14 μ4 (0 : Int32))
  ·
    refine s_iconst (v := (1 : Int32)) C dX13_decrease_9 (by decide) ?_
    refine s_goto (tgt := 14) C dX13_decrease_10 (by decide) ?_
    exact g_sub [0, 1, 2] rfl (hj14 μ4 (1 : Int32))
/-! PinEnginesModel.holds(II)Z -/
def fX13_holds (n0 : Nat) (p1 : Int32) (p2 : Int32) (μ : Mem) : Option (Int32 × Mem) :=
  if p2 = (0 : Int32) then (
    ckZ (1 : Int32) (some ((1 : Int32), μ))
  ) else (
  if p2 = (1 : Int32) then (
    jn (fun (μ3 : Mem) (x4 : Int32) =>
      ckZ x4 (some (x4, μ3))
    ) fun j60 =>
    bnd (fX13_of n0 p1 (2 : Int32) μ) fun x6 μ5 =>
    if ¬ x6 = 0 then (
      j60 μ5 (0 : Int32)
    ) else (
      j60 μ5 (1 : Int32)
    )
  ) else (
  if p2 = (2 : Int32) then (
    jn (fun (μ9 : Mem) (x10 : Int32) =>
      ckZ x10 (some (x10, μ9))
    ) fun j75 =>
    bnd (fX13_of n0 p1 (3 : Int32) μ) fun x12 μ11 =>
    if ¬ x12 = 0 then (
      j75 μ11 (0 : Int32)
    ) else (
      j75 μ11 (1 : Int32)
    )
  ) else (
  if p2 = (3 : Int32) then (
    bnd (fX13_decrease n0 p1 (2 : Int32) μ) fun x16 μ15 =>
    ckZ x16 (some (x16, μ15))
  ) else (
  if p2 = (4 : Int32) then (
    bnd (fX13_decrease n0 p1 (3 : Int32) μ) fun x19 μ18 =>
    ckZ x19 (some (x19, μ18))
  ) else (
  if p2 = (5 : Int32) then (
    jn (fun (μ21 : Mem) (x22 : Int32) =>
      ckZ x22 (some (x22, μ21))
    ) fun j110 =>
    bnd (fX13_of n0 p1 (2 : Int32) μ) fun x24 μ23 =>
    bnd (fX13_of n0 p1 (3 : Int32) μ23) fun x26 μ25 =>
    if x24 = x26 then (
      j110 μ25 (0 : Int32)
    ) else (
      j110 μ25 (1 : Int32)
    )
  ) else (
  if p2 = (6 : Int32) then (
    jn (fun (μ29 : Mem) (x30 : Int32) =>
      ckZ x30 (some (x30, μ29))
    ) fun j132 =>
    bnd (fX13_setting n0 p1 (12 : Int32) μ) fun x32 μ31 =>
    ckI x32 (mil.getD 0 0) <|
    if ¬ (μ31.1 28 0 x32.toNatClampNeg) = (1 : Int32) then (
      j132 μ31 (0 : Int32)
    ) else (
      j132 μ31 (1 : Int32)
    )
  ) else (
  jn (fun (μ34 : Mem) (x35 : Int32) =>
    ckZ x35 (some (x35, μ34))
  ) fun j155 =>
  bnd (fX13_of n0 p1 (7 : Int32) μ) fun x37 μ36 =>
  bnd (fX13_setting n0 p1 (17 : Int32) μ36) fun x39 μ38 =>
  if x39 ≤ x37 then (
    j155 μ38 (0 : Int32)
  ) else (
    j155 μ38 (1 : Int32)
  )
  )))))))
set_option maxHeartbeats 4000000 in
set_option maxRecDepth 100000 in
theorem kX13_holds (l : Launch) (n0 : Nat) (g0 : n0 < 1) (p1 : Int32) (p2 : Int32) : Kon 1 l yX13_holds cX13_holds 3 (some .boolean) 2 46 0 0 (fun ad => [.ref (ad 26 n0), .int p1, .int p2]) rvI (fun μ => fX13_holds n0 p1 p2 μ) := by
  refine kon_of (by decide) (fun _ => Nat.le_of_ble_eq_true rfl) (fun X r0 μ hXl hXn V C E => ?_)
  have hN : ∀ i : Nat, i < 3 → i < xn X := fun i h => hXn.symm ▸ h
  have R0 := fen_rm E
  show G X r0 0 0 μ 0 [(0, .ref (xa X 26 n0)), (1, .int p1), (2, .int p2)] [] (fX13_holds n0 p1 p2 μ)
  unfold fX13_holds
  refine s_iload_n C dX13_holds_0 rfl 2 rfl ?_
  refine g_cases (v := (0 : Int32)) (fun c1 => ?_) (fun c1 => ?_)
  ·
    refine s_tin (tgt := 44) C dX13_holds_1 c1 (by decide) (by decide) rfl (by decide) ?_
    refine s_iconst (v := (1 : Int32)) C dX13_holds_44 (by decide) ?_
    exact s_zret C E dX13_holds_45
  ·
    refine g_cases (v := (1 : Int32)) (fun c2 => ?_) (fun c2 => ?_)
    ·
      refine s_tin (tgt := 46) C dX13_holds_1 c2 (by decide) (by decide) rfl (by decide) ?_
      refine g_jn (P := fun j60 => ∀ (μ3 : Mem) (x4 : Int32), G X r0 0 0 μ3 60 [] [.int x4] (j60 μ3 x4)) ?_ (fun j60 hj60 => ?_)
      · intro μ3 x4
        exact s_zret C E dX13_holds_60
      refine s_aload_n C dX13_holds_46 rfl 0 rfl ?_
      refine s_iload_n C dX13_holds_47 rfl 1 rfl ?_
      refine s_iconst (v := (2 : Int32)) C dX13_holds_48 (by decide) ?_
      refine s_callV C R0 (kX13_of (xl X) n0 g0 p1 (2 : Int32)) (Nat.le_trans (by decide) V) mmX13_of miX13_of q2307 (rc26 (Nat.le_trans (by decide) V)) g0 rfl rfl rfl (Nat.le_of_ble_eq_true rfl) ⟨Nat.le_of_ble_eq_true rfl, Nat.le_of_ble_eq_true rfl, Nat.le_of_ble_eq_true rfl, Nat.le_of_ble_eq_true rfl⟩ dX13_holds_49 (fun x6 μ5 => ?_)
      refine g_st (st' := [.int x6]) rfl ?_
      refine s_if_ne (tgt := 59) C dX13_holds_52 (by decide) (fun c7 => ?_) (fun c7 => ?_)
      ·
        refine s_iconst (v := (0 : Int32)) C dX13_holds_59 (by decide) ?_
        exact g_sub [] rfl (hj60 μ5 (0 : Int32))
      ·
        refine s_iconst (v := (1 : Int32)) C dX13_holds_55 (by decide) ?_
        refine s_goto (tgt := 60) C dX13_holds_56 (by decide) ?_
        exact g_sub [] rfl (hj60 μ5 (1 : Int32))
    ·
      refine g_cases (v := (2 : Int32)) (fun c8 => ?_) (fun c8 => ?_)
      ·
        refine s_tin (tgt := 61) C dX13_holds_1 c8 (by decide) (by decide) rfl (by decide) ?_
        refine g_jn (P := fun j75 => ∀ (μ9 : Mem) (x10 : Int32), G X r0 0 0 μ9 75 [] [.int x10] (j75 μ9 x10)) ?_ (fun j75 hj75 => ?_)
        · intro μ9 x10
          exact s_zret C E dX13_holds_75
        refine s_aload_n C dX13_holds_61 rfl 0 rfl ?_
        refine s_iload_n C dX13_holds_62 rfl 1 rfl ?_
        refine s_iconst (v := (3 : Int32)) C dX13_holds_63 (by decide) ?_
        refine s_callV C R0 (kX13_of (xl X) n0 g0 p1 (3 : Int32)) (Nat.le_trans (by decide) V) mmX13_of miX13_of q2307 (rc26 (Nat.le_trans (by decide) V)) g0 rfl rfl rfl (Nat.le_of_ble_eq_true rfl) ⟨Nat.le_of_ble_eq_true rfl, Nat.le_of_ble_eq_true rfl, Nat.le_of_ble_eq_true rfl, Nat.le_of_ble_eq_true rfl⟩ dX13_holds_64 (fun x12 μ11 => ?_)
        refine g_st (st' := [.int x12]) rfl ?_
        refine s_if_ne (tgt := 74) C dX13_holds_67 (by decide) (fun c13 => ?_) (fun c13 => ?_)
        ·
          refine s_iconst (v := (0 : Int32)) C dX13_holds_74 (by decide) ?_
          exact g_sub [] rfl (hj75 μ11 (0 : Int32))
        ·
          refine s_iconst (v := (1 : Int32)) C dX13_holds_70 (by decide) ?_
          refine s_goto (tgt := 75) C dX13_holds_71 (by decide) ?_
          exact g_sub [] rfl (hj75 μ11 (1 : Int32))
      ·
        refine g_cases (v := (3 : Int32)) (fun c14 => ?_) (fun c14 => ?_)
        ·
          refine s_tin (tgt := 76) C dX13_holds_1 c14 (by decide) (by decide) rfl (by decide) ?_
          refine s_aload_n C dX13_holds_76 rfl 0 rfl ?_
          refine s_iload_n C dX13_holds_77 rfl 1 rfl ?_
          refine s_iconst (v := (2 : Int32)) C dX13_holds_78 (by decide) ?_
          refine s_callV C R0 (kX13_decrease (xl X) n0 g0 p1 (2 : Int32)) (Nat.le_trans (by decide) V) mmX13_decrease miX13_decrease q2489 (rc26 (Nat.le_trans (by decide) V)) g0 rfl rfl rfl (Nat.le_of_ble_eq_true rfl) ⟨Nat.le_of_ble_eq_true rfl, Nat.le_of_ble_eq_true rfl, Nat.le_of_ble_eq_true rfl, Nat.le_of_ble_eq_true rfl⟩ dX13_holds_79 (fun x16 μ15 => ?_)
          refine g_st (st' := [.int x16]) rfl ?_
          exact s_zret C E dX13_holds_82
        ·
          refine g_cases (v := (4 : Int32)) (fun c17 => ?_) (fun c17 => ?_)
          ·
            refine s_tin (tgt := 83) C dX13_holds_1 c17 (by decide) (by decide) rfl (by decide) ?_
            refine s_aload_n C dX13_holds_83 rfl 0 rfl ?_
            refine s_iload_n C dX13_holds_84 rfl 1 rfl ?_
            refine s_iconst (v := (3 : Int32)) C dX13_holds_85 (by decide) ?_
            refine s_callV C R0 (kX13_decrease (xl X) n0 g0 p1 (3 : Int32)) (Nat.le_trans (by decide) V) mmX13_decrease miX13_decrease q2489 (rc26 (Nat.le_trans (by decide) V)) g0 rfl rfl rfl (Nat.le_of_ble_eq_true rfl) ⟨Nat.le_of_ble_eq_true rfl, Nat.le_of_ble_eq_true rfl, Nat.le_of_ble_eq_true rfl, Nat.le_of_ble_eq_true rfl⟩ dX13_holds_86 (fun x19 μ18 => ?_)
            refine g_st (st' := [.int x19]) rfl ?_
            exact s_zret C E dX13_holds_89
          ·
            refine g_cases (v := (5 : Int32)) (fun c20 => ?_) (fun c20 => ?_)
            ·
              refine s_tin (tgt := 90) C dX13_holds_1 c20 (by decide) (by decide) rfl (by decide) ?_
              refine g_jn (P := fun j110 => ∀ (μ21 : Mem) (x22 : Int32), G X r0 0 0 μ21 110 [] [.int x22] (j110 μ21 x22)) ?_ (fun j110 hj110 => ?_)
              · intro μ21 x22
                exact s_zret C E dX13_holds_110
              refine s_aload_n C dX13_holds_90 rfl 0 rfl ?_
              refine s_iload_n C dX13_holds_91 rfl 1 rfl ?_
              refine s_iconst (v := (2 : Int32)) C dX13_holds_92 (by decide) ?_
              refine s_callV C R0 (kX13_of (xl X) n0 g0 p1 (2 : Int32)) (Nat.le_trans (by decide) V) mmX13_of miX13_of q2307 (rc26 (Nat.le_trans (by decide) V)) g0 rfl rfl rfl (Nat.le_of_ble_eq_true rfl) ⟨Nat.le_of_ble_eq_true rfl, Nat.le_of_ble_eq_true rfl, Nat.le_of_ble_eq_true rfl, Nat.le_of_ble_eq_true rfl⟩ dX13_holds_93 (fun x24 μ23 => ?_)
              refine g_st (st' := [.int x24]) rfl ?_
              refine s_aload_n C dX13_holds_96 rfl 0 rfl ?_
              refine s_iload_n C dX13_holds_97 rfl 1 rfl ?_
              refine s_iconst (v := (3 : Int32)) C dX13_holds_98 (by decide) ?_
              refine s_callV C R0 (kX13_of (xl X) n0 g0 p1 (3 : Int32)) (Nat.le_trans (by decide) V) mmX13_of miX13_of q2307 (rc26 (Nat.le_trans (by decide) V)) g0 rfl rfl rfl (Nat.le_of_ble_eq_true rfl) ⟨Nat.le_of_ble_eq_true rfl, Nat.le_of_ble_eq_true rfl, Nat.le_of_ble_eq_true rfl, Nat.le_of_ble_eq_true rfl⟩ dX13_holds_99 (fun x26 μ25 => ?_)
              refine g_st (st' := [.int x26, .int x24]) rfl ?_
              refine s_icmp_eq (tgt := 109) C dX13_holds_102 (by decide) (fun c27 => ?_) (fun c27 => ?_)
              ·
                refine s_iconst (v := (0 : Int32)) C dX13_holds_109 (by decide) ?_
                exact g_sub [] rfl (hj110 μ25 (0 : Int32))
              ·
                refine s_iconst (v := (1 : Int32)) C dX13_holds_105 (by decide) ?_
                refine s_goto (tgt := 110) C dX13_holds_106 (by decide) ?_
                exact g_sub [] rfl (hj110 μ25 (1 : Int32))
            ·
              refine g_cases (v := (6 : Int32)) (fun c28 => ?_) (fun c28 => ?_)
              ·
                refine s_tin (tgt := 111) C dX13_holds_1 c28 (by decide) (by decide) rfl (by decide) ?_
                refine g_jn (P := fun j132 => ∀ (μ29 : Mem) (x30 : Int32), G X r0 0 0 μ29 132 [] [.int x30] (j132 μ29 x30)) ?_ (fun j132 hj132 => ?_)
                · intro μ29 x30
                  exact s_zret C E dX13_holds_132
                refine s_aload_n C dX13_holds_111 rfl 0 rfl ?_
                refine s_getF C (fgX13_25_26 (Nat.le_trans (by decide) V)) g0 dX13_holds_112 ?_
                refine s_aload_n C dX13_holds_115 rfl 0 rfl ?_
                refine s_iload_n C dX13_holds_116 rfl 1 rfl ?_
                refine s_bipush (v := (12 : Int32)) C dX13_holds_117 (by decide) ?_
                refine s_callV C R0 (kX13_setting (xl X) n0 g0 p1 (12 : Int32)) (Nat.le_trans (by decide) V) mmX13_setting miX13_setting q2241 (rc26 (Nat.le_trans (by decide) V)) g0 rfl rfl rfl (Nat.le_of_ble_eq_true rfl) ⟨Nat.le_of_ble_eq_true rfl, Nat.le_of_ble_eq_true rfl, Nat.le_of_ble_eq_true rfl, Nat.le_of_ble_eq_true rfl⟩ dX13_holds_119 (fun x32 μ31 => ?_)
                refine g_st (st' := [.int x32, .ref (xa X 28 0)]) rfl ?_
                refine s_iald C (ag28 (Nat.le_trans (by decide) V)) (by decide) dX13_holds_122 ?_
                refine s_iconst (v := (1 : Int32)) C dX13_holds_123 (by decide) ?_
                refine s_icmp_ne (tgt := 131) C dX13_holds_124 (by decide) (fun c33 => ?_) (fun c33 => ?_)
                ·
                  refine s_iconst (v := (0 : Int32)) C dX13_holds_131 (by decide) ?_
                  exact g_sub [] rfl (hj132 μ31 (0 : Int32))
                ·
                  refine s_iconst (v := (1 : Int32)) C dX13_holds_127 (by decide) ?_
                  refine s_goto (tgt := 132) C dX13_holds_128 (by decide) ?_
                  exact g_sub [] rfl (hj132 μ31 (1 : Int32))
              ·
                refine s_tout (tgt := 133) C dX13_holds_1 (by have := ine (i := 0) (by decide) c1; have := ine (i := 1) (by decide) c2; have := ine (i := 2) (by decide) c8; have := ine (i := 3) (by decide) c14; have := ine (i := 4) (by decide) c17; have := ine (i := 5) (by decide) c20; have := ine (i := 6) (by decide) c28; omega) (by decide) ?_
                refine g_jn (P := fun j155 => ∀ (μ34 : Mem) (x35 : Int32), G X r0 0 0 μ34 155 [] [.int x35] (j155 μ34 x35)) ?_ (fun j155 hj155 => ?_)
                · intro μ34 x35
                  exact s_zret C E dX13_holds_155
                refine s_aload_n C dX13_holds_133 rfl 0 rfl ?_
                refine s_iload_n C dX13_holds_134 rfl 1 rfl ?_
                refine s_bipush (v := (7 : Int32)) C dX13_holds_135 (by decide) ?_
                refine s_callV C R0 (kX13_of (xl X) n0 g0 p1 (7 : Int32)) (Nat.le_trans (by decide) V) mmX13_of miX13_of q2307 (rc26 (Nat.le_trans (by decide) V)) g0 rfl rfl rfl (Nat.le_of_ble_eq_true rfl) ⟨Nat.le_of_ble_eq_true rfl, Nat.le_of_ble_eq_true rfl, Nat.le_of_ble_eq_true rfl, Nat.le_of_ble_eq_true rfl⟩ dX13_holds_137 (fun x37 μ36 => ?_)
                refine g_st (st' := [.int x37]) rfl ?_
                refine s_aload_n C dX13_holds_140 rfl 0 rfl ?_
                refine s_iload_n C dX13_holds_141 rfl 1 rfl ?_
                refine s_bipush (v := (17 : Int32)) C dX13_holds_142 (by decide) ?_
                refine s_callV C R0 (kX13_setting (xl X) n0 g0 p1 (17 : Int32)) (Nat.le_trans (by decide) V) mmX13_setting miX13_setting q2241 (rc26 (Nat.le_trans (by decide) V)) g0 rfl rfl rfl (Nat.le_of_ble_eq_true rfl) ⟨Nat.le_of_ble_eq_true rfl, Nat.le_of_ble_eq_true rfl, Nat.le_of_ble_eq_true rfl, Nat.le_of_ble_eq_true rfl⟩ dX13_holds_144 (fun x39 μ38 => ?_)
                refine g_st (st' := [.int x39, .int x37]) rfl ?_
                refine s_icmp_ge (tgt := 154) C dX13_holds_147 (by decide) (fun c40 => ?_) (fun c40 => ?_)
                ·
                  refine s_iconst (v := (0 : Int32)) C dX13_holds_154 (by decide) ?_
                  exact g_sub [] rfl (hj155 μ38 (0 : Int32))
                ·
                  refine s_iconst (v := (1 : Int32)) C dX13_holds_150 (by decide) ?_
                  refine s_goto (tgt := 155) C dX13_holds_151 (by decide) ?_
                  exact g_sub [] rfl (hj155 μ38 (1 : Int32))
/-! PinEnginesModel.jump(II)I -/
def fX13_jump (n0 : Nat) (p1 : Int32) (p2 : Int32) (μ : Mem) : Option (Int32 × Mem) :=
  jn (fun (μ1 : Mem) (a2 : Nat) (x4 : Int32) =>
    nm (wI μ1 26 a2 19 x4) fun μ5 =>
    some ((0 : Int32), μ5)
  ) fun j20 =>
  bnd (fX13_holds n0 p1 p2 μ) fun x7 μ6 =>
  if x7 = 0 then (
    j20 μ6 n0 (-1 : Int32)
  ) else (
    bnd (fX13_codeOf n0 p1 (2 : Int32) μ6) fun x10 μ9 =>
    j20 μ9 n0 x10
  )
set_option maxHeartbeats 4000000 in
set_option maxRecDepth 100000 in
theorem kX13_jump (l : Launch) (n0 : Nat) (g0 : n0 < 1) (p1 : Int32) (p2 : Int32) : Kon 1 l yX13_jump cX13_jump 3 (some .int) 3 68 0 0 (fun ad => [.ref (ad 26 n0), .int p1, .int p2]) rvI (fun μ => fX13_jump n0 p1 p2 μ) := by
  refine kon_of (by decide) (fun _ => Nat.le_of_ble_eq_true rfl) (fun X r0 μ hXl hXn V C E => ?_)
  have hN : ∀ i : Nat, i < 3 → i < xn X := fun i h => hXn.symm ▸ h
  have R0 := fen_rm E
  show G X r0 0 0 μ 0 [(0, .ref (xa X 26 n0)), (1, .int p1), (2, .int p2)] [] (fX13_jump n0 p1 p2 μ)
  unfold fX13_jump
  refine g_jn (P := fun j20 => ∀ (μ1 : Mem) (a2 : Nat) (x4 : Int32), a2 < 1 → G X r0 0 0 μ1 20 [] [.int x4, .ref (xa X 26 a2)] (j20 μ1 a2 x4)) ?_ (fun j20 hj20 => ?_)
  · intro μ1 a2 x4 b3
    refine s_putI C (fpX13_332_26 (Nat.le_trans (by decide) V)) b3 dX13_jump_20 ?_
    refine g_nmM (fun μ5 => ?_)
    refine s_iconst (v := (0 : Int32)) C dX13_jump_23 (by decide) ?_
    exact s_iret C E dX13_jump_24
  refine s_aload_n C dX13_jump_0 rfl 0 rfl ?_
  refine s_aload_n C dX13_jump_1 rfl 0 rfl ?_
  refine s_iload_n C dX13_jump_2 rfl 1 rfl ?_
  refine s_iload_n C dX13_jump_3 rfl 2 rfl ?_
  refine s_callV C R0 (kX13_holds (xl X) n0 g0 p1 p2) (Nat.le_trans (by decide) V) mmX13_holds miX13_holds q2485 (rc26 (Nat.le_trans (by decide) V)) g0 rfl rfl rfl (Nat.le_of_ble_eq_true rfl) ⟨Nat.le_of_ble_eq_true rfl, Nat.le_of_ble_eq_true rfl, Nat.le_of_ble_eq_true rfl, Nat.le_of_ble_eq_true rfl⟩ dX13_jump_4 (fun x7 μ6 => ?_)
  refine g_st (st' := [.int x7, .ref (xa X 26 n0)]) rfl ?_
  refine s_if_eq (tgt := 19) C dX13_jump_7 (by decide) (fun c8 => ?_) (fun c8 => ?_)
  ·
    refine s_iconst (v := (-1 : Int32)) C dX13_jump_19 (by decide) ?_
    exact g_sub [] rfl (hj20 μ6 n0 (-1 : Int32) g0)
  ·
    refine s_aload_n C dX13_jump_10 rfl 0 rfl ?_
    refine s_iload_n C dX13_jump_11 rfl 1 rfl ?_
    refine s_iconst (v := (2 : Int32)) C dX13_jump_12 (by decide) ?_
    refine s_callV C R0 (kX13_codeOf (xl X) n0 g0 p1 (2 : Int32)) (Nat.le_trans (by decide) V) mmX13_codeOf miX13_codeOf q2461 (rc26 (Nat.le_trans (by decide) V)) g0 rfl rfl rfl (Nat.le_of_ble_eq_true rfl) ⟨Nat.le_of_ble_eq_true rfl, Nat.le_of_ble_eq_true rfl, Nat.le_of_ble_eq_true rfl, Nat.le_of_ble_eq_true rfl⟩ dX13_jump_13 (fun x10 μ9 => ?_)
    refine g_st (st' := [.int x10, .ref (xa X 26 n0)]) rfl ?_
    refine s_goto (tgt := 20) C dX13_jump_16 (by decide) ?_
    exact g_sub [] rfl (hj20 μ9 n0 x10 g0)
/-! PinEnginesModel.waitFor(II)I -/
def fX13_waitFor (n0 : Nat) (p1 : Int32) (p2 : Int32) (μ : Mem) : Option (Int32 × Mem) :=
  jn (fun (μ1 : Mem) (x2 : Int32) (x3 : Int32) =>
    jn (fun (μ4 : Mem) (x5 : Int32) (x6 : Int32) =>
      if x6 = p2 then (
        jn (fun (μ8 : Mem) (a9 : Nat) (x11 : Int32) (x12 : Int32) =>
          nm (wI μ8 26 a9 17 (x11 ||| x12)) fun μ13 =>
          some ((0 : Int32), μ13)
        ) fun j87 =>
        jn (fun (μ14 : Mem) (a15 : Nat) (x17 : Int32) =>
          j87 μ14 a15 x17 (0 : Int32)
        ) fun j86 =>
        if x5 = 0 then (
          j86 μ4 n0 (μ4.1 26 n0 17)
        ) else (
          if ¬ p2 = (1 : Int32) then (
            j86 μ4 n0 (μ4.1 26 n0 17)
          ) else (
            j87 μ4 n0 (μ4.1 26 n0 17) ((1 : Int32) <<< (x2 &&& 31))
          )
        )
      ) else (
        some ((1 : Int32), μ4)
      )
    ) fun j55 =>
    if x3 = 0 then (
      bnd (fX13_setting n0 p1 (11 : Int32) μ1) fun x22 μ21 =>
      ckD (16 : Int32) <|
      ckI ((x22 + x2) - (x22 + x2) / (16 : Int32) * (16 : Int32)) (mil.getD 0 0) <|
      j55 μ21 x3 (μ21.1 28 0 ((x22 + x2) - (x22 + x2) / (16 : Int32) * (16 : Int32)).toNatClampNeg)
    ) else (
      ckI x2 (mil.getD 1 0) <|
      j55 μ1 x3 (μ1.1 28 1 x2.toNatClampNeg)
    )
  ) fun j22 =>
  bnd (fX13_codeOf n0 p1 (3 : Int32) μ) fun x24 μ23 =>
  bnd (fX13_codeOf n0 p1 (2 : Int32) μ23) fun x26 μ25 =>
  if ¬ x26 = (1 : Int32) then (
    j22 μ25 x24 (0 : Int32)
  ) else (
    j22 μ25 x24 (1 : Int32)
  )
set_option maxHeartbeats 4000000 in
set_option maxRecDepth 100000 in
theorem kX13_waitFor (l : Launch) (n0 : Nat) (g0 : n0 < 1) (p1 : Int32) (p2 : Int32) : Kon 1 l yX13_waitFor cX13_waitFor 6 (some .int) 2 44 0 0 (fun ad => [.ref (ad 26 n0), .int p1, .int p2]) rvI (fun μ => fX13_waitFor n0 p1 p2 μ) := by
  refine kon_of (by decide) (fun _ => Nat.le_of_ble_eq_true rfl) (fun X r0 μ hXl hXn V C E => ?_)
  have hN : ∀ i : Nat, i < 6 → i < xn X := fun i h => hXn.symm ▸ h
  have R0 := fen_rm E
  show G X r0 0 0 μ 0 [(0, .ref (xa X 26 n0)), (1, .int p1), (2, .int p2)] [] (fX13_waitFor n0 p1 p2 μ)
  unfold fX13_waitFor
  refine g_jn (P := fun j22 => ∀ (μ1 : Mem) (x2 : Int32) (x3 : Int32), G X r0 0 0 μ1 22 [(0, .ref (xa X 26 n0)), (1, .int p1), (2, .int p2), (3, .int x2)] [.int x3] (j22 μ1 x2 x3)) ?_ (fun j22 hj22 => ?_)
  · intro μ1 x2 x3
    refine g_jn (P := fun j55 => ∀ (μ4 : Mem) (x5 : Int32) (x6 : Int32), G X r0 0 0 μ4 55 [(0, .ref (xa X 26 n0)), (2, .int p2), (3, .int x2), (4, .int x5)] [.int x6] (j55 μ4 x5 x6)) ?_ (fun j55 hj55 => ?_)
    · intro μ4 x5 x6
      refine s_istore (L' := [(5, .int x6), (0, .ref (xa X 26 n0)), (2, .int p2), (3, .int x2), (4, .int x5)]) C dX13_waitFor_55 (hN 5 (by decide)) rfl ?_
      refine s_iload C dX13_waitFor_57 0 rfl ?_
      refine s_iload_n C dX13_waitFor_59 rfl 2 rfl ?_
      refine s_icmp_eq (tgt := 65) C dX13_waitFor_60 (by decide) (fun c7 => ?_) (fun c7 => ?_)
      ·
        refine g_jn (P := fun j87 => ∀ (μ8 : Mem) (a9 : Nat) (x11 : Int32) (x12 : Int32), a9 < 1 → G X r0 0 0 μ8 87 [] [.int x12, .int x11, .ref (xa X 26 a9)] (j87 μ8 a9 x11 x12)) ?_ (fun j87 hj87 => ?_)
        · intro μ8 a9 x11 x12 b10
          refine s_ior C dX13_waitFor_87 ?_
          refine s_putI C (fpX13_290_26 (Nat.le_trans (by decide) V)) b10 dX13_waitFor_88 ?_
          refine g_nmM (fun μ13 => ?_)
          refine s_iconst (v := (0 : Int32)) C dX13_waitFor_91 (by decide) ?_
          exact s_iret C E dX13_waitFor_92
        refine g_jn (P := fun j86 => ∀ (μ14 : Mem) (a15 : Nat) (x17 : Int32), a15 < 1 → G X r0 0 0 μ14 86 [] [.int x17, .ref (xa X 26 a15)] (j86 μ14 a15 x17)) ?_ (fun j86 hj86 => ?_)
        · intro μ14 a15 x17 b16
          refine s_iconst (v := (0 : Int32)) C dX13_waitFor_86 (by decide) ?_
          exact g_sub [] rfl (hj87 μ14 a15 x17 (0 : Int32) b16)
        refine s_aload_n C dX13_waitFor_65 rfl 1 rfl ?_
        refine s_dup C dX13_waitFor_66 rfl ?_
        refine s_getI C (fgX13_290_26 (Nat.le_trans (by decide) V)) g0 dX13_waitFor_67 ?_
        refine s_iload C dX13_waitFor_70 4 rfl ?_
        refine s_if_eq (tgt := 86) C dX13_waitFor_72 (by decide) (fun c18 => ?_) (fun c18 => ?_)
        ·
          exact g_sub [] rfl (hj86 μ4 n0 (μ4.1 26 n0 17) g0)
        ·
          refine s_iload_n C dX13_waitFor_75 rfl 2 rfl ?_
          refine s_iconst (v := (1 : Int32)) C dX13_waitFor_76 (by decide) ?_
          refine s_icmp_ne (tgt := 86) C dX13_waitFor_77 (by decide) (fun c19 => ?_) (fun c19 => ?_)
          ·
            exact g_sub [] rfl (hj86 μ4 n0 (μ4.1 26 n0 17) g0)
          ·
            refine s_iconst (v := (1 : Int32)) C dX13_waitFor_80 (by decide) ?_
            refine s_iload_n C dX13_waitFor_81 rfl 3 rfl ?_
            refine s_ishl C dX13_waitFor_82 ?_
            refine s_goto (tgt := 87) C dX13_waitFor_83 (by decide) ?_
            exact g_sub [] rfl (hj87 μ4 n0 (μ4.1 26 n0 17) ((1 : Int32) <<< (x2 &&& 31)) g0)
      ·
        refine s_iconst (v := (1 : Int32)) C dX13_waitFor_63 (by decide) ?_
        exact s_iret C E dX13_waitFor_64
    refine s_istore (L' := [(4, .int x3), (0, .ref (xa X 26 n0)), (1, .int p1), (2, .int p2), (3, .int x2)]) C dX13_waitFor_22 (hN 4 (by decide)) rfl ?_
    refine s_iload C dX13_waitFor_24 0 rfl ?_
    refine s_if_eq (tgt := 38) C dX13_waitFor_26 (by decide) (fun c20 => ?_) (fun c20 => ?_)
    ·
      refine s_aload_n C dX13_waitFor_38 rfl 1 rfl ?_
      refine s_getF C (fgX13_25_26 (Nat.le_trans (by decide) V)) g0 dX13_waitFor_39 ?_
      refine s_aload_n C dX13_waitFor_42 rfl 1 rfl ?_
      refine s_iload_n C dX13_waitFor_43 rfl 2 rfl ?_
      refine s_bipush (v := (11 : Int32)) C dX13_waitFor_44 (by decide) ?_
      refine s_callV C R0 (kX13_setting (xl X) n0 g0 p1 (11 : Int32)) (Nat.le_trans (by decide) V) mmX13_setting miX13_setting q2241 (rc26 (Nat.le_trans (by decide) V)) g0 rfl rfl rfl (Nat.le_of_ble_eq_true rfl) ⟨Nat.le_of_ble_eq_true rfl, Nat.le_of_ble_eq_true rfl, Nat.le_of_ble_eq_true rfl, Nat.le_of_ble_eq_true rfl⟩ dX13_waitFor_46 (fun x22 μ21 => ?_)
      refine g_st (st' := [.int x22, .ref (xa X 28 0)]) rfl ?_
      refine s_iload_n C dX13_waitFor_49 rfl 4 rfl ?_
      refine s_iadd C dX13_waitFor_50 ?_
      refine s_bipush (v := (16 : Int32)) C dX13_waitFor_51 (by decide) ?_
      refine s_irem C dX13_waitFor_53 ?_
      refine s_iald C (ag28 (Nat.le_trans (by decide) V)) (by decide) dX13_waitFor_54 ?_
      exact g_sub [1, 3, 4, 0] rfl (hj55 μ21 x3 (μ21.1 28 0 ((x22 + x2) - (x22 + x2) / (16 : Int32) * (16 : Int32)).toNatClampNeg))
    ·
      refine s_aload_n C dX13_waitFor_29 rfl 1 rfl ?_
      refine s_getF C (fgX13_28_26 (Nat.le_trans (by decide) V)) g0 dX13_waitFor_30 ?_
      refine s_iload_n C dX13_waitFor_33 rfl 4 rfl ?_
      refine s_iald C (ag28 (Nat.le_trans (by decide) V)) (by decide) dX13_waitFor_34 ?_
      refine s_goto (tgt := 55) C dX13_waitFor_35 (by decide) ?_
      exact g_sub [1, 3, 4, 0] rfl (hj55 μ1 x3 (μ1.1 28 1 x2.toNatClampNeg))
  refine s_aload_n C dX13_waitFor_0 rfl 0 rfl ?_
  refine s_iload_n C dX13_waitFor_1 rfl 1 rfl ?_
  refine s_iconst (v := (3 : Int32)) C dX13_waitFor_2 (by decide) ?_
  refine s_callV C R0 (kX13_codeOf (xl X) n0 g0 p1 (3 : Int32)) (Nat.le_trans (by decide) V) mmX13_codeOf miX13_codeOf q2461 (rc26 (Nat.le_trans (by decide) V)) g0 rfl rfl rfl (Nat.le_of_ble_eq_true rfl) ⟨Nat.le_of_ble_eq_true rfl, Nat.le_of_ble_eq_true rfl, Nat.le_of_ble_eq_true rfl, Nat.le_of_ble_eq_true rfl⟩ dX13_waitFor_3 (fun x24 μ23 => ?_)
  refine g_st (st' := [.int x24]) rfl ?_
  refine s_istore_n (L' := [(3, .int x24), (0, .ref (xa X 26 n0)), (1, .int p1), (2, .int p2)]) C dX13_waitFor_6 rfl (hN 3 (by decide)) rfl ?_
  refine s_aload_n C dX13_waitFor_7 rfl 1 rfl ?_
  refine s_iload_n C dX13_waitFor_8 rfl 2 rfl ?_
  refine s_iconst (v := (2 : Int32)) C dX13_waitFor_9 (by decide) ?_
  refine s_callV C R0 (kX13_codeOf (xl X) n0 g0 p1 (2 : Int32)) (Nat.le_trans (by decide) V) mmX13_codeOf miX13_codeOf q2461 (rc26 (Nat.le_trans (by decide) V)) g0 rfl rfl rfl (Nat.le_of_ble_eq_true rfl) ⟨Nat.le_of_ble_eq_true rfl, Nat.le_of_ble_eq_true rfl, Nat.le_of_ble_eq_true rfl, Nat.le_of_ble_eq_true rfl⟩ dX13_waitFor_10 (fun x26 μ25 => ?_)
  refine g_st (st' := [.int x26]) rfl ?_
  refine s_iconst (v := (1 : Int32)) C dX13_waitFor_13 (by decide) ?_
  refine s_icmp_ne (tgt := 21) C dX13_waitFor_14 (by decide) (fun c27 => ?_) (fun c27 => ?_)
  ·
    refine s_iconst (v := (0 : Int32)) C dX13_waitFor_21 (by decide) ?_
    exact g_sub [1, 2, 3, 0] rfl (hj22 μ25 x24 (0 : Int32))
  ·
    refine s_iconst (v := (1 : Int32)) C dX13_waitFor_17 (by decide) ?_
    refine s_goto (tgt := 22) C dX13_waitFor_18 (by decide) ?_
    exact g_sub [1, 2, 3, 0] rfl (hj22 μ25 x24 (1 : Int32))
/-! PinEnginesModel.signal(II)I -/
def fX13_signal (n0 : Nat) (p1 : Int32) (p2 : Int32) (μ : Mem) : Option (Int32 × Mem) :=
  bnd (fX13_of n0 p1 (9 : Int32) μ) fun x2 μ1 =>
  if ¬ x2 = 0 then (
    jn (fun (μ4 : Mem) (x5 : Int32) =>
      some (x5, μ4)
    ) fun j38 =>
    ckI p2 (mil.getD 1 0) <|
    if ¬ (μ1.1 28 1 p2.toNatClampNeg) = 0 then (
      j38 μ1 (5 : Int32)
    ) else (
      j38 μ1 (0 : Int32)
    )
  ) else (
    nm (wI μ1 26 n0 16 ((μ1.1 26 n0 16) ||| ((1 : Int32) <<< (p2 &&& 31)))) fun μ7 =>
    some ((5 : Int32), μ7)
  )
set_option maxHeartbeats 4000000 in
set_option maxRecDepth 100000 in
theorem kX13_signal (l : Launch) (n0 : Nat) (g0 : n0 < 1) (p1 : Int32) (p2 : Int32) : Kon 1 l yX13_signal cX13_signal 3 (some .int) 1 22 0 0 (fun ad => [.ref (ad 26 n0), .int p1, .int p2]) rvI (fun μ => fX13_signal n0 p1 p2 μ) := by
  refine kon_of (by decide) (fun _ => Nat.le_of_ble_eq_true rfl) (fun X r0 μ hXl hXn V C E => ?_)
  have hN : ∀ i : Nat, i < 3 → i < xn X := fun i h => hXn.symm ▸ h
  have R0 := fen_rm E
  show G X r0 0 0 μ 0 [(0, .ref (xa X 26 n0)), (1, .int p1), (2, .int p2)] [] (fX13_signal n0 p1 p2 μ)
  unfold fX13_signal
  refine s_aload_n C dX13_signal_0 rfl 0 rfl ?_
  refine s_iload_n C dX13_signal_1 rfl 1 rfl ?_
  refine s_bipush (v := (9 : Int32)) C dX13_signal_2 (by decide) ?_
  refine s_callV C R0 (kX13_of (xl X) n0 g0 p1 (9 : Int32)) (Nat.le_trans (by decide) V) mmX13_of miX13_of q2307 (rc26 (Nat.le_trans (by decide) V)) g0 rfl rfl rfl (Nat.le_of_ble_eq_true rfl) ⟨Nat.le_of_ble_eq_true rfl, Nat.le_of_ble_eq_true rfl, Nat.le_of_ble_eq_true rfl, Nat.le_of_ble_eq_true rfl⟩ dX13_signal_4 (fun x2 μ1 => ?_)
  refine g_st (st' := [.int x2]) rfl ?_
  refine s_if_ne (tgt := 24) C dX13_signal_7 (by decide) (fun c3 => ?_) (fun c3 => ?_)
  ·
    refine g_jn (P := fun j38 => ∀ (μ4 : Mem) (x5 : Int32), G X r0 0 0 μ4 38 [] [.int x5] (j38 μ4 x5)) ?_ (fun j38 hj38 => ?_)
    · intro μ4 x5
      exact s_iret C E dX13_signal_38
    refine s_aload_n C dX13_signal_24 rfl 0 rfl ?_
    refine s_getF C (fgX13_28_26 (Nat.le_trans (by decide) V)) g0 dX13_signal_25 ?_
    refine s_iload_n C dX13_signal_28 rfl 2 rfl ?_
    refine s_iald C (ag28 (Nat.le_trans (by decide) V)) (by decide) dX13_signal_29 ?_
    refine s_if_ne (tgt := 37) C dX13_signal_30 (by decide) (fun c6 => ?_) (fun c6 => ?_)
    ·
      refine s_iconst (v := (5 : Int32)) C dX13_signal_37 (by decide) ?_
      exact g_sub [] rfl (hj38 μ1 (5 : Int32))
    ·
      refine s_iconst (v := (0 : Int32)) C dX13_signal_33 (by decide) ?_
      refine s_goto (tgt := 38) C dX13_signal_34 (by decide) ?_
      exact g_sub [] rfl (hj38 μ1 (0 : Int32))
  ·
    refine s_aload_n C dX13_signal_10 rfl 0 rfl ?_
    refine s_dup C dX13_signal_11 rfl ?_
    refine s_getI C (fgX13_287_26 (Nat.le_trans (by decide) V)) g0 dX13_signal_12 ?_
    refine s_iconst (v := (1 : Int32)) C dX13_signal_15 (by decide) ?_
    refine s_iload_n C dX13_signal_16 rfl 2 rfl ?_
    refine s_ishl C dX13_signal_17 ?_
    refine s_ior C dX13_signal_18 ?_
    refine s_putI C (fpX13_287_26 (Nat.le_trans (by decide) V)) g0 dX13_signal_19 ?_
    refine g_nmM (fun μ7 => ?_)
    refine s_iconst (v := (5 : Int32)) C dX13_signal_22 (by decide) ?_
    exact s_iret C E dX13_signal_23
/-! PinEnginesModel.pinValue(I)I -/
def fX13_pinValue (fu : Nat) (n0 : Nat) (p1 : Int32) (μ : Mem) : Option (Int32 × Mem) :=
  jn (lp (fun _ _ _ => none) fu (fun j4 (μ1 : Mem) (x2 : Int32) (x3 : Int32) =>
    if (16 : Int32) ≤ x3 then (
      some (x2, μ1)
    ) else (
      bnd (fX13_setting n0 p1 (11 : Int32) μ1) fun x6 μ5 =>
      ckD (16 : Int32) <|
      ckI ((x6 + x3) - (x6 + x3) / (16 : Int32) * (16 : Int32)) (mil.getD 0 0) <|
      nm ((x2 ||| ((μ5.1 28 0 ((x6 + x3) - (x6 + x3) / (16 : Int32) * (16 : Int32)).toNatClampNeg) <<< (x3 &&& 31)))) fun x7 =>
      nm (x3 + (1 : Int32)) fun x8 =>
      j4 μ5 x7 x8
    )
  )) fun j4 =>
  j4 μ (0 : Int32) (0 : Int32)
set_option maxHeartbeats 4000000 in
set_option maxRecDepth 100000 in
theorem kX13_pinValue (l : Launch) (fu : Nat) (n0 : Nat) (g0 : n0 < 1) (p1 : Int32) : Kon 1 l yX13_pinValue cX13_pinValue 4 (some .int) 1 22 0 0 (fun ad => [.ref (ad 26 n0), .int p1]) rvI (fun μ => fX13_pinValue fu n0 p1 μ) := by
  refine kon_of (by decide) (fun _ => Nat.le_of_ble_eq_true rfl) (fun X r0 μ hXl hXn V C E => ?_)
  have hN : ∀ i : Nat, i < 4 → i < xn X := fun i h => hXn.symm ▸ h
  have R0 := fen_rm E
  show G X r0 0 0 μ 0 [(0, .ref (xa X 26 n0)), (1, .int p1)] [] (fX13_pinValue fu n0 p1 μ)
  unfold fX13_pinValue
  refine g_jl (P := fun j4 => ∀ (μ1 : Mem) (x2 : Int32) (x3 : Int32), G X r0 0 0 μ1 4 [(0, .ref (xa X 26 n0)), (1, .int p1), (2, .int x2), (3, .int x3)] [] (j4 μ1 x2 x3)) (fun _ _ _ => g_none) (fun j4 hj4 => ?_) (fun j4 hj4 => ?_)
  · intro μ1 x2 x3
    refine s_iload_n C dX13_pinValue_4 rfl 3 rfl ?_
    refine s_bipush (v := (16 : Int32)) C dX13_pinValue_5 (by decide) ?_
    refine s_icmp_ge (tgt := 38) C dX13_pinValue_7 (by decide) (fun c4 => ?_) (fun c4 => ?_)
    ·
      refine s_iload_n C dX13_pinValue_38 rfl 2 rfl ?_
      exact s_iret C E dX13_pinValue_39
    ·
      refine s_iload_n C dX13_pinValue_10 rfl 2 rfl ?_
      refine s_aload_n C dX13_pinValue_11 rfl 0 rfl ?_
      refine s_getF C (fgX13_25_26 (Nat.le_trans (by decide) V)) g0 dX13_pinValue_12 ?_
      refine s_aload_n C dX13_pinValue_15 rfl 0 rfl ?_
      refine s_iload_n C dX13_pinValue_16 rfl 1 rfl ?_
      refine s_bipush (v := (11 : Int32)) C dX13_pinValue_17 (by decide) ?_
      refine s_callV C R0 (kX13_setting (xl X) n0 g0 p1 (11 : Int32)) (Nat.le_trans (by decide) V) mmX13_setting miX13_setting q2241 (rc26 (Nat.le_trans (by decide) V)) g0 rfl rfl rfl (Nat.le_of_ble_eq_true rfl) ⟨Nat.le_of_ble_eq_true rfl, Nat.le_of_ble_eq_true rfl, Nat.le_of_ble_eq_true rfl, Nat.le_of_ble_eq_true rfl⟩ dX13_pinValue_19 (fun x6 μ5 => ?_)
      refine g_st (st' := [.int x6, .ref (xa X 28 0), .int x2]) rfl ?_
      refine s_iload_n C dX13_pinValue_22 rfl 3 rfl ?_
      refine s_iadd C dX13_pinValue_23 ?_
      refine s_bipush (v := (16 : Int32)) C dX13_pinValue_24 (by decide) ?_
      refine s_irem C dX13_pinValue_26 ?_
      refine s_iald C (ag28 (Nat.le_trans (by decide) V)) (by decide) dX13_pinValue_27 ?_
      refine s_iload_n C dX13_pinValue_28 rfl 3 rfl ?_
      refine s_ishl C dX13_pinValue_29 ?_
      refine s_ior C dX13_pinValue_30 ?_
      refine g_nmI (fun x7 => ?_)
      refine s_istore_n (L' := [(2, .int x7), (0, .ref (xa X 26 n0)), (1, .int p1), (3, .int x3)]) C dX13_pinValue_31 rfl (hN 2 (by decide)) rfl ?_
      refine g_nmQ (fun x8 ex8 => ?_)
      refine s_iinc (v := x8) (j := 3) (L' := [(3, .int x8), (2, .int x7), (0, .ref (xa X 26 n0)), (1, .int p1)]) C dX13_pinValue_32 rfl (by rw [ex8]; rfl) (hN 3 (by decide)) rfl ?_
      refine s_goto (tgt := 4) C dX13_pinValue_35 (by decide) ?_
      exact g_sub [2, 3, 1, 0] rfl (hj4 μ5 x7 x8)
  refine s_iconst (v := (0 : Int32)) C dX13_pinValue_0 (by decide) ?_
  refine s_istore_n (L' := [(2, .int (0 : Int32)), (0, .ref (xa X 26 n0)), (1, .int p1)]) C dX13_pinValue_1 rfl (hN 2 (by decide)) rfl ?_
  refine s_iconst (v := (0 : Int32)) C dX13_pinValue_2 (by decide) ?_
  refine s_istore_n (L' := [(3, .int (0 : Int32)), (2, .int (0 : Int32)), (0, .ref (xa X 26 n0)), (1, .int p1)]) C dX13_pinValue_3 rfl (hN 3 (by decide)) rfl ?_
  exact g_sub [2, 3, 1, 0] rfl (hj4 μ (0 : Int32) (0 : Int32))
