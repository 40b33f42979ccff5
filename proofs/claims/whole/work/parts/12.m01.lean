/-! PinEngines.errorPosition()I -/
def fX12_errorPosition (n0 : Nat) (μ : Mem) : Option (Int32 × Mem) :=
  some ((μ.1 0 n0 2), μ)
set_option maxHeartbeats 4000000 in
set_option maxRecDepth 100000 in
theorem kX12_errorPosition (l : Launch) (n0 : Nat) (g0 : n0 < 1) : Kon 0 l yX12_errorPosition cX12_errorPosition 1 (some .int) 0 0 0 0 (fun ad => [.ref (ad 0 n0)]) rvI (fun μ => fX12_errorPosition n0 μ) := by
  refine kon_of (by decide) (fun _ => Nat.le_of_ble_eq_true rfl) (fun X r0 μ hXl hXn V C E => ?_)
  have hN : ∀ i : Nat, i < 1 → i < xn X := fun i h => hXn.symm ▸ h
  have R0 := fen_rm E
  show G X r0 0 0 μ 0 [(0, .ref (xa X 0 n0))] [] (fX12_errorPosition n0 μ)
  unfold fX12_errorPosition
  refine s_aload_n C dX12_errorPosition_0 rfl 0 rfl ?_
  refine s_getI C (fgX12_17_0 _) g0 dX12_errorPosition_1 ?_
  exact s_iret C E dX12_errorPosition_4
/-! PinEngines.instructionCount()I -/
def fX12_instructionCount (n0 : Nat) (μ : Mem) : Option (Int32 × Mem) :=
  nm (μ.2.1 0 n0 4) fun a1 =>
  ckB a1 2 <|
  some ((μ.1 5 a1 0), μ)
set_option maxHeartbeats 4000000 in
set_option maxRecDepth 100000 in
theorem kX12_instructionCount (l : Launch) (n0 : Nat) (g0 : n0 < 1) : Kon 0 l yX12_instructionCount cX12_instructionCount 1 (some .int) 0 0 0 0 (fun ad => [.ref (ad 0 n0)]) rvI (fun μ => fX12_instructionCount n0 μ) := by
  refine kon_of (by decide) (fun _ => Nat.le_of_ble_eq_true rfl) (fun X r0 μ hXl hXn V C E => ?_)
  have hN : ∀ i : Nat, i < 1 → i < xn X := fun i h => hXn.symm ▸ h
  have R0 := fen_rm E
  show G X r0 0 0 μ 0 [(0, .ref (xa X 0 n0))] [] (fX12_instructionCount n0 μ)
  unfold fX12_instructionCount
  refine s_aload_n C dX12_instructionCount_0 rfl 0 rfl ?_
  refine s_getM C (fgX12_32_0 _) g0 dX12_instructionCount_1 ?_
  refine g_nmA (fun a1 => ?_)
  refine g_ckB (fun b2 => ?_)
  refine s_getI C (fgX12_124_5 _) b2 dX12_instructionCount_4 ?_
  exact s_iret C E dX12_instructionCount_7
/-! PinEngines.clock()I -/
def fX12_clock (n0 : Nat) (μ : Mem) : Option (Int32 × Mem) :=
  some ((μ.1 12 0 0), μ)
set_option maxHeartbeats 4000000 in
set_option maxRecDepth 100000 in
theorem kX12_clock (l : Launch) (n0 : Nat) (g0 : n0 < 1) : Kon 0 l yX12_clock cX12_clock 1 (some .int) 0 0 0 0 (fun ad => [.ref (ad 0 n0)]) rvI (fun μ => fX12_clock n0 μ) := by
  refine kon_of (by decide) (fun _ => Nat.le_of_ble_eq_true rfl) (fun X r0 μ hXl hXn V C E => ?_)
  have hN : ∀ i : Nat, i < 1 → i < xn X := fun i h => hXn.symm ▸ h
  have R0 := fen_rm E
  show G X r0 0 0 μ 0 [(0, .ref (xa X 0 n0))] [] (fX12_clock n0 μ)
  unfold fX12_clock
  refine s_aload_n C dX12_clock_0 rfl 0 rfl ?_
  refine s_getF C (fgX12_51_0 _) g0 dX12_clock_1 ?_
  refine s_getI C (fgX12_131_12 _) (by decide) dX12_clock_4 ?_
  exact s_iret C E dX12_clock_7
/-! PinEngines.flag(I)I -/
def fX12_flag (n0 : Nat) (p1 : Int32) (μ : Mem) : Option (RX Int32) :=
  jn (fun (μ1 : Mem) =>
    some (.inl 1, μ1)
  ) fun j10 =>
  if p1 < 0 then (
    j10 μ
  ) else (
    if p1 < (8 : Int32) then (
      some (.inr (((μ.1 12 0 4) >>> (p1 &&& 31)) &&& (1 : Int32)), μ)
    ) else (
      j10 μ
    )
  )
set_option maxHeartbeats 4000000 in
set_option maxRecDepth 100000 in
theorem kX12_flag (l : Launch) (hls : l.stackTraces = false) (n0 : Nat) (g0 : n0 < 1) (p1 : Int32) : KonX 0 l yX12_flag cX12_flag 2 (some .int) 6 89 1 6 (fun ad => [.ref (ad 0 n0), .int p1]) rvI (fun μ => fX12_flag n0 p1 μ) := by
  refine konX_of (by decide) (fun _ => Nat.le_of_ble_eq_true rfl) (fun X r0 μ hXl hXn V C E => ?_)
  have hN : ∀ i : Nat, i < 2 → i < xn X := fun i h => hXn.symm ▸ h
  have R0 := fex_rm E
  have hT : (xl X).stackTraces = false := hXl.symm ▸ hls
  show G X r0 0 0 μ 0 [(0, .ref (xa X 0 n0)), (1, .int p1)] [] (fX12_flag n0 p1 μ)
  unfold fX12_flag
  refine g_jn (P := fun j10 => ∀ (μ1 : Mem), G X r0 0 0 μ1 10 [] [] (j10 μ1)) ?_ (fun j10 hj10 => ?_)
  · intro μ1
    exact s_throw (k := 1) (names := ["java/lang/RuntimeException", "java/lang/Exception"]) hT C E (by decide +kernel) (by decide +kernel) q1220 q181 th12n tg12n dX12_flag_10 dX12_flag_13 dX12_flag_14 dX12_flag_17 ⟨by decide, by decide, by decide, by decide⟩
  refine s_iload_n C dX12_flag_0 rfl 1 rfl ?_
  refine s_if_lt (tgt := 10) C dX12_flag_1 (by decide) (fun c2 => ?_) (fun c2 => ?_)
  ·
    exact g_wid (ca1 := 0) (sl1 := 0) (by decide) (by decide) <| g_sub [] rfl (hj10 μ)
  ·
    refine s_iload_n C dX12_flag_4 rfl 1 rfl ?_
    refine s_bipush (v := (8 : Int32)) C dX12_flag_5 (by decide) ?_
    refine s_icmp_lt (tgt := 18) C dX12_flag_7 (by decide) (fun c3 => ?_) (fun c3 => ?_)
    ·
      refine s_aload_n C dX12_flag_18 rfl 0 rfl ?_
      refine s_getF C (fgX12_51_0 _) g0 dX12_flag_19 ?_
      refine s_getI C (fgX12_149_12 _) (by decide) dX12_flag_22 ?_
      refine s_iload_n C dX12_flag_25 rfl 1 rfl ?_
      refine s_ishr C dX12_flag_26 ?_
      refine s_iconst (v := (1 : Int32)) C dX12_flag_27 (by decide) ?_
      refine s_iand C dX12_flag_28 ?_
      exact s_iretX C E ⟨by decide, by decide⟩ dX12_flag_29
    ·
      exact g_wid (ca1 := 0) (sl1 := 0) (by decide) (by decide) <| g_sub [] rfl (hj10 μ)
/-! PinEngines.portOwner()I -/
def fX12_portOwner (n0 : Nat) (μ : Mem) : Option (Int32 × Mem) :=
  some ((μ.1 12 0 5), μ)
set_option maxHeartbeats 4000000 in
set_option maxRecDepth 100000 in
theorem kX12_portOwner (l : Launch) (n0 : Nat) (g0 : n0 < 1) : Kon 0 l yX12_portOwner cX12_portOwner 1 (some .int) 0 0 0 0 (fun ad => [.ref (ad 0 n0)]) rvI (fun μ => fX12_portOwner n0 μ) := by
  refine kon_of (by decide) (fun _ => Nat.le_of_ble_eq_true rfl) (fun X r0 μ hXl hXn V C E => ?_)
  have hN : ∀ i : Nat, i < 1 → i < xn X := fun i h => hXn.symm ▸ h
  have R0 := fen_rm E
  show G X r0 0 0 μ 0 [(0, .ref (xa X 0 n0))] [] (fX12_portOwner n0 μ)
  unfold fX12_portOwner
  refine s_aload_n C dX12_portOwner_0 rfl 0 rfl ?_
  refine s_getF C (fgX12_51_0 _) g0 dX12_portOwner_1 ?_
  refine s_getI C (fgX12_159_12 _) (by decide) dX12_portOwner_4 ?_
  exact s_iret C E dX12_portOwner_7
/-! PinEngines.divider(II)I -/
def fX12_divider (n0 : Nat) (p1 : Int32) (p2 : Int32) (μ : Mem) : Option (RX Int32) :=
  jn (fun (μ1 : Mem) =>
    some (.inl 2, μ1)
  ) fun j24 =>
  if p1 < (1 : Int32) then (
    j24 μ
  ) else (
    if (1000000 : Int32) < p1 then (
      j24 μ
    ) else (
      if p2 < (1 : Int32) then (
        j24 μ
      ) else (
        if p2 ≤ (1000000 : Int32) then (
          jn (fun (μ6 : Mem) (x7 : Int32) =>
            some (.inr (if (256 : Int32) < (if (65535 : Int32) < x7 then (65535 : Int32) else x7) then (if (65535 : Int32) < x7 then (65535 : Int32) else x7) else (256 : Int32)), μ6)
          ) fun j55 =>
          nm (((256 : Int32) * p1)) fun x8 =>
          ckD p2 <|
          nm ((x8 / p2)) fun x9 =>
          ckD p2 <|
          if ((x8 - x8 / p2 * p2) * (2 : Int32)) ≤ p2 then (
            j55 μ x9
          ) else (
            nm (x9 + (1 : Int32)) fun x11 =>
            j55 μ x11
          )
        ) else (
          j24 μ
        )
      )
    )
  )
set_option maxHeartbeats 4000000 in
set_option maxRecDepth 100000 in
theorem kX12_divider (l : Launch) (hls : l.stackTraces = false) (n0 : Nat) (g0 : n0 < 1) (p1 : Int32) (p2 : Int32) : KonX 0 l yX12_divider cX12_divider 5 (some .int) 6 89 1 6 (fun ad => [.ref (ad 0 n0), .int p1, .int p2]) rvI (fun μ => fX12_divider n0 p1 p2 μ) := by
  refine konX_of (by decide) (fun _ => Nat.le_of_ble_eq_true rfl) (fun X r0 μ hXl hXn V C E => ?_)
  have hN : ∀ i : Nat, i < 5 → i < xn X := fun i h => hXn.symm ▸ h
  have R0 := fex_rm E
  have hT : (xl X).stackTraces = false := hXl.symm ▸ hls
  show G X r0 0 0 μ 0 [(0, .ref (xa X 0 n0)), (1, .int p1), (2, .int p2)] [] (fX12_divider n0 p1 p2 μ)
  unfold fX12_divider
  refine g_jn (P := fun j24 => ∀ (μ1 : Mem), G X r0 0 0 μ1 24 [] [] (j24 μ1)) ?_ (fun j24 hj24 => ?_)
  · intro μ1
    exact s_throw (k := 2) (names := ["java/lang/RuntimeException", "java/lang/Exception"]) hT C E (by decide +kernel) (by decide +kernel) q903 q177 th12i tg12i dX12_divider_24 dX12_divider_27 dX12_divider_28 dX12_divider_31 ⟨by decide, by decide, by decide, by decide⟩
  refine s_iload_n C dX12_divider_0 rfl 1 rfl ?_
  refine s_iconst (v := (1 : Int32)) C dX12_divider_1 (by decide) ?_
  refine s_icmp_lt (tgt := 24) C dX12_divider_2 (by decide) (fun c2 => ?_) (fun c2 => ?_)
  ·
    exact g_wid (ca1 := 0) (sl1 := 0) (by decide) (by decide) <| g_sub [] rfl (hj24 μ)
  ·
    refine s_iload_n C dX12_divider_5 rfl 1 rfl ?_
    refine s_ldcw (v := (1000000 : Int32)) C q1453 dX12_divider_6 ?_
    refine s_icmp_gt (tgt := 24) C dX12_divider_9 (by decide) (fun c3 => ?_) (fun c3 => ?_)
    ·
      exact g_wid (ca1 := 0) (sl1 := 0) (by decide) (by decide) <| g_sub [] rfl (hj24 μ)
    ·
      refine s_iload_n C dX12_divider_12 rfl 2 rfl ?_
      refine s_iconst (v := (1 : Int32)) C dX12_divider_13 (by decide) ?_
      refine s_icmp_lt (tgt := 24) C dX12_divider_14 (by decide) (fun c4 => ?_) (fun c4 => ?_)
      ·
        exact g_wid (ca1 := 0) (sl1 := 0) (by decide) (by decide) <| g_sub [] rfl (hj24 μ)
      ·
        refine s_iload_n C dX12_divider_17 rfl 2 rfl ?_
        refine s_ldcw (v := (1000000 : Int32)) C q1453 dX12_divider_18 ?_
        refine s_icmp_le (tgt := 32) C dX12_divider_21 (by decide) (fun c5 => ?_) (fun c5 => ?_)
        ·
          refine g_jn (P := fun j55 => ∀ (μ6 : Mem) (x7 : Int32), G X r0 0 0 μ6 55 [(4, .int x7)] [] (j55 μ6 x7)) ?_ (fun j55 hj55 => ?_)
          · intro μ6 x7
            refine s_sipush (v := (256 : Int32)) C dX12_divider_55 (by decide) ?_
            refine s_iload C dX12_divider_58 0 rfl ?_
            refine s_ldcw (v := (65535 : Int32)) C q1139 dX12_divider_60 ?_
            refine s_mmin C R0 q1399 q726 q172 q727 ⟨Nat.le_of_ble_eq_true rfl, Nat.le_of_ble_eq_true rfl, Nat.le_of_ble_eq_true rfl, Nat.le_of_ble_eq_true rfl⟩ dX12_divider_63 ?_
            refine s_mmax C R0 q1693 q729 q172 q730 ⟨Nat.le_of_ble_eq_true rfl, Nat.le_of_ble_eq_true rfl, Nat.le_of_ble_eq_true rfl, Nat.le_of_ble_eq_true rfl⟩ dX12_divider_66 ?_
            exact s_iretX C E ⟨by decide, by decide⟩ dX12_divider_69
          refine s_sipush (v := (256 : Int32)) C dX12_divider_32 (by decide) ?_
          refine s_iload_n C dX12_divider_35 rfl 1 rfl ?_
          refine s_imul C dX12_divider_36 ?_
          refine g_nmI (fun x8 => ?_)
          refine s_istore_n (L' := [(3, .int x8), (0, .ref (xa X 0 n0)), (1, .int p1), (2, .int p2)]) C dX12_divider_37 rfl (hN 3 (by decide)) rfl ?_
          refine s_iload_n C dX12_divider_38 rfl 0 rfl ?_
          refine s_iload_n C dX12_divider_39 rfl 3 rfl ?_
          refine s_idiv C dX12_divider_40 ?_
          refine g_nmI (fun x9 => ?_)
          refine s_istore (L' := [(4, .int x9), (3, .int x8), (0, .ref (xa X 0 n0)), (1, .int p1), (2, .int p2)]) C dX12_divider_41 (hN 4 (by decide)) rfl ?_
          refine s_iload_n C dX12_divider_43 rfl 1 rfl ?_
          refine s_iload_n C dX12_divider_44 rfl 4 rfl ?_
          refine s_irem C dX12_divider_45 ?_
          refine s_iconst (v := (2 : Int32)) C dX12_divider_46 (by decide) ?_
          refine s_imul C dX12_divider_47 ?_
          refine s_iload_n C dX12_divider_48 rfl 4 rfl ?_
          refine s_icmp_le (tgt := 55) C dX12_divider_49 (by decide) (fun c10 => ?_) (fun c10 => ?_)
          ·
            exact g_wid (ca1 := 0) (sl1 := 0) (by decide) (by decide) <| g_sub [0] rfl (hj55 μ x9)
          ·
            refine g_nmQ (fun x11 ex11 => ?_)
            refine s_iinc (v := x11) (j := 0) (L' := [(4, .int x11), (3, .int x8), (0, .ref (xa X 0 n0)), (1, .int p1), (2, .int p2)]) C dX12_divider_52 rfl (by rw [ex11]; rfl) (hN 4 (by decide)) rfl ?_
            exact g_wid (ca1 := 0) (sl1 := 0) (by decide) (by decide) <| g_sub [0] rfl (hj55 μ x11)
        ·
          exact g_wid (ca1 := 0) (sl1 := 0) (by decide) (by decide) <| g_sub [] rfl (hj24 μ)
/-! PinEngines.undoCount()I -/
def fX12_undoCount (n0 : Nat) (μ : Mem) : Option (Int32 × Mem) :=
  some ((μ.1 0 n0 15), μ)
set_option maxHeartbeats 4000000 in
set_option maxRecDepth 100000 in
theorem kX12_undoCount (l : Launch) (n0 : Nat) (g0 : n0 < 1) : Kon 0 l yX12_undoCount cX12_undoCount 1 (some .int) 0 0 0 0 (fun ad => [.ref (ad 0 n0)]) rvI (fun μ => fX12_undoCount n0 μ) := by
  refine kon_of (by decide) (fun _ => Nat.le_of_ble_eq_true rfl) (fun X r0 μ hXl hXn V C E => ?_)
  have hN : ∀ i : Nat, i < 1 → i < xn X := fun i h => hXn.symm ▸ h
  have R0 := fen_rm E
  show G X r0 0 0 μ 0 [(0, .ref (xa X 0 n0))] [] (fX12_undoCount n0 μ)
  unfold fX12_undoCount
  refine s_aload_n C dX12_undoCount_0 rfl 0 rfl ?_
  refine s_getI C (fgX12_90_0 _) g0 dX12_undoCount_1 ?_
  exact s_iret C E dX12_undoCount_4
/-! PinEngines.appendBytes(I)V -/
def fX12_appendBytes (fu : Nat) (n0 : Nat) (p1 : Int32) (μ : Mem) : Option (Unit × Mem) :=
  jn (lp (fun _ _ => none) fu (fun j3 (μ1 : Mem) (x2 : Int32) =>
    if x2 < 0 then (
      some ((), μ1)
    ) else (
      jn (fun (μ4 : Mem) (x5 : Int32) =>
        nm (x5 + (-8 : Int32)) fun x6 =>
        j3 μ4 x6
      ) fun j40 =>
      if (1000 : Int32) ≤ (μ1.1 0 n0 1) then (
        j40 μ1 x2
      ) else (
        ckI (μ1.1 0 n0 1) (1000) <|
        nm (wI μ1 1 0 (μ1.1 0 n0 1).toNatClampNeg (vp_nar .byte ((p1 >>> (x2 &&& 31)).toInt8.toInt32))) fun μ8 =>
        nm (wI μ8 0 n0 1 ((μ8.1 0 n0 1) + (1 : Int32))) fun μ9 =>
        j40 μ9 x2
      )
    )
  )) fun j3 =>
  j3 μ (24 : Int32)
set_option maxHeartbeats 4000000 in
set_option maxRecDepth 100000 in
theorem kX12_appendBytes (l : Launch) (fu : Nat) (n0 : Nat) (g0 : n0 < 1) (p1 : Int32) : Kon 0 l yX12_appendBytes cX12_appendBytes 3 (none) 0 0 0 0 (fun ad => [.ref (ad 0 n0), .int p1]) rvV (fun μ => fX12_appendBytes fu n0 p1 μ) := by
  refine kon_of (by decide) (fun _ => Nat.le_of_ble_eq_true rfl) (fun X r0 μ hXl hXn V C E => ?_)
  have hN : ∀ i : Nat, i < 3 → i < xn X := fun i h => hXn.symm ▸ h
  have R0 := fen_rm E
  show G X r0 0 0 μ 0 [(0, .ref (xa X 0 n0)), (1, .int p1)] [] (fX12_appendBytes fu n0 p1 μ)
  unfold fX12_appendBytes
  refine g_jl (P := fun j3 => ∀ (μ1 : Mem) (x2 : Int32), G X r0 0 0 μ1 3 [(0, .ref (xa X 0 n0)), (1, .int p1), (2, .int x2)] [] (j3 μ1 x2)) (fun _ _ => g_none) (fun j3 hj3 => ?_) (fun j3 hj3 => ?_)
  · intro μ1 x2
    refine s_iload_n C dX12_appendBytes_3 rfl 2 rfl ?_
    refine s_if_lt (tgt := 46) C dX12_appendBytes_4 (by decide) (fun c3 => ?_) (fun c3 => ?_)
    ·
      exact s_vret C E dX12_appendBytes_46
    ·
      refine g_jn (P := fun j40 => ∀ (μ4 : Mem) (x5 : Int32), G X r0 0 0 μ4 40 [(0, .ref (xa X 0 n0)), (1, .int p1), (2, .int x5)] [] (j40 μ4 x5)) ?_ (fun j40 hj40 => ?_)
      · intro μ4 x5
        refine g_nmQ (fun x6 ex6 => ?_)
        refine s_iinc (v := x6) (j := 2) (L' := [(2, .int x6), (0, .ref (xa X 0 n0)), (1, .int p1)]) C dX12_appendBytes_40 rfl (by rw [ex6]; rfl) (hN 2 (by decide)) rfl ?_
        refine s_goto (tgt := 3) C dX12_appendBytes_43 (by decide) ?_
        exact g_sub [1, 2, 0] rfl (hj3 μ4 x6)
      refine s_aload_n C dX12_appendBytes_7 rfl 0 rfl ?_
      refine s_getI C (fgX12_13_0 _) g0 dX12_appendBytes_8 ?_
      refine s_sipush (v := (1000 : Int32)) C dX12_appendBytes_11 (by decide) ?_
      refine s_icmp_ge (tgt := 40) C dX12_appendBytes_14 (by decide) (fun c7 => ?_) (fun c7 => ?_)
      ·
        exact g_sub [0, 1, 2] rfl (hj40 μ1 x2)
      ·
        refine s_aload_n C dX12_appendBytes_17 rfl 0 rfl ?_
        refine s_getF C (fgX12_9_0 _) g0 dX12_appendBytes_18 ?_
        refine s_aload_n C dX12_appendBytes_21 rfl 0 rfl ?_
        refine s_getI C (fgX12_13_0 _) g0 dX12_appendBytes_22 ?_
        refine s_iload_n C dX12_appendBytes_25 rfl 1 rfl ?_
        refine s_iload_n C dX12_appendBytes_26 rfl 2 rfl ?_
        refine s_ishr C dX12_appendBytes_27 ?_
        refine s_i2b C dX12_appendBytes_28 ?_
        refine s_bast C (ag1 _) (by decide) dX12_appendBytes_29 ?_
        refine g_nmM (fun μ8 => ?_)
        refine s_aload_n C dX12_appendBytes_30 rfl 0 rfl ?_
        refine s_dup C dX12_appendBytes_31 rfl ?_
        refine s_getI C (fgX12_13_0 _) g0 dX12_appendBytes_32 ?_
        refine s_iconst (v := (1 : Int32)) C dX12_appendBytes_35 (by decide) ?_
        refine s_iadd C dX12_appendBytes_36 ?_
        refine s_putI C (fpX12_13_0 _) g0 dX12_appendBytes_37 ?_
        refine g_nmM (fun μ9 => ?_)
        exact g_sub [0, 1, 2] rfl (hj40 μ9 x2)
  refine s_bipush (v := (24 : Int32)) C dX12_appendBytes_0 (by decide) ?_
  refine s_istore_n (L' := [(2, .int (24 : Int32)), (0, .ref (xa X 0 n0)), (1, .int p1)]) C dX12_appendBytes_2 rfl (hN 2 (by decide)) rfl ?_
  exact g_sub [1, 2, 0] rfl (hj3 μ (24 : Int32))
/-! PinEngines.firstEngine(I)I -/
def fX12_firstEngine (fu : Nat) (p0 : Int32) (μ : Mem) : Option (Int32 × Mem) :=
  jn (lp (fun _ _ => none) fu (fun j2 (μ1 : Mem) (x2 : Int32) =>
    if (4 : Int32) ≤ x2 then (
      some ((-1 : Int32), μ1)
    ) else (
      if ¬ ((p0 >>> (x2 &&& 31)) &&& (1 : Int32)) = (1 : Int32) then (
        nm (x2 + (1 : Int32)) fun x5 =>
        j2 μ1 x5
      ) else (
        some (x2, μ1)
      )
    )
  )) fun j2 =>
  j2 μ (0 : Int32)
set_option maxHeartbeats 4000000 in
set_option maxRecDepth 100000 in
theorem kX12_firstEngine (l : Launch) (fu : Nat) (p0 : Int32) : Kon 0 l yX12_firstEngine cX12_firstEngine 2 (some .int) 0 0 0 0 (fun _ => [.int p0]) rvI (fun μ => fX12_firstEngine fu p0 μ) := by
  refine kon_of (by decide) (fun _ => Nat.le_of_ble_eq_true rfl) (fun X r0 μ hXl hXn V C E => ?_)
  have hN : ∀ i : Nat, i < 2 → i < xn X := fun i h => hXn.symm ▸ h
  have R0 := fen_rm E
  show G X r0 0 0 μ 0 [(0, .int p0)] [] (fX12_firstEngine fu p0 μ)
  unfold fX12_firstEngine
  refine g_jl (P := fun j2 => ∀ (μ1 : Mem) (x2 : Int32), G X r0 0 0 μ1 2 [(0, .int p0), (1, .int x2)] [] (j2 μ1 x2)) (fun _ _ => g_none) (fun j2 hj2 => ?_) (fun j2 hj2 => ?_)
  · intro μ1 x2
    refine s_iload_n C dX12_firstEngine_2 rfl 1 rfl ?_
    refine s_iconst (v := (4 : Int32)) C dX12_firstEngine_3 (by decide) ?_
    refine s_icmp_ge (tgt := 24) C dX12_firstEngine_4 (by decide) (fun c3 => ?_) (fun c3 => ?_)
    ·
      refine s_iconst (v := (-1 : Int32)) C dX12_firstEngine_24 (by decide) ?_
      exact s_iret C E dX12_firstEngine_25
    ·
      refine s_iload_n C dX12_firstEngine_7 rfl 0 rfl ?_
      refine s_iload_n C dX12_firstEngine_8 rfl 1 rfl ?_
      refine s_ishr C dX12_firstEngine_9 ?_
      refine s_iconst (v := (1 : Int32)) C dX12_firstEngine_10 (by decide) ?_
      refine s_iand C dX12_firstEngine_11 ?_
      refine s_iconst (v := (1 : Int32)) C dX12_firstEngine_12 (by decide) ?_
      refine s_icmp_ne (tgt := 18) C dX12_firstEngine_13 (by decide) (fun c4 => ?_) (fun c4 => ?_)
      ·
        refine g_nmQ (fun x5 ex5 => ?_)
        refine s_iinc (v := x5) (j := 1) (L' := [(1, .int x5), (0, .int p0)]) C dX12_firstEngine_18 rfl (by rw [ex5]; rfl) (hN 1 (by decide)) rfl ?_
        refine s_goto (tgt := 2) C dX12_firstEngine_21 (by decide) ?_
        exact g_sub [1, 0] rfl (hj2 μ1 x5)
      ·
        refine s_iload_n C dX12_firstEngine_16 rfl 1 rfl ?_
        exact s_iret C E dX12_firstEngine_17
  refine s_iconst (v := (0 : Int32)) C dX12_firstEngine_0 (by decide) ?_
  refine s_istore_n (L' := [(1, .int (0 : Int32)), (0, .int p0)]) C dX12_firstEngine_1 rfl (hN 1 (by decide)) rfl ?_
  exact g_sub [1, 0] rfl (hj2 μ (0 : Int32))
/-! PinEngines.checkAddress(I)V -/
def fX12_checkAddress (n0 : Nat) (p1 : Int32) (μ : Mem) : Option (RX Unit) :=
  jn (fun (μ1 : Mem) =>
    some (.inl 1, μ1)
  ) fun j15 =>
  if p1 < 0 then (
    j15 μ
  ) else (
    nm (μ.2.1 0 n0 4) fun a3 =>
    ckB a3 2 <|
    if p1 < (μ.1 5 a3 0) then (
      some (.inr (), μ)
    ) else (
      j15 μ
    )
  )
set_option maxHeartbeats 4000000 in
set_option maxRecDepth 100000 in
theorem kX12_checkAddress (l : Launch) (hls : l.stackTraces = false) (n0 : Nat) (g0 : n0 < 1) (p1 : Int32) : KonX 0 l yX12_checkAddress cX12_checkAddress 2 (none) 6 89 1 6 (fun ad => [.ref (ad 0 n0), .int p1]) rvV (fun μ => fX12_checkAddress n0 p1 μ) := by
  refine konX_of (by decide) (fun _ => Nat.le_of_ble_eq_true rfl) (fun X r0 μ hXl hXn V C E => ?_)
  have hN : ∀ i : Nat, i < 2 → i < xn X := fun i h => hXn.symm ▸ h
  have R0 := fex_rm E
  have hT : (xl X).stackTraces = false := hXl.symm ▸ hls
  show G X r0 0 0 μ 0 [(0, .ref (xa X 0 n0)), (1, .int p1)] [] (fX12_checkAddress n0 p1 μ)
  unfold fX12_checkAddress
  refine g_jn (P := fun j15 => ∀ (μ1 : Mem), G X r0 0 0 μ1 15 [] [] (j15 μ1)) ?_ (fun j15 hj15 => ?_)
  · intro μ1
    exact s_throw (k := 1) (names := ["java/lang/RuntimeException", "java/lang/Exception"]) hT C E (by decide +kernel) (by decide +kernel) q1220 q181 th12n tg12n dX12_checkAddress_15 dX12_checkAddress_18 dX12_checkAddress_19 dX12_checkAddress_22 ⟨by decide, by decide, by decide, by decide⟩
  refine s_iload_n C dX12_checkAddress_0 rfl 1 rfl ?_
  refine s_if_lt (tgt := 15) C dX12_checkAddress_1 (by decide) (fun c2 => ?_) (fun c2 => ?_)
  ·
    exact g_wid (ca1 := 0) (sl1 := 0) (by decide) (by decide) <| g_sub [] rfl (hj15 μ)
  ·
    refine s_iload_n C dX12_checkAddress_4 rfl 1 rfl ?_
    refine s_aload_n C dX12_checkAddress_5 rfl 0 rfl ?_
    refine s_getM C (fgX12_32_0 _) g0 dX12_checkAddress_6 ?_
    refine g_nmA (fun a3 => ?_)
    refine g_ckB (fun b4 => ?_)
    refine s_getI C (fgX12_124_5 _) b4 dX12_checkAddress_9 ?_
    refine s_icmp_lt (tgt := 23) C dX12_checkAddress_12 (by decide) (fun c5 => ?_) (fun c5 => ?_)
    ·
      exact s_vretX C E ⟨by decide, by decide⟩ dX12_checkAddress_23
    ·
      exact g_wid (ca1 := 0) (sl1 := 0) (by decide) (by decide) <| g_sub [] rfl (hj15 μ)
/-! PinEngines.checkPin(I)V -/
def fX12_checkPin (p0 : Int32) (μ : Mem) : Option (RX Unit) :=
  jn (fun (μ1 : Mem) =>
    some (.inl 1, μ1)
  ) fun j10 =>
  if p0 < 0 then (
    j10 μ
  ) else (
    if p0 < (16 : Int32) then (
      some (.inr (), μ)
    ) else (
      j10 μ
    )
  )
set_option maxHeartbeats 4000000 in
set_option maxRecDepth 100000 in
theorem kX12_checkPin (l : Launch) (hls : l.stackTraces = false) (p0 : Int32) : KonX 0 l yX12_checkPin cX12_checkPin 1 (none) 6 89 1 6 (fun _ => [.int p0]) rvV (fun μ => fX12_checkPin p0 μ) := by
  refine konX_of (by decide) (fun _ => Nat.le_of_ble_eq_true rfl) (fun X r0 μ hXl hXn V C E => ?_)
  have hN : ∀ i : Nat, i < 1 → i < xn X := fun i h => hXn.symm ▸ h
  have R0 := fex_rm E
  have hT : (xl X).stackTraces = false := hXl.symm ▸ hls
  show G X r0 0 0 μ 0 [(0, .int p0)] [] (fX12_checkPin p0 μ)
  unfold fX12_checkPin
  refine g_jn (P := fun j10 => ∀ (μ1 : Mem), G X r0 0 0 μ1 10 [] [] (j10 μ1)) ?_ (fun j10 hj10 => ?_)
  · intro μ1
    exact s_throw (k := 1) (names := ["java/lang/RuntimeException", "java/lang/Exception"]) hT C E (by decide +kernel) (by decide +kernel) q1220 q181 th12n tg12n dX12_checkPin_10 dX12_checkPin_13 dX12_checkPin_14 dX12_checkPin_17 ⟨by decide, by decide, by decide, by decide⟩
  refine s_iload_n C dX12_checkPin_0 rfl 0 rfl ?_
  refine s_if_lt (tgt := 10) C dX12_checkPin_1 (by decide) (fun c2 => ?_) (fun c2 => ?_)
  ·
    exact g_wid (ca1 := 0) (sl1 := 0) (by decide) (by decide) <| g_sub [] rfl (hj10 μ)
  ·
    refine s_iload_n C dX12_checkPin_4 rfl 0 rfl ?_
    refine s_bipush (v := (16 : Int32)) C dX12_checkPin_5 (by decide) ?_
    refine s_icmp_lt (tgt := 18) C dX12_checkPin_7 (by decide) (fun c3 => ?_) (fun c3 => ?_)
    ·
      exact s_vretX C E ⟨by decide, by decide⟩ dX12_checkPin_18
    ·
      exact g_wid (ca1 := 0) (sl1 := 0) (by decide) (by decide) <| g_sub [] rfl (hj10 μ)
/-! PinEngines.checkMemory(I)V -/
def fX12_checkMemory (p0 : Int32) (μ : Mem) : Option (RX Unit) :=
  jn (fun (μ1 : Mem) =>
    some (.inl 1, μ1)
  ) fun j10 =>
  if p0 < 0 then (
    j10 μ
  ) else (
    if p0 < (16 : Int32) then (
      some (.inr (), μ)
    ) else (
      j10 μ
    )
  )
set_option maxHeartbeats 4000000 in
set_option maxRecDepth 100000 in
theorem kX12_checkMemory (l : Launch) (hls : l.stackTraces = false) (p0 : Int32) : KonX 0 l yX12_checkMemory cX12_checkMemory 1 (none) 6 89 1 6 (fun _ => [.int p0]) rvV (fun μ => fX12_checkMemory p0 μ) := by
  refine konX_of (by decide) (fun _ => Nat.le_of_ble_eq_true rfl) (fun X r0 μ hXl hXn V C E => ?_)
  have hN : ∀ i : Nat, i < 1 → i < xn X := fun i h => hXn.symm ▸ h
  have R0 := fex_rm E
  have hT : (xl X).stackTraces = false := hXl.symm ▸ hls
  show G X r0 0 0 μ 0 [(0, .int p0)] [] (fX12_checkMemory p0 μ)
  unfold fX12_checkMemory
  refine g_jn (P := fun j10 => ∀ (μ1 : Mem), G X r0 0 0 μ1 10 [] [] (j10 μ1)) ?_ (fun j10 hj10 => ?_)
  · intro μ1
    exact s_throw (k := 1) (names := ["java/lang/RuntimeException", "java/lang/Exception"]) hT C E (by decide +kernel) (by decide +kernel) q1220 q181 th12n tg12n dX12_checkMemory_10 dX12_checkMemory_13 dX12_checkMemory_14 dX12_checkMemory_17 ⟨by decide, by decide, by decide, by decide⟩
  refine s_iload_n C dX12_checkMemory_0 rfl 0 rfl ?_
  refine s_if_lt (tgt := 10) C dX12_checkMemory_1 (by decide) (fun c2 => ?_) (fun c2 => ?_)
  ·
    exact g_wid (ca1 := 0) (sl1 := 0) (by decide) (by decide) <| g_sub [] rfl (hj10 μ)
  ·
    refine s_iload_n C dX12_checkMemory_4 rfl 0 rfl ?_
    refine s_bipush (v := (16 : Int32)) C dX12_checkMemory_5 (by decide) ?_
    refine s_icmp_lt (tgt := 18) C dX12_checkMemory_7 (by decide) (fun c3 => ?_) (fun c3 => ?_)
    ·
      exact s_vretX C E ⟨by decide, by decide⟩ dX12_checkMemory_18
    ·
      exact g_wid (ca1 := 0) (sl1 := 0) (by decide) (by decide) <| g_sub [] rfl (hj10 μ)
/-! PinEngines.checkLevel(I)V -/
def fX12_checkLevel (p0 : Int32) (μ : Mem) : Option (RX Unit) :=
  jn (fun (μ1 : Mem) =>
    some (.inl 2, μ1)
  ) fun j9 =>
  if p0 < 0 then (
    j9 μ
  ) else (
    if p0 ≤ (1 : Int32) then (
      some (.inr (), μ)
    ) else (
      j9 μ
    )
  )
set_option maxHeartbeats 4000000 in
set_option maxRecDepth 100000 in
theorem kX12_checkLevel (l : Launch) (hls : l.stackTraces = false) (p0 : Int32) : KonX 0 l yX12_checkLevel cX12_checkLevel 1 (none) 6 89 1 6 (fun _ => [.int p0]) rvV (fun μ => fX12_checkLevel p0 μ) := by
  refine konX_of (by decide) (fun _ => Nat.le_of_ble_eq_true rfl) (fun X r0 μ hXl hXn V C E => ?_)
  have hN : ∀ i : Nat, i < 1 → i < xn X := fun i h => hXn.symm ▸ h
  have R0 := fex_rm E
  have hT : (xl X).stackTraces = false := hXl.symm ▸ hls
  show G X r0 0 0 μ 0 [(0, .int p0)] [] (fX12_checkLevel p0 μ)
  unfold fX12_checkLevel
  refine g_jn (P := fun j9 => ∀ (μ1 : Mem), G X r0 0 0 μ1 9 [] [] (j9 μ1)) ?_ (fun j9 hj9 => ?_)
  · intro μ1
    exact s_throw (k := 2) (names := ["java/lang/RuntimeException", "java/lang/Exception"]) hT C E (by decide +kernel) (by decide +kernel) q903 q177 th12i tg12i dX12_checkLevel_9 dX12_checkLevel_12 dX12_checkLevel_13 dX12_checkLevel_16 ⟨by decide, by decide, by decide, by decide⟩
  refine s_iload_n C dX12_checkLevel_0 rfl 0 rfl ?_
  refine s_if_lt (tgt := 9) C dX12_checkLevel_1 (by decide) (fun c2 => ?_) (fun c2 => ?_)
  ·
    exact g_wid (ca1 := 0) (sl1 := 0) (by decide) (by decide) <| g_sub [] rfl (hj9 μ)
  ·
    refine s_iload_n C dX12_checkLevel_4 rfl 0 rfl ?_
    refine s_iconst (v := (1 : Int32)) C dX12_checkLevel_5 (by decide) ?_
    refine s_icmp_le (tgt := 17) C dX12_checkLevel_6 (by decide) (fun c3 => ?_) (fun c3 => ?_)
    ·
      exact s_vretX C E ⟨by decide, by decide⟩ dX12_checkLevel_17
    ·
      exact g_wid (ca1 := 0) (sl1 := 0) (by decide) (by decide) <| g_sub [] rfl (hj9 μ)
/-! PinEngines.checkLimit(I)V -/
def fX12_checkLimit (p0 : Int32) (μ : Mem) : Option (RX Unit) :=
  jn (fun (μ1 : Mem) =>
    some (.inl 2, μ1)
  ) fun j11 =>
  if p0 < 0 then (
    j11 μ
  ) else (
    if p0 ≤ (2000 : Int32) then (
      some (.inr (), μ)
    ) else (
      j11 μ
    )
  )
set_option maxHeartbeats 4000000 in
set_option maxRecDepth 100000 in
theorem kX12_checkLimit (l : Launch) (hls : l.stackTraces = false) (p0 : Int32) : KonX 0 l yX12_checkLimit cX12_checkLimit 1 (none) 6 89 1 6 (fun _ => [.int p0]) rvV (fun μ => fX12_checkLimit p0 μ) := by
  refine konX_of (by decide) (fun _ => Nat.le_of_ble_eq_true rfl) (fun X r0 μ hXl hXn V C E => ?_)
  have hN : ∀ i : Nat, i < 1 → i < xn X := fun i h => hXn.symm ▸ h
  have R0 := fex_rm E
  have hT : (xl X).stackTraces = false := hXl.symm ▸ hls
  show G X r0 0 0 μ 0 [(0, .int p0)] [] (fX12_checkLimit p0 μ)
  unfold fX12_checkLimit
  refine g_jn (P := fun j11 => ∀ (μ1 : Mem), G X r0 0 0 μ1 11 [] [] (j11 μ1)) ?_ (fun j11 hj11 => ?_)
  · intro μ1
    exact s_throw (k := 2) (names := ["java/lang/RuntimeException", "java/lang/Exception"]) hT C E (by decide +kernel) (by decide +kernel) q903 q177 th12i tg12i dX12_checkLimit_11 dX12_checkLimit_14 dX12_checkLimit_15 dX12_checkLimit_18 ⟨by decide, by decide, by decide, by decide⟩
  refine s_iload_n C dX12_checkLimit_0 rfl 0 rfl ?_
  refine s_if_lt (tgt := 11) C dX12_checkLimit_1 (by decide) (fun c2 => ?_) (fun c2 => ?_)
  ·
    exact g_wid (ca1 := 0) (sl1 := 0) (by decide) (by decide) <| g_sub [] rfl (hj11 μ)
  ·
    refine s_iload_n C dX12_checkLimit_4 rfl 0 rfl ?_
    refine s_sipush (v := (2000 : Int32)) C dX12_checkLimit_5 (by decide) ?_
    refine s_icmp_le (tgt := 19) C dX12_checkLimit_8 (by decide) (fun c3 => ?_) (fun c3 => ?_)
    ·
      exact s_vretX C E ⟨by decide, by decide⟩ dX12_checkLimit_19
    ·
      exact g_wid (ca1 := 0) (sl1 := 0) (by decide) (by decide) <| g_sub [] rfl (hj11 μ)
/-! PinEngines.unsigned(I)J -/
def fX12_unsigned (p0 : Int32) (μ : Mem) : Option (Int64 × Mem) :=
  some (((p0.toInt64) &&& (4294967295 : Int64)), μ)
set_option maxHeartbeats 4000000 in
set_option maxRecDepth 100000 in
theorem kX12_unsigned (l : Launch) (p0 : Int32) : Kon 0 l yX12_unsigned cX12_unsigned 1 (some .long) 0 0 0 0 (fun _ => [.int p0]) rvJ (fun μ => fX12_unsigned p0 μ) := by
  refine kon_of (by decide) (fun _ => Nat.le_of_ble_eq_true rfl) (fun X r0 μ hXl hXn V C E => ?_)
  have hN : ∀ i : Nat, i < 1 → i < xn X := fun i h => hXn.symm ▸ h
  have R0 := fen_rm E
  show G X r0 0 0 μ 0 [(0, .int p0)] [] (fX12_unsigned p0 μ)
  unfold fX12_unsigned
  refine s_iload_n C dX12_unsigned_0 rfl 0 rfl ?_
  refine s_i2l C dX12_unsigned_1 ?_
  refine s_ldc2 (v := (4294967295 : Int64)) C q1346 dX12_unsigned_2 ?_
  refine s_land C dX12_unsigned_5 ?_
  exact s_lret C E dX12_unsigned_6
/-! PinEngines.rotatedPins(II)I -/
def fX12_rotatedPins (p0 : Int32) (p1 : Int32) (μ : Mem) : Option (Int32 × Mem) :=
  nm ((p0 &&& (65535 : Int32))) fun x1 =>
  some ((((x1 <<< (p1 &&& 31)) ||| ((x1.toUInt32 >>> (((16 : Int32) - p1).toUInt32 &&& Int32.toUInt32 31)).toInt32)) &&& (65535 : Int32)), μ)
set_option maxHeartbeats 4000000 in
set_option maxRecDepth 100000 in
theorem kX12_rotatedPins (l : Launch) (p0 : Int32) (p1 : Int32) : Kon 0 l yX12_rotatedPins cX12_rotatedPins 3 (some .int) 0 0 0 0 (fun _ => [.int p0, .int p1]) rvI (fun μ => fX12_rotatedPins p0 p1 μ) := by
  refine kon_of (by decide) (fun _ => Nat.le_of_ble_eq_true rfl) (fun X r0 μ hXl hXn V C E => ?_)
  have hN : ∀ i : Nat, i < 3 → i < xn X := fun i h => hXn.symm ▸ h
  have R0 := fen_rm E
  show G X r0 0 0 μ 0 [(0, .int p0), (1, .int p1)] [] (fX12_rotatedPins p0 p1 μ)
  unfold fX12_rotatedPins
  refine s_iload_n C dX12_rotatedPins_0 rfl 0 rfl ?_
  refine s_ldcw (v := (65535 : Int32)) C q1139 dX12_rotatedPins_1 ?_
  refine s_iand C dX12_rotatedPins_4 ?_
  refine g_nmI (fun x1 => ?_)
  refine s_istore_n (L' := [(2, .int x1), (0, .int p0), (1, .int p1)]) C dX12_rotatedPins_5 rfl (hN 2 (by decide)) rfl ?_
  refine s_iload_n C dX12_rotatedPins_6 rfl 0 rfl ?_
  refine s_iload_n C dX12_rotatedPins_7 rfl 2 rfl ?_
  refine s_ishl C dX12_rotatedPins_8 ?_
  refine s_iload_n C dX12_rotatedPins_9 rfl 0 rfl ?_
  refine s_bipush (v := (16 : Int32)) C dX12_rotatedPins_10 (by decide) ?_
  refine s_iload_n C dX12_rotatedPins_12 rfl 2 rfl ?_
  refine s_isub C dX12_rotatedPins_13 ?_
  refine s_iushr C dX12_rotatedPins_14 ?_
  refine s_ior C dX12_rotatedPins_15 ?_
  refine s_ldcw (v := (65535 : Int32)) C q1139 dX12_rotatedPins_16 ?_
  refine s_iand C dX12_rotatedPins_19 ?_
  exact s_iret C E dX12_rotatedPins_20
/-! PinEnginesModel.thrown()I -/
def fX13_thrown (n0 : Nat) (μ : Mem) : Option (Int32 × Mem) :=
  some ((μ.1 26 n0 6), μ)
set_option maxHeartbeats 4000000 in
set_option maxRecDepth 100000 in
theorem kX13_thrown (l : Launch) (n0 : Nat) (g0 : n0 < 1) : Kon 1 l yX13_thrown cX13_thrown 1 (some .int) 0 0 0 0 (fun ad => [.ref (ad 26 n0)]) rvI (fun μ => fX13_thrown n0 μ) := by
  refine kon_of (by decide) (fun _ => Nat.le_of_ble_eq_true rfl) (fun X r0 μ hXl hXn V C E => ?_)
  have hN : ∀ i : Nat, i < 1 → i < xn X := fun i h => hXn.symm ▸ h
  have R0 := fen_rm E
  show G X r0 0 0 μ 0 [(0, .ref (xa X 26 n0))] [] (fX13_thrown n0 μ)
  unfold fX13_thrown
  refine s_aload_n C dX13_thrown_0 rfl 0 rfl ?_
  refine s_getI C (fgX13_231_26 (Nat.le_trans (by decide) V)) g0 dX13_thrown_1 ?_
  exact s_iret C E dX13_thrown_4
/-! PinEnginesModel.raise(I)I -/
def fX13_raise (n0 : Nat) (p1 : Int32) (μ : Mem) : Option (Int32 × Mem) :=
  nm (wI μ 26 n0 6 p1) fun μ1 =>
  some ((0 : Int32), μ1)
set_option maxHeartbeats 4000000 in
set_option maxRecDepth 100000 in
theorem kX13_raise (l : Launch) (n0 : Nat) (g0 : n0 < 1) (p1 : Int32) : Kon 1 l yX13_raise cX13_raise 2 (some .int) 0 0 0 0 (fun ad => [.ref (ad 26 n0), .int p1]) rvI (fun μ => fX13_raise n0 p1 μ) := by
  refine kon_of (by decide) (fun _ => Nat.le_of_ble_eq_true rfl) (fun X r0 μ hXl hXn V C E => ?_)
  have hN : ∀ i : Nat, i < 2 → i < xn X := fun i h => hXn.symm ▸ h
  have R0 := fen_rm E
  show G X r0 0 0 μ 0 [(0, .ref (xa X 26 n0)), (1, .int p1)] [] (fX13_raise n0 p1 μ)
  unfold fX13_raise
  refine s_aload_n C dX13_raise_0 rfl 0 rfl ?_
  refine s_iload_n C dX13_raise_1 rfl 1 rfl ?_
  refine s_putI C (fpX13_231_26 (Nat.le_trans (by decide) V)) g0 dX13_raise_2 ?_
  refine g_nmM (fun μ1 => ?_)
  refine s_iconst (v := (0 : Int32)) C dX13_raise_5 (by decide) ?_
  exact s_iret C E dX13_raise_6
/-! PinEnginesModel.inRange(III)Z -/
def fX13_inRange (p0 : Int32) (p1 : Int32) (p2 : Int32) (μ : Mem) : Option (Int32 × Mem) :=
  jn (fun (μ1 : Mem) (x2 : Int32) =>
    ckZ x2 (some (x2, μ1))
  ) fun j15 =>
  jn (fun (μ3 : Mem) =>
    j15 μ3 (0 : Int32)
  ) fun j14 =>
  if p0 < p1 then (
    j14 μ
  ) else (
    if p2 < p0 then (
      j14 μ
    ) else (
      j15 μ (1 : Int32)
    )
  )
set_option maxHeartbeats 4000000 in
set_option maxRecDepth 100000 in
theorem kX13_inRange (l : Launch) (p0 : Int32) (p1 : Int32) (p2 : Int32) : Kon 1 l yX13_inRange cX13_inRange 3 (some .boolean) 0 0 0 0 (fun _ => [.int p0, .int p1, .int p2]) rvI (fun μ => fX13_inRange p0 p1 p2 μ) := by
  refine kon_of (by decide) (fun _ => Nat.le_of_ble_eq_true rfl) (fun X r0 μ hXl hXn V C E => ?_)
  have hN : ∀ i : Nat, i < 3 → i < xn X := fun i h => hXn.symm ▸ h
  have R0 := fen_rm E
  show G X r0 0 0 μ 0 [(0, .int p0), (1, .int p1), (2, .int p2)] [] (fX13_inRange p0 p1 p2 μ)
  unfold fX13_inRange
  refine g_jn (P := fun j15 => ∀ (μ1 : Mem) (x2 : Int32), G X r0 0 0 μ1 15 [] [.int x2] (j15 μ1 x2)) ?_ (fun j15 hj15 => ?_)
  · intro μ1 x2
    exact s_zret C E dX13_inRange_15
  refine g_jn (P := fun j14 => ∀ (μ3 : Mem), G X r0 0 0 μ3 14 [] [] (j14 μ3)) ?_ (fun j14 hj14 => ?_)
  · intro μ3
    refine s_iconst (v := (0 : Int32)) C dX13_inRange_14 (by decide) ?_
    exact g_sub [] rfl (hj15 μ3 (0 : Int32))
  refine s_iload_n C dX13_inRange_0 rfl 0 rfl ?_
  refine s_iload_n C dX13_inRange_1 rfl 1 rfl ?_
  refine s_icmp_lt (tgt := 14) C dX13_inRange_2 (by decide) (fun c4 => ?_) (fun c4 => ?_)
  ·
    exact g_sub [] rfl (hj14 μ)
  ·
    refine s_iload_n C dX13_inRange_5 rfl 0 rfl ?_
    refine s_iload_n C dX13_inRange_6 rfl 2 rfl ?_
    refine s_icmp_gt (tgt := 14) C dX13_inRange_7 (by decide) (fun c5 => ?_) (fun c5 => ?_)
    ·
      exact g_sub [] rfl (hj14 μ)
    ·
      refine s_iconst (v := (1 : Int32)) C dX13_inRange_10 (by decide) ?_
      refine s_goto (tgt := 15) C dX13_inRange_11 (by decide) ?_
      exact g_sub [] rfl (hj15 μ (1 : Int32))
/-! PinEnginesModel.clear([I)V -/
def fX13_clear (fu : Nat) (n0 : Nat) (μ : Mem) : Option (Unit × Mem) :=
  jn (lp (fun _ _ => none) fu (fun j2 (μ1 : Mem) (x2 : Int32) =>
    if (700 : Int32) ≤ x2 then (
      ckI (2 : Int32) (if n0 = 4 then 7000 else 700) <|
      nm (wI μ1 27 n0 (2 : Int32).toNatClampNeg (-1 : Int32)) fun μ4 =>
      some ((), μ4)
    ) else (
      ckI x2 (if n0 = 4 then 7000 else 700) <|
      nm (wI μ1 27 n0 x2.toNatClampNeg (0 : Int32)) fun μ5 =>
      nm (x2 + (1 : Int32)) fun x6 =>
      j2 μ5 x6
    )
  )) fun j2 =>
  j2 μ (0 : Int32)
set_option maxHeartbeats 4000000 in
set_option maxRecDepth 100000 in
theorem kX13_clear (l : Launch) (fu : Nat) (n0 : Nat) (g0 : n0 < 5) : Kon 1 l yX13_clear cX13_clear 2 (none) 0 0 0 0 (fun ad => [.ref (ad 27 n0)]) rvV (fun μ => fX13_clear fu n0 μ) := by
  refine kon_of (by decide) (fun _ => Nat.le_of_ble_eq_true rfl) (fun X r0 μ hXl hXn V C E => ?_)
  have hN : ∀ i : Nat, i < 2 → i < xn X := fun i h => hXn.symm ▸ h
  have R0 := fen_rm E
  show G X r0 0 0 μ 0 [(0, .ref (xa X 27 n0))] [] (fX13_clear fu n0 μ)
  unfold fX13_clear
  refine g_jl (P := fun j2 => ∀ (μ1 : Mem) (x2 : Int32), G X r0 0 0 μ1 2 [(0, .ref (xa X 27 n0)), (1, .int x2)] [] (j2 μ1 x2)) (fun _ _ => g_none) (fun j2 hj2 => ?_) (fun j2 hj2 => ?_)
  · intro μ1 x2
    refine s_iload_n C dX13_clear_2 rfl 1 rfl ?_
    refine s_sipush (v := (700 : Int32)) C dX13_clear_3 (by decide) ?_
    refine s_icmp_ge (tgt := 19) C dX13_clear_6 (by decide) (fun c3 => ?_) (fun c3 => ?_)
    ·
      refine s_aload_n C dX13_clear_19 rfl 0 rfl ?_
      refine s_iconst (v := (2 : Int32)) C dX13_clear_20 (by decide) ?_
      refine s_iconst (v := (-1 : Int32)) C dX13_clear_21 (by decide) ?_
      refine s_iast C (ag27 (Nat.le_trans (by decide) V)) g0 dX13_clear_22 ?_
      refine g_nmM (fun μ4 => ?_)
      exact s_vret C E dX13_clear_23
    ·
      refine s_aload_n C dX13_clear_9 rfl 0 rfl ?_
      refine s_iload_n C dX13_clear_10 rfl 1 rfl ?_
      refine s_iconst (v := (0 : Int32)) C dX13_clear_11 (by decide) ?_
      refine s_iast C (ag27 (Nat.le_trans (by decide) V)) g0 dX13_clear_12 ?_
      refine g_nmM (fun μ5 => ?_)
      refine g_nmQ (fun x6 ex6 => ?_)
      refine s_iinc (v := x6) (j := 1) (L' := [(1, .int x6), (0, .ref (xa X 27 n0))]) C dX13_clear_13 rfl (by rw [ex6]; rfl) (hN 1 (by decide)) rfl ?_
      refine s_goto (tgt := 2) C dX13_clear_16 (by decide) ?_
      exact g_sub [1, 0] rfl (hj2 μ5 x6)
  refine s_iconst (v := (0 : Int32)) C dX13_clear_0 (by decide) ?_
  refine s_istore_n (L' := [(1, .int (0 : Int32)), (0, .ref (xa X 27 n0))]) C dX13_clear_1 rfl (hN 1 (by decide)) rfl ?_
  exact g_sub [1, 0] rfl (hj2 μ (0 : Int32))
/-! PinEnginesModel.ofPin(II)I -/
def fX13_ofPin (n0 : Nat) (p1 : Int32) (p2 : Int32) (μ : Mem) : Option (Int32 × Mem) :=
  ckI (((4 : Int32) + ((6 : Int32) * p1)) + p2) (if 0 = 4 then 7000 else 700) <|
  some ((μ.1 27 0 (((4 : Int32) + ((6 : Int32) * p1)) + p2).toNatClampNeg), μ)
set_option maxHeartbeats 4000000 in
set_option maxRecDepth 100000 in
theorem kX13_ofPin (l : Launch) (n0 : Nat) (g0 : n0 < 1) (p1 : Int32) (p2 : Int32) : Kon 1 l yX13_ofPin cX13_ofPin 3 (some .int) 0 0 0 0 (fun ad => [.ref (ad 26 n0), .int p1, .int p2]) rvI (fun μ => fX13_ofPin n0 p1 p2 μ) := by
  refine kon_of (by decide) (fun _ => Nat.le_of_ble_eq_true rfl) (fun X r0 μ hXl hXn V C E => ?_)
  have hN : ∀ i : Nat, i < 3 → i < xn X := fun i h => hXn.symm ▸ h
  have R0 := fen_rm E
  show G X r0 0 0 μ 0 [(0, .ref (xa X 26 n0)), (1, .int p1), (2, .int p2)] [] (fX13_ofPin n0 p1 p2 μ)
  unfold fX13_ofPin
  refine s_aload_n C dX13_ofPin_0 rfl 0 rfl ?_
  refine s_getF C (fgX13_9_26 (Nat.le_trans (by decide) V)) g0 dX13_ofPin_1 ?_
  refine s_iconst (v := (4 : Int32)) C dX13_ofPin_4 (by decide) ?_
  refine s_bipush (v := (6 : Int32)) C dX13_ofPin_5 (by decide) ?_
  refine s_iload_n C dX13_ofPin_7 rfl 1 rfl ?_
  refine s_imul C dX13_ofPin_8 ?_
  refine s_iadd C dX13_ofPin_9 ?_
  refine s_iload_n C dX13_ofPin_10 rfl 2 rfl ?_
  refine s_iadd C dX13_ofPin_11 ?_
  refine s_iald C (ag27 (Nat.le_trans (by decide) V)) (by decide) dX13_ofPin_12 ?_
  exact s_iret C E dX13_ofPin_13
/-! PinEnginesModel.putPin(III)V -/
def fX13_putPin (n0 : Nat) (p1 : Int32) (p2 : Int32) (p3 : Int32) (μ : Mem) : Option (Unit × Mem) :=
  ckI (((4 : Int32) + ((6 : Int32) * p1)) + p2) (if 0 = 4 then 7000 else 700) <|
  nm (wI μ 27 0 (((4 : Int32) + ((6 : Int32) * p1)) + p2).toNatClampNeg p3) fun μ1 =>
  some ((), μ1)
set_option maxHeartbeats 4000000 in
set_option maxRecDepth 100000 in
theorem kX13_putPin (l : Launch) (n0 : Nat) (g0 : n0 < 1) (p1 : Int32) (p2 : Int32) (p3 : Int32) : Kon 1 l yX13_putPin cX13_putPin 4 (none) 0 0 0 0 (fun ad => [.ref (ad 26 n0), .int p1, .int p2, .int p3]) rvV (fun μ => fX13_putPin n0 p1 p2 p3 μ) := by
  refine kon_of (by decide) (fun _ => Nat.le_of_ble_eq_true rfl) (fun X r0 μ hXl hXn V C E => ?_)
  have hN : ∀ i : Nat, i < 4 → i < xn X := fun i h => hXn.symm ▸ h
  have R0 := fen_rm E
  show G X r0 0 0 μ 0 [(0, .ref (xa X 26 n0)), (1, .int p1), (2, .int p2), (3, .int p3)] [] (fX13_putPin n0 p1 p2 p3 μ)
  unfold fX13_putPin
  refine s_aload_n C dX13_putPin_0 rfl 0 rfl ?_
  refine s_getF C (fgX13_9_26 (Nat.le_trans (by decide) V)) g0 dX13_putPin_1 ?_
  refine s_iconst (v := (4 : Int32)) C dX13_putPin_4 (by decide) ?_
  refine s_bipush (v := (6 : Int32)) C dX13_putPin_5 (by decide) ?_
  refine s_iload_n C dX13_putPin_7 rfl 1 rfl ?_
  refine s_imul C dX13_putPin_8 ?_
  refine s_iadd C dX13_putPin_9 ?_
  refine s_iload_n C dX13_putPin_10 rfl 2 rfl ?_
  refine s_iadd C dX13_putPin_11 ?_
  refine s_iload_n C dX13_putPin_12 rfl 3 rfl ?_
  refine s_iast C (ag27 (Nat.le_trans (by decide) V)) (by decide) dX13_putPin_13 ?_
  refine g_nmM (fun μ1 => ?_)
  exact s_vret C E dX13_putPin_14
/-! PinEnginesModel.of(II)I -/
def fX13_of (n0 : Nat) (p1 : Int32) (p2 : Int32) (μ : Mem) : Option (Int32 × Mem) :=
  ckI (((560 : Int32) + ((35 : Int32) * p1)) + p2) (if 0 = 4 then 7000 else 700) <|
  some ((μ.1 27 0 (((560 : Int32) + ((35 : Int32) * p1)) + p2).toNatClampNeg), μ)
set_option maxHeartbeats 4000000 in
set_option maxRecDepth 100000 in
theorem kX13_of (l : Launch) (n0 : Nat) (g0 : n0 < 1) (p1 : Int32) (p2 : Int32) : Kon 1 l yX13_of cX13_of 3 (some .int) 0 0 0 0 (fun ad => [.ref (ad 26 n0), .int p1, .int p2]) rvI (fun μ => fX13_of n0 p1 p2 μ) := by
  refine kon_of (by decide) (fun _ => Nat.le_of_ble_eq_true rfl) (fun X r0 μ hXl hXn V C E => ?_)
  have hN : ∀ i : Nat, i < 3 → i < xn X := fun i h => hXn.symm ▸ h
  have R0 := fen_rm E
  show G X r0 0 0 μ 0 [(0, .ref (xa X 26 n0)), (1, .int p1), (2, .int p2)] [] (fX13_of n0 p1 p2 μ)
  unfold fX13_of
  refine s_aload_n C dX13_of_0 rfl 0 rfl ?_
  refine s_getF C (fgX13_9_26 (Nat.le_trans (by decide) V)) g0 dX13_of_1 ?_
  refine s_sipush (v := (560 : Int32)) C dX13_of_4 (by decide) ?_
  refine s_bipush (v := (35 : Int32)) C dX13_of_7 (by decide) ?_
  refine s_iload_n C dX13_of_9 rfl 1 rfl ?_
  refine s_imul C dX13_of_10 ?_
  refine s_iadd C dX13_of_11 ?_
  refine s_iload_n C dX13_of_12 rfl 2 rfl ?_
  refine s_iadd C dX13_of_13 ?_
  refine s_iald C (ag27 (Nat.le_trans (by decide) V)) (by decide) dX13_of_14 ?_
  exact s_iret C E dX13_of_15
/-! PinEnginesModel.set(III)V -/
def fX13_set (n0 : Nat) (p1 : Int32) (p2 : Int32) (p3 : Int32) (μ : Mem) : Option (Unit × Mem) :=
  ckI (((560 : Int32) + ((35 : Int32) * p1)) + p2) (if 0 = 4 then 7000 else 700) <|
  nm (wI μ 27 0 (((560 : Int32) + ((35 : Int32) * p1)) + p2).toNatClampNeg p3) fun μ1 =>
  some ((), μ1)
set_option maxHeartbeats 4000000 in
set_option maxRecDepth 100000 in
theorem kX13_set (l : Launch) (n0 : Nat) (g0 : n0 < 1) (p1 : Int32) (p2 : Int32) (p3 : Int32) : Kon 1 l yX13_set cX13_set 4 (none) 0 0 0 0 (fun ad => [.ref (ad 26 n0), .int p1, .int p2, .int p3]) rvV (fun μ => fX13_set n0 p1 p2 p3 μ) := by
  refine kon_of (by decide) (fun _ => Nat.le_of_ble_eq_true rfl) (fun X r0 μ hXl hXn V C E => ?_)
  have hN : ∀ i : Nat, i < 4 → i < xn X := fun i h => hXn.symm ▸ h
  have R0 := fen_rm E
  show G X r0 0 0 μ 0 [(0, .ref (xa X 26 n0)), (1, .int p1), (2, .int p2), (3, .int p3)] [] (fX13_set n0 p1 p2 p3 μ)
  unfold fX13_set
  refine s_aload_n C dX13_set_0 rfl 0 rfl ?_
  refine s_getF C (fgX13_9_26 (Nat.le_trans (by decide) V)) g0 dX13_set_1 ?_
  refine s_sipush (v := (560 : Int32)) C dX13_set_4 (by decide) ?_
  refine s_bipush (v := (35 : Int32)) C dX13_set_7 (by decide) ?_
  refine s_iload_n C dX13_set_9 rfl 1 rfl ?_
  refine s_imul C dX13_set_10 ?_
  refine s_iadd C dX13_set_11 ?_
  refine s_iload_n C dX13_set_12 rfl 2 rfl ?_
  refine s_iadd C dX13_set_13 ?_
  refine s_iload_n C dX13_set_14 rfl 3 rfl ?_
  refine s_iast C (ag27 (Nat.le_trans (by decide) V)) (by decide) dX13_set_15 ?_
  refine g_nmM (fun μ1 => ?_)
  exact s_vret C E dX13_set_16
