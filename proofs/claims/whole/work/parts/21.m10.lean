/-! PinEngines.idleEngines()I -/
def fX12_idleEngines (fu : Nat) (n0 : Nat) (μ : Mem) : Option (Int32 × Mem) :=
  jn (lp (fun _ _ _ => none) fu (fun j4 (μ1 : Mem) (x2 : Int32) (x3 : Int32) =>
    if (4 : Int32) ≤ x3 then (
      some (x2, μ1)
    ) else (
      jn (fun (μ5 : Mem) (x6 : Int32) (x7 : Int32) (a8 : Nat) (x10 : Int32) =>
        jn (fun (μ11 : Mem) (x12 : Int32) (x13 : Int32) =>
          nm (x13 + (1 : Int32)) fun x14 =>
          j4 μ11 x12 x14
        ) fun j78 =>
        if x10 = 0 then (
          j78 μ5 x6 x7
        ) else (
          ckI x7 (4) <|
          ckI (0 : Int32) (6) <|
          ckI (0 : Int32) (6) <|
          if ¬ (μ5.1 21 (4 * 1 + x7.toNatClampNeg) (0 : Int32).toNatClampNeg) = (μ5.1 21 a8 (0 : Int32).toNatClampNeg) then (
            j78 μ5 x6 x7
          ) else (
            nm ((x6 ||| ((1 : Int32) <<< (x7 &&& 31)))) fun x20 =>
            j78 μ5 x20 x7
          )
        )
      ) fun j42 =>
      jn (fun (μ21 : Mem) (x22 : Int32) (x23 : Int32) (a24 : Nat) =>
        j42 μ21 x22 x23 a24 (0 : Int32)
      ) fun j41 =>
      ckI x3 (4) <|
      nm (μ1.2.1 0 n0 4) fun a28 =>
      ckB a28 2 <|
      bnd (fX4_hasEngine a28 x3 μ1) fun x31 μ30 =>
      if x31 = 0 then (
        j41 μ30 x2 x3 (4 * 0 + x3.toNatClampNeg)
      ) else (
        if (μ30.1 18 (4 * 0 + x3.toNatClampNeg) 10) = 0 then (
          j41 μ30 x2 x3 (4 * 0 + x3.toNatClampNeg)
        ) else (
          j42 μ30 x2 x3 (4 * 0 + x3.toNatClampNeg) (1 : Int32)
        )
      )
    )
  )) fun j4 =>
  j4 μ (0 : Int32) (0 : Int32)
set_option maxHeartbeats 4000000 in
set_option maxRecDepth 100000 in
theorem kX12_idleEngines (l : Launch) (fu : Nat) (n0 : Nat) (g0 : n0 < 1) : Kon 0 l yX12_idleEngines cX12_idleEngines 5 (some .int) 1 21 0 0 (fun ad => [.ref (ad 0 n0)]) rvI (fun μ => fX12_idleEngines fu n0 μ) := by
  refine kon_of (by decide) (fun _ => Nat.le_of_ble_eq_true rfl) (fun X r0 μ hXl hXn V C E => ?_)
  have hN : ∀ i : Nat, i < 5 → i < xn X := fun i h => hXn.symm ▸ h
  have R0 := fen_rm E
  show G X r0 0 0 μ 0 [(0, .ref (xa X 0 n0))] [] (fX12_idleEngines fu n0 μ)
  unfold fX12_idleEngines
  refine g_jl (P := fun j4 => ∀ (μ1 : Mem) (x2 : Int32) (x3 : Int32), G X r0 0 0 μ1 4 [(0, .ref (xa X 0 n0)), (1, .int x2), (2, .int x3)] [] (j4 μ1 x2 x3)) (fun _ _ _ => g_none) (fun j4 hj4 => ?_) (fun j4 hj4 => ?_)
  · intro μ1 x2 x3
    refine s_iload_n C dX12_idleEngines_4 rfl 2 rfl ?_
    refine s_iconst (v := (4 : Int32)) C dX12_idleEngines_5 (by decide) ?_
    refine s_icmp_ge (tgt := 84) C dX12_idleEngines_6 (by decide) (fun c4 => ?_) (fun c4 => ?_)
    ·
      refine s_iload_n C dX12_idleEngines_84 rfl 1 rfl ?_
      exact s_iret C E dX12_idleEngines_85
    ·
      refine g_jn (P := fun j42 => ∀ (μ5 : Mem) (x6 : Int32) (x7 : Int32) (a8 : Nat) (x10 : Int32), a8 < 52 → G X r0 0 0 μ5 42 [(0, .ref (xa X 0 n0)), (1, .int x6), (2, .int x7), (3, .ref (xa X 18 a8))] [.int x10] (j42 μ5 x6 x7 a8 x10)) ?_ (fun j42 hj42 => ?_)
      · intro μ5 x6 x7 a8 x10 b9
        refine g_jn (P := fun j78 => ∀ (μ11 : Mem) (x12 : Int32) (x13 : Int32), G X r0 0 0 μ11 78 [(0, .ref (xa X 0 n0)), (1, .int x12), (2, .int x13)] [] (j78 μ11 x12 x13)) ?_ (fun j78 hj78 => ?_)
        · intro μ11 x12 x13
          refine g_nmQ (fun x14 ex14 => ?_)
          refine s_iinc (v := x14) (j := 2) (L' := [(2, .int x14), (0, .ref (xa X 0 n0)), (1, .int x12)]) C dX12_idleEngines_78 rfl (by rw [ex14]; rfl) (hN 2 (by decide)) rfl ?_
          refine s_goto (tgt := 4) C dX12_idleEngines_81 (by decide) ?_
          exact g_sub [1, 2, 0] rfl (hj4 μ11 x12 x14)
        refine s_istore (L' := [(4, .int x10), (0, .ref (xa X 0 n0)), (1, .int x6), (2, .int x7), (3, .ref (xa X 18 a8))]) C dX12_idleEngines_42 (hN 4 (by decide)) rfl ?_
        refine s_iload C dX12_idleEngines_44 0 rfl ?_
        refine s_if_eq (tgt := 78) C dX12_idleEngines_46 (by decide) (fun c15 => ?_) (fun c15 => ?_)
        ·
          exact g_sub [1, 2, 3] rfl (hj78 μ5 x6 x7)
        ·
          refine s_aload_n C dX12_idleEngines_49 rfl 1 rfl ?_
          refine s_getF C (fgX12_55_0 _) g0 dX12_idleEngines_50 ?_
          refine s_getF C (fgX12_281_12 _) (by decide) dX12_idleEngines_53 ?_
          refine s_iload_n C dX12_idleEngines_56 rfl 3 rfl ?_
          refine s_aaldF C (ag14 _) (fun _ => rfl) (by decide) dX12_idleEngines_57 (fun c16 => ?_)
          have b17 : 4 * 1 + x7.toNatClampNeg < 52 := by have := c16; omega
          refine s_getF C (fgX12_217_18 _) b17 dX12_idleEngines_58 ?_
          have b18 : (4 * 1 + x7.toNatClampNeg) < 52 := by omega
          refine s_iconst (v := (0 : Int32)) C dX12_idleEngines_61 (by decide) ?_
          refine s_iald C (ag21 _) b18 dX12_idleEngines_62 ?_
          refine s_aload_n C dX12_idleEngines_63 rfl 4 rfl ?_
          refine s_getF C (fgX12_217_18 _) b9 dX12_idleEngines_64 ?_
          refine s_iconst (v := (0 : Int32)) C dX12_idleEngines_67 (by decide) ?_
          refine s_iald C (ag21 _) b9 dX12_idleEngines_68 ?_
          refine s_icmp_ne (tgt := 78) C dX12_idleEngines_69 (by decide) (fun c19 => ?_) (fun c19 => ?_)
          ·
            exact g_sub [1, 2, 3] rfl (hj78 μ5 x6 x7)
          ·
            refine s_iload_n C dX12_idleEngines_72 rfl 2 rfl ?_
            refine s_iconst (v := (1 : Int32)) C dX12_idleEngines_73 (by decide) ?_
            refine s_iload_n C dX12_idleEngines_74 rfl 3 rfl ?_
            refine s_ishl C dX12_idleEngines_75 ?_
            refine s_ior C dX12_idleEngines_76 ?_
            refine g_nmI (fun x20 => ?_)
            refine s_istore_n (L' := [(1, .int x20), (4, .int x10), (0, .ref (xa X 0 n0)), (2, .int x7), (3, .ref (xa X 18 a8))]) C dX12_idleEngines_77 rfl (hN 1 (by decide)) rfl ?_
            exact g_sub [2, 0, 3] rfl (hj78 μ5 x20 x7)
      refine g_jn (P := fun j41 => ∀ (μ21 : Mem) (x22 : Int32) (x23 : Int32) (a24 : Nat), a24 < 52 → G X r0 0 0 μ21 41 [(0, .ref (xa X 0 n0)), (1, .int x22), (2, .int x23), (3, .ref (xa X 18 a24))] [] (j41 μ21 x22 x23 a24)) ?_ (fun j41 hj41 => ?_)
      · intro μ21 x22 x23 a24 b25
        refine s_iconst (v := (0 : Int32)) C dX12_idleEngines_41 (by decide) ?_
        exact g_sub [0, 1, 2, 3] rfl (hj42 μ21 x22 x23 a24 (0 : Int32) b25)
      refine s_aload_n C dX12_idleEngines_9 rfl 0 rfl ?_
      refine s_getF C (fgX12_51_0 _) g0 dX12_idleEngines_10 ?_
      refine s_getF C (fgX12_281_12 _) (by decide) dX12_idleEngines_13 ?_
      refine s_iload_n C dX12_idleEngines_16 rfl 2 rfl ?_
      refine s_aaldF C (ag14 _) (fun _ => rfl) (by decide) dX12_idleEngines_17 (fun c26 => ?_)
      have b27 : 4 * 0 + x3.toNatClampNeg < 52 := by have := c26; omega
      refine s_astore_n (L' := [(3, .ref (xa X 18 (4 * 0 + x3.toNatClampNeg))), (0, .ref (xa X 0 n0)), (1, .int x2), (2, .int x3)]) C dX12_idleEngines_18 rfl (hN 3 (by decide)) rfl ?_
      refine s_aload_n C dX12_idleEngines_19 rfl 1 rfl ?_
      refine s_getM C (fgX12_32_0 _) g0 dX12_idleEngines_20 ?_
      refine g_nmA (fun a28 => ?_)
      refine g_ckB (fun b29 => ?_)
      refine s_iload_n C dX12_idleEngines_23 rfl 3 rfl ?_
      refine s_callV C R0 (kX4_hasEngine (xl X) a28 b29 x3) (Nat.le_trans (by decide) V) mmX4_hasEngine miX4_hasEngine q1278 (rc5 _) b29 rfl rfl rfl (Nat.le_of_ble_eq_true rfl) ⟨Nat.le_of_ble_eq_true rfl, Nat.le_of_ble_eq_true rfl, Nat.le_of_ble_eq_true rfl, Nat.le_of_ble_eq_true rfl⟩ dX12_idleEngines_24 (fun x31 μ30 => ?_)
      refine g_st (st' := [.int x31]) rfl ?_
      refine s_if_eq (tgt := 41) C dX12_idleEngines_27 (by decide) (fun c32 => ?_) (fun c32 => ?_)
      ·
        exact g_sub [1, 2, 3, 0] rfl (hj41 μ30 x2 x3 (4 * 0 + x3.toNatClampNeg) b27)
      ·
        refine s_aload_n C dX12_idleEngines_30 rfl 0 rfl ?_
        refine s_getI C (fgX12_195_18 _) b27 dX12_idleEngines_31 ?_
        refine s_if_eq (tgt := 41) C dX12_idleEngines_34 (by decide) (fun c33 => ?_) (fun c33 => ?_)
        ·
          exact g_sub [1, 2, 3, 0] rfl (hj41 μ30 x2 x3 (4 * 0 + x3.toNatClampNeg) b27)
        ·
          refine s_iconst (v := (1 : Int32)) C dX12_idleEngines_37 (by decide) ?_
          refine s_goto (tgt := 42) C dX12_idleEngines_38 (by decide) ?_
          exact g_sub [1, 2, 3, 0] rfl (hj42 μ30 x2 x3 (4 * 0 + x3.toNatClampNeg) (1 : Int32) b27)
  refine s_iconst (v := (0 : Int32)) C dX12_idleEngines_0 (by decide) ?_
  refine s_istore_n (L' := [(1, .int (0 : Int32)), (0, .ref (xa X 0 n0))]) C dX12_idleEngines_1 rfl (hN 1 (by decide)) rfl ?_
  refine s_iconst (v := (0 : Int32)) C dX12_idleEngines_2 (by decide) ?_
  refine s_istore_n (L' := [(2, .int (0 : Int32)), (1, .int (0 : Int32)), (0, .ref (xa X 0 n0))]) C dX12_idleEngines_3 rfl (hN 2 (by decide)) rfl ?_
  exact g_sub [2, 1, 0] rfl (hj4 μ (0 : Int32) (0 : Int32))
/-! PinEngines.existingEngine(I)LPinEngines$Engine; -/
def fX12_existingEngine (n0 : Nat) (p1 : Int32) (μ : Mem) : Option (RX Nat) :=
  nm (μ.2.1 0 n0 4) fun a1 =>
  ckB a1 2 <|
  bnd (fX4_hasEngine a1 p1 μ) fun x4 μ3 =>
  if ¬ x4 = 0 then (
    ckI p1 (4) <|
    some (.inr (4 * 0 + p1.toNatClampNeg), μ3)
  ) else (
    some (.inl 1, μ3)
  )
set_option maxHeartbeats 4000000 in
set_option maxRecDepth 100000 in
theorem kX12_existingEngine (l : Launch) (hls : l.stackTraces = false) (n0 : Nat) (g0 : n0 < 1) (p1 : Int32) : KonX 0 l yX12_existingEngine cX12_existingEngine 2 (some (.object "PinEngines$Engine")) 6 89 1 6 (fun ad => [.ref (ad 0 n0), .int p1]) (rvA 18) (fun μ => fX12_existingEngine n0 p1 μ) := by
  refine konX_of (by decide) (fun _ => Nat.le_of_ble_eq_true rfl) (fun X r0 μ hXl hXn V C E => ?_)
  have hN : ∀ i : Nat, i < 2 → i < xn X := fun i h => hXn.symm ▸ h
  have R0 := fex_rm E
  have hT : (xl X).stackTraces = false := hXl.symm ▸ hls
  show G X r0 0 0 μ 0 [(0, .ref (xa X 0 n0)), (1, .int p1)] [] (fX12_existingEngine n0 p1 μ)
  unfold fX12_existingEngine
  refine s_aload_n C dX12_existingEngine_0 rfl 0 rfl ?_
  refine s_getM C (fgX12_32_0 _) g0 dX12_existingEngine_1 ?_
  refine g_nmA (fun a1 => ?_)
  refine g_ckB (fun b2 => ?_)
  refine s_iload_n C dX12_existingEngine_4 rfl 1 rfl ?_
  refine s_callV C R0 (kX4_hasEngine (xl X) a1 b2 p1) (Nat.le_trans (by decide) V) mmX4_hasEngine miX4_hasEngine q1278 (rc5 _) b2 rfl rfl rfl (Nat.le_of_ble_eq_true rfl) ⟨Nat.le_of_ble_eq_true rfl, Nat.le_of_ble_eq_true rfl, Nat.le_of_ble_eq_true rfl, Nat.le_of_ble_eq_true rfl⟩ dX12_existingEngine_5 (fun x4 μ3 => ?_)
  refine g_st (st' := [.int x4]) rfl ?_
  refine s_if_ne (tgt := 19) C dX12_existingEngine_8 (by decide) (fun c5 => ?_) (fun c5 => ?_)
  ·
    refine s_aload_n C dX12_existingEngine_19 rfl 0 rfl ?_
    refine s_getF C (fgX12_51_0 _) g0 dX12_existingEngine_20 ?_
    refine s_getF C (fgX12_281_12 _) (by decide) dX12_existingEngine_23 ?_
    refine s_iload_n C dX12_existingEngine_26 rfl 1 rfl ?_
    refine s_aaldF C (ag14 _) (fun _ => rfl) (by decide) dX12_existingEngine_27 (fun c6 => ?_)
    have b7 : 4 * 0 + p1.toNatClampNeg < 52 := by have := c6; omega
    exact s_aretX C E ⟨by decide, by decide⟩ dX12_existingEngine_28
  ·
    exact s_throw (k := 1) (names := ["java/lang/RuntimeException", "java/lang/Exception"]) hT C E (by decide +kernel) (by decide +kernel) q1220 q181 th12n tg12n dX12_existingEngine_11 dX12_existingEngine_14 dX12_existingEngine_15 dX12_existingEngine_18 ⟨by decide, by decide, by decide, by decide⟩
/-! PinEngines.existingQueue(IZ)LPinEngines$Queue; -/
def fX12_existingQueue (n0 : Nat) (p1 : Int32) (p2 : Int32) (μ : Mem) : Option (RX Nat) :=
  jn (fun (μ1 : Mem) (a2 : Nat) =>
    some (.inr a2, μ1)
  ) fun j21 =>
  bndX (fX12_existingEngine n0 p1 μ) fun a5 μ4 =>
  ckB a5 52 <|
  if p2 = 0 then (
    j21 μ4 (2 * a5)
  ) else (
    j21 μ4 (2 * a5 + 1)
  )
set_option maxHeartbeats 4000000 in
set_option maxRecDepth 100000 in
theorem kX12_existingQueue (l : Launch) (hls : l.stackTraces = false) (n0 : Nat) (g0 : n0 < 1) (p1 : Int32) (p2 : Int32) : KonX 0 l yX12_existingQueue cX12_existingQueue 4 (some (.object "PinEngines$Queue")) 7 110 1 6 (fun ad => [.ref (ad 0 n0), .int p1, .int p2]) (rvA 19) (fun μ => fX12_existingQueue n0 p1 p2 μ) := by
  refine konX_of (by decide) (fun _ => Nat.le_of_ble_eq_true rfl) (fun X r0 μ hXl hXn V C E => ?_)
  have hN : ∀ i : Nat, i < 4 → i < xn X := fun i h => hXn.symm ▸ h
  have R0 := fex_rm E
  have hT : (xl X).stackTraces = false := hXl.symm ▸ hls
  show G X r0 0 0 μ 0 [(0, .ref (xa X 0 n0)), (1, .int p1), (2, .int p2)] [] (fX12_existingQueue n0 p1 p2 μ)
  unfold fX12_existingQueue
  refine g_jn (P := fun j21 => ∀ (μ1 : Mem) (a2 : Nat), a2 < 104 → G X r0 1 6 μ1 21 [] [.ref (xa X 19 a2)] (j21 μ1 a2)) ?_ (fun j21 hj21 => ?_)
  · intro μ1 a2 b3
    exact s_aretX C E ⟨by decide, by decide⟩ dX12_existingQueue_21
  refine s_aload_n C dX12_existingQueue_0 rfl 0 rfl ?_
  refine s_iload_n C dX12_existingQueue_1 rfl 1 rfl ?_
  refine s_callVX C E (kX12_existingEngine (xl X) hT n0 g0 p1) (Nat.le_trans (by decide) V) mmX12_existingEngine miX12_existingEngine q1274 (rc0 _) g0 rfl rfl rfl (Nat.le_of_ble_eq_true rfl) ⟨Nat.le_of_ble_eq_true rfl, Nat.le_of_ble_eq_true rfl, Nat.le_of_ble_eq_true rfl, Nat.le_of_ble_eq_true rfl⟩ dX12_existingQueue_2 (fun a5 μ4 => ?_)
  refine g_st (st' := [.ref (xa X 18 a5)]) rfl ?_
  refine g_ckB (fun b6 => ?_)
  refine s_astore_n (L' := [(3, .ref (xa X 18 a5)), (0, .ref (xa X 0 n0)), (1, .int p1), (2, .int p2)]) C dX12_existingQueue_5 rfl (hN 3 (by decide)) rfl ?_
  refine s_iload_n C dX12_existingQueue_6 rfl 3 rfl ?_
  refine s_if_eq (tgt := 17) C dX12_existingQueue_7 (by decide) (fun c7 => ?_) (fun c7 => ?_)
  ·
    refine s_aload_n C dX12_existingQueue_17 rfl 0 rfl ?_
    refine s_getF C (fgX12_351_18 _) b6 dX12_existingQueue_18 ?_
    have b8 : 2 * a5 < 104 := by omega
    exact g_wid (ca1 := 1) (sl1 := 6) (by decide) (by decide) <| g_sub [] rfl (hj21 μ4 (2 * a5) b8)
  ·
    refine s_aload_n C dX12_existingQueue_10 rfl 0 rfl ?_
    refine s_getF C (fgX12_347_18 _) b6 dX12_existingQueue_11 ?_
    have b9 : 2 * a5 + 1 < 104 := by omega
    refine s_goto (tgt := 21) C dX12_existingQueue_14 (by decide) ?_
    exact g_wid (ca1 := 1) (sl1 := 6) (by decide) (by decide) <| g_sub [] rfl (hj21 μ4 (2 * a5 + 1) b9)
/-! PinEnginesModel.appendShifted(I)V -/
def fX13_appendShifted (n0 : Nat) (p1 : Int32) (μ : Mem) : Option (Unit × Mem) :=
  bnd (fX13_of n0 p1 (4 : Int32) μ) fun x2 μ1 =>
  bnd (fX13_append n0 p1 (1 : Int32) x2 μ1) fun _ μ3 =>
  bnd (fX13_note n0 p1 (3 : Int32) μ3) fun _ μ4 =>
  bnd (fX13_emptyShifted n0 p1 μ4) fun _ μ5 =>
  some ((), μ5)
set_option maxHeartbeats 4000000 in
set_option maxRecDepth 100000 in
theorem kX13_appendShifted (l : Launch) (n0 : Nat) (g0 : n0 < 1) (p1 : Int32) : Kon 1 l yX13_appendShifted cX13_appendShifted 2 (none) 2 47 0 0 (fun ad => [.ref (ad 26 n0), .int p1]) rvV (fun μ => fX13_appendShifted n0 p1 μ) := by
  refine kon_of (by decide) (fun _ => Nat.le_of_ble_eq_true rfl) (fun X r0 μ hXl hXn V C E => ?_)
  have hN : ∀ i : Nat, i < 2 → i < xn X := fun i h => hXn.symm ▸ h
  have R0 := fen_rm E
  show G X r0 0 0 μ 0 [(0, .ref (xa X 26 n0)), (1, .int p1)] [] (fX13_appendShifted n0 p1 μ)
  unfold fX13_appendShifted
  refine s_aload_n C dX13_appendShifted_0 rfl 0 rfl ?_
  refine s_iload_n C dX13_appendShifted_1 rfl 1 rfl ?_
  refine s_iconst (v := (1 : Int32)) C dX13_appendShifted_2 (by decide) ?_
  refine s_aload_n C dX13_appendShifted_3 rfl 0 rfl ?_
  refine s_iload_n C dX13_appendShifted_4 rfl 1 rfl ?_
  refine s_iconst (v := (4 : Int32)) C dX13_appendShifted_5 (by decide) ?_
  refine s_callV C R0 (kX13_of (xl X) n0 g0 p1 (4 : Int32)) (Nat.le_trans (by decide) V) mmX13_of miX13_of q2307 (rc26 (Nat.le_trans (by decide) V)) g0 rfl rfl rfl (Nat.le_of_ble_eq_true rfl) ⟨Nat.le_of_ble_eq_true rfl, Nat.le_of_ble_eq_true rfl, Nat.le_of_ble_eq_true rfl, Nat.le_of_ble_eq_true rfl⟩ dX13_appendShifted_6 (fun x2 μ1 => ?_)
  refine g_st (st' := [.int x2, .int (1 : Int32), .int p1, .ref (xa X 26 n0)]) rfl ?_
  refine s_callV C R0 (kX13_append (xl X) n0 g0 p1 (1 : Int32) x2) (Nat.le_trans (by decide) V) mmX13_append miX13_append q2379 (rc26 (Nat.le_trans (by decide) V)) g0 rfl rfl rfl (Nat.le_of_ble_eq_true rfl) ⟨Nat.le_of_ble_eq_true rfl, Nat.le_of_ble_eq_true rfl, Nat.le_of_ble_eq_true rfl, Nat.le_of_ble_eq_true rfl⟩ dX13_appendShifted_9 (fun _ μ3 => ?_)
  refine g_st (st' := []) rfl ?_
  refine s_aload_n C dX13_appendShifted_12 rfl 0 rfl ?_
  refine s_iload_n C dX13_appendShifted_13 rfl 1 rfl ?_
  refine s_iconst (v := (3 : Int32)) C dX13_appendShifted_14 (by decide) ?_
  refine s_callV C R0 (kX13_note (xl X) n0 g0 p1 (3 : Int32)) (Nat.le_trans (by decide) V) mmX13_note miX13_note q2473 (rc26 (Nat.le_trans (by decide) V)) g0 rfl rfl rfl (Nat.le_of_ble_eq_true rfl) ⟨Nat.le_of_ble_eq_true rfl, Nat.le_of_ble_eq_true rfl, Nat.le_of_ble_eq_true rfl, Nat.le_of_ble_eq_true rfl⟩ dX13_appendShifted_15 (fun _ μ4 => ?_)
  refine g_st (st' := []) rfl ?_
  refine s_aload_n C dX13_appendShifted_18 rfl 0 rfl ?_
  refine s_iload_n C dX13_appendShifted_19 rfl 1 rfl ?_
  refine s_callV C R0 (kX13_emptyShifted (xl X) n0 g0 p1) (Nat.le_trans (by decide) V) mmX13_emptyShifted miX13_emptyShifted q2517 (rc26 (Nat.le_trans (by decide) V)) g0 rfl rfl rfl (Nat.le_of_ble_eq_true rfl) ⟨Nat.le_of_ble_eq_true rfl, Nat.le_of_ble_eq_true rfl, Nat.le_of_ble_eq_true rfl, Nat.le_of_ble_eq_true rfl⟩ dX13_appendShifted_20 (fun _ μ5 => ?_)
  refine g_st (st' := []) rfl ?_
  exact s_vret C E dX13_appendShifted_23
/-! PinEnginesModel.shiftOut(III)I -/
def fX13_shiftOut (fu : Nat) (n0 : Nat) (p1 : Int32) (p2 : Int32) (p3 : Int32) (μ : Mem) : Option (Int32 × Mem) :=
  jn (fun (μ1 : Mem) =>
    jn (fun (μ2 : Mem) (x3 : Int32) (x4 : Int32) =>
      jn (fun (μ5 : Mem) (x6 : Int32) (x7 : Int32) =>
        jn (fun (μ8 : Mem) (x9 : Int32) (a10 : Nat) (x12 : Int32) (x13 : Int32) (x14 : Int32) =>
          bnd (fX13_set a10 x12 x13 x14 μ8) fun _ μ15 =>
          bnd (fX13_of n0 p1 (7 : Int32) μ15) fun x17 μ16 =>
          bnd (fX13_set n0 p1 (7 : Int32) (if (x17 + p3) < (32 : Int32) then (x17 + p3) else (32 : Int32)) μ16) fun _ μ18 =>
          if ¬ p2 = (4 : Int32) then (
            bnd (fX13_write n0 p1 p2 x9 (5 : Int32) μ18) fun x21 μ20 =>
            some (x21, μ20)
          ) else (
            bnd (fX13_set n0 p1 (4 : Int32) x9 μ18) fun _ μ22 =>
            bnd (fX13_set n0 p1 (6 : Int32) p3 μ22) fun _ μ23 =>
            some ((0 : Int32), μ23)
          )
        ) fun j123 =>
        if ¬ p3 = (32 : Int32) then (
          if x6 = 0 then (
            j123 μ5 x7 n0 p1 (5 : Int32) ((x3.toUInt32 >>> (p3.toUInt32 &&& Int32.toUInt32 31)).toInt32)
          ) else (
            j123 μ5 x7 n0 p1 (5 : Int32) (x3 <<< (p3 &&& 31))
          )
        ) else (
          j123 μ5 x7 n0 p1 (5 : Int32) (0 : Int32)
        )
      ) fun j92 =>
      if x4 = 0 then (
        bnd (fX13_lowest x3 p3 μ2) fun x28 μ27 =>
        j92 μ27 x4 x28
      ) else (
        j92 μ2 x4 ((x3.toUInt32 >>> (((32 : Int32) - p3).toUInt32 &&& Int32.toUInt32 31)).toInt32)
      )
    ) fun j69 =>
    bnd (fX13_of n0 p1 (5 : Int32) μ1) fun x30 μ29 =>
    bnd (fX13_setting n0 p1 (14 : Int32) μ29) fun x32 μ31 =>
    if ¬ x32 = (1 : Int32) then (
      j69 μ31 x30 (0 : Int32)
    ) else (
      j69 μ31 x30 (1 : Int32)
    )
  ) fun j45 =>
  bnd (fX13_setting n0 p1 (18 : Int32) μ) fun x35 μ34 =>
  if ¬ x35 = (1 : Int32) then (
    j45 μ34
  ) else (
    bnd (fX13_of n0 p1 (7 : Int32) μ34) fun x38 μ37 =>
    bnd (fX13_setting n0 p1 (17 : Int32) μ37) fun x40 μ39 =>
    if x38 < x40 then (
      j45 μ39
    ) else (
      bnd (fX13_of n0 p1 (11 : Int32) μ39) fun x43 μ42 =>
      if ¬ x43 = 0 then (
        bnd (fX13_refill fu n0 p1 μ42) fun _ μ45 =>
        j45 μ45
      ) else (
        some ((2 : Int32), μ42)
      )
    )
  )
set_option maxHeartbeats 4000000 in
set_option maxRecDepth 100000 in
theorem kX13_shiftOut (l : Launch) (fu : Nat) (n0 : Nat) (g0 : n0 < 1) (p1 : Int32) (p2 : Int32) (p3 : Int32) : Kon 1 l yX13_shiftOut cX13_shiftOut 7 (some .int) 3 70 0 0 (fun ad => [.ref (ad 26 n0), .int p1, .int p2, .int p3]) rvI (fun μ => fX13_shiftOut fu n0 p1 p2 p3 μ) := by
  refine kon_of (by decide) (fun _ => Nat.le_of_ble_eq_true rfl) (fun X r0 μ hXl hXn V C E => ?_)
  have hN : ∀ i : Nat, i < 7 → i < xn X := fun i h => hXn.symm ▸ h
  have R0 := fen_rm E
  show G X r0 0 0 μ 0 [(0, .ref (xa X 26 n0)), (1, .int p1), (2, .int p2), (3, .int p3)] [] (fX13_shiftOut fu n0 p1 p2 p3 μ)
  unfold fX13_shiftOut
  refine g_jn (P := fun j45 => ∀ (μ1 : Mem), G X r0 0 0 μ1 45 [(0, .ref (xa X 26 n0)), (1, .int p1), (2, .int p2), (3, .int p3)] [] (j45 μ1)) ?_ (fun j45 hj45 => ?_)
  · intro μ1
    refine g_jn (P := fun j69 => ∀ (μ2 : Mem) (x3 : Int32) (x4 : Int32), G X r0 0 0 μ2 69 [(0, .ref (xa X 26 n0)), (1, .int p1), (2, .int p2), (3, .int p3), (4, .int x3)] [.int x4] (j69 μ2 x3 x4)) ?_ (fun j69 hj69 => ?_)
    · intro μ2 x3 x4
      refine g_jn (P := fun j92 => ∀ (μ5 : Mem) (x6 : Int32) (x7 : Int32), G X r0 0 0 μ5 92 [(0, .ref (xa X 26 n0)), (1, .int p1), (2, .int p2), (3, .int p3), (4, .int x3), (5, .int x6)] [.int x7] (j92 μ5 x6 x7)) ?_ (fun j92 hj92 => ?_)
      · intro μ5 x6 x7
        refine g_jn (P := fun j123 => ∀ (μ8 : Mem) (x9 : Int32) (a10 : Nat) (x12 : Int32) (x13 : Int32) (x14 : Int32), a10 < 1 → G X r0 0 0 μ8 123 [(0, .ref (xa X 26 n0)), (1, .int p1), (2, .int p2), (3, .int p3), (6, .int x9)] [.int x14, .int x13, .int x12, .ref (xa X 26 a10)] (j123 μ8 x9 a10 x12 x13 x14)) ?_ (fun j123 hj123 => ?_)
        · intro μ8 x9 a10 x12 x13 x14 b11
          refine s_callV C R0 (kX13_set (xl X) a10 b11 x12 x13 x14) (Nat.le_trans (by decide) V) mmX13_set miX13_set q2383 (rc26 (Nat.le_trans (by decide) V)) b11 rfl rfl rfl (Nat.le_of_ble_eq_true rfl) ⟨Nat.le_of_ble_eq_true rfl, Nat.le_of_ble_eq_true rfl, Nat.le_of_ble_eq_true rfl, Nat.le_of_ble_eq_true rfl⟩ dX13_shiftOut_123 (fun _ μ15 => ?_)
          refine g_st (st' := []) rfl ?_
          refine s_aload_n C dX13_shiftOut_126 rfl 0 rfl ?_
          refine s_iload_n C dX13_shiftOut_127 rfl 1 rfl ?_
          refine s_bipush (v := (7 : Int32)) C dX13_shiftOut_128 (by decide) ?_
          refine s_bipush (v := (32 : Int32)) C dX13_shiftOut_130 (by decide) ?_
          refine s_aload_n C dX13_shiftOut_132 rfl 0 rfl ?_
          refine s_iload_n C dX13_shiftOut_133 rfl 1 rfl ?_
          refine s_bipush (v := (7 : Int32)) C dX13_shiftOut_134 (by decide) ?_
          refine s_callV C R0 (kX13_of (xl X) n0 g0 p1 (7 : Int32)) (Nat.le_trans (by decide) V) mmX13_of miX13_of q2307 (rc26 (Nat.le_trans (by decide) V)) g0 rfl rfl rfl (Nat.le_of_ble_eq_true rfl) ⟨Nat.le_of_ble_eq_true rfl, Nat.le_of_ble_eq_true rfl, Nat.le_of_ble_eq_true rfl, Nat.le_of_ble_eq_true rfl⟩ dX13_shiftOut_136 (fun x17 μ16 => ?_)
          refine g_st (st' := [.int x17, .int (32 : Int32), .int (7 : Int32), .int p1, .ref (xa X 26 n0)]) rfl ?_
          refine s_iload_n C dX13_shiftOut_139 rfl 3 rfl ?_
          refine s_iadd C dX13_shiftOut_140 ?_
          refine s_mmin C R0 q2512 q726 q172 q727 ⟨Nat.le_of_ble_eq_true rfl, Nat.le_of_ble_eq_true rfl, Nat.le_of_ble_eq_true rfl, Nat.le_of_ble_eq_true rfl⟩ dX13_shiftOut_141 ?_
          refine s_callV C R0 (kX13_set (xl X) n0 g0 p1 (7 : Int32) (if (x17 + p3) < (32 : Int32) then (x17 + p3) else (32 : Int32))) (Nat.le_trans (by decide) V) mmX13_set miX13_set q2383 (rc26 (Nat.le_trans (by decide) V)) g0 rfl rfl rfl (Nat.le_of_ble_eq_true rfl) ⟨Nat.le_of_ble_eq_true rfl, Nat.le_of_ble_eq_true rfl, Nat.le_of_ble_eq_true rfl, Nat.le_of_ble_eq_true rfl⟩ dX13_shiftOut_144 (fun _ μ18 => ?_)
          refine g_st (st' := []) rfl ?_
          refine s_iload_n C dX13_shiftOut_147 rfl 2 rfl ?_
          refine s_iconst (v := (4 : Int32)) C dX13_shiftOut_148 (by decide) ?_
          refine s_icmp_ne (tgt := 170) C dX13_shiftOut_149 (by decide) (fun c19 => ?_) (fun c19 => ?_)
          ·
            refine s_aload_n C dX13_shiftOut_170 rfl 0 rfl ?_
            refine s_iload_n C dX13_shiftOut_171 rfl 1 rfl ?_
            refine s_iload_n C dX13_shiftOut_172 rfl 2 rfl ?_
            refine s_iload C dX13_shiftOut_173 4 rfl ?_
            refine s_iconst (v := (5 : Int32)) C dX13_shiftOut_175 (by decide) ?_
            refine s_callV C R0 (kX13_write (xl X) n0 g0 p1 p2 x9 (5 : Int32)) (Nat.le_trans (by decide) V) mmX13_write miX13_write q2529 (rc26 (Nat.le_trans (by decide) V)) g0 rfl rfl rfl (Nat.le_of_ble_eq_true rfl) ⟨Nat.le_of_ble_eq_true rfl, Nat.le_of_ble_eq_true rfl, Nat.le_of_ble_eq_true rfl, Nat.le_of_ble_eq_true rfl⟩ dX13_shiftOut_176 (fun x21 μ20 => ?_)
            refine g_st (st' := [.int x21]) rfl ?_
            exact s_iret C E dX13_shiftOut_179
          ·
            refine s_aload_n C dX13_shiftOut_152 rfl 0 rfl ?_
            refine s_iload_n C dX13_shiftOut_153 rfl 1 rfl ?_
            refine s_iconst (v := (4 : Int32)) C dX13_shiftOut_154 (by decide) ?_
            refine s_iload C dX13_shiftOut_155 4 rfl ?_
            refine s_callV C R0 (kX13_set (xl X) n0 g0 p1 (4 : Int32) x9) (Nat.le_trans (by decide) V) mmX13_set miX13_set q2383 (rc26 (Nat.le_trans (by decide) V)) g0 rfl rfl rfl (Nat.le_of_ble_eq_true rfl) ⟨Nat.le_of_ble_eq_true rfl, Nat.le_of_ble_eq_true rfl, Nat.le_of_ble_eq_true rfl, Nat.le_of_ble_eq_true rfl⟩ dX13_shiftOut_157 (fun _ μ22 => ?_)
            refine g_st (st' := []) rfl ?_
            refine s_aload_n C dX13_shiftOut_160 rfl 0 rfl ?_
            refine s_iload_n C dX13_shiftOut_161 rfl 1 rfl ?_
            refine s_bipush (v := (6 : Int32)) C dX13_shiftOut_162 (by decide) ?_
            refine s_iload_n C dX13_shiftOut_164 rfl 3 rfl ?_
            refine s_callV C R0 (kX13_set (xl X) n0 g0 p1 (6 : Int32) p3) (Nat.le_trans (by decide) V) mmX13_set miX13_set q2383 (rc26 (Nat.le_trans (by decide) V)) g0 rfl rfl rfl (Nat.le_of_ble_eq_true rfl) ⟨Nat.le_of_ble_eq_true rfl, Nat.le_of_ble_eq_true rfl, Nat.le_of_ble_eq_true rfl, Nat.le_of_ble_eq_true rfl⟩ dX13_shiftOut_165 (fun _ μ23 => ?_)
            refine g_st (st' := []) rfl ?_
            refine s_iconst (v := (0 : Int32)) C dX13_shiftOut_168 (by decide) ?_
            exact s_iret C E dX13_shiftOut_169
        refine s_istore (L' := [(6, .int x7), (0, .ref (xa X 26 n0)), (1, .int p1), (2, .int p2), (3, .int p3), (4, .int x3), (5, .int x6)]) C dX13_shiftOut_92 (hN 6 (by decide)) rfl ?_
        refine s_aload_n C dX13_shiftOut_94 rfl 1 rfl ?_
        refine s_iload_n C dX13_shiftOut_95 rfl 2 rfl ?_
        refine s_iconst (v := (5 : Int32)) C dX13_shiftOut_96 (by decide) ?_
        refine s_iload_n C dX13_shiftOut_97 rfl 4 rfl ?_
        refine s_bipush (v := (32 : Int32)) C dX13_shiftOut_98 (by decide) ?_
        refine s_icmp_ne (tgt := 107) C dX13_shiftOut_100 (by decide) (fun c24 => ?_) (fun c24 => ?_)
        ·
          refine s_iload C dX13_shiftOut_107 6 rfl ?_
          refine s_if_eq (tgt := 119) C dX13_shiftOut_109 (by decide) (fun c25 => ?_) (fun c25 => ?_)
          ·
            refine s_iload C dX13_shiftOut_119 5 rfl ?_
            refine s_iload_n C dX13_shiftOut_121 rfl 4 rfl ?_
            refine s_iushr C dX13_shiftOut_122 ?_
            exact g_sub [1, 2, 3, 4, 0] rfl (hj123 μ5 x7 n0 p1 (5 : Int32) ((x3.toUInt32 >>> (p3.toUInt32 &&& Int32.toUInt32 31)).toInt32) g0)
          ·
            refine s_iload C dX13_shiftOut_112 5 rfl ?_
            refine s_iload_n C dX13_shiftOut_114 rfl 4 rfl ?_
            refine s_ishl C dX13_shiftOut_115 ?_
            refine s_goto (tgt := 123) C dX13_shiftOut_116 (by decide) ?_
            exact g_sub [1, 2, 3, 4, 0] rfl (hj123 μ5 x7 n0 p1 (5 : Int32) (x3 <<< (p3 &&& 31)) g0)
        ·
          refine s_iconst (v := (0 : Int32)) C dX13_shiftOut_103 (by decide) ?_
          refine s_goto (tgt := 123) C dX13_shiftOut_104 (by decide) ?_
          exact g_sub [1, 2, 3, 4, 0] rfl (hj123 μ5 x7 n0 p1 (5 : Int32) (0 : Int32) g0)
      refine s_istore (L' := [(5, .int x4), (0, .ref (xa X 26 n0)), (1, .int p1), (2, .int p2), (3, .int p3), (4, .int x3)]) C dX13_shiftOut_69 (hN 5 (by decide)) rfl ?_
      refine s_iload C dX13_shiftOut_71 0 rfl ?_
      refine s_if_eq (tgt := 86) C dX13_shiftOut_73 (by decide) (fun c26 => ?_) (fun c26 => ?_)
      ·
        refine s_iload C dX13_shiftOut_86 5 rfl ?_
        refine s_iload_n C dX13_shiftOut_88 rfl 4 rfl ?_
        refine s_callS C R0 (kX13_lowest (xl X) x3 p3) (Nat.le_trans (by decide) V) mmX13_lowest q2510 q2509 rfl rfl rfl rfl (Nat.le_of_ble_eq_true rfl) ⟨Nat.le_of_ble_eq_true rfl, Nat.le_of_ble_eq_true rfl, Nat.le_of_ble_eq_true rfl, Nat.le_of_ble_eq_true rfl⟩ dX13_shiftOut_89 (fun x28 μ27 => ?_)
        refine g_st (st' := [.int x28]) rfl ?_
        exact g_sub [1, 2, 3, 4, 5, 0] rfl (hj92 μ27 x4 x28)
      ·
        refine s_iload C dX13_shiftOut_76 5 rfl ?_
        refine s_bipush (v := (32 : Int32)) C dX13_shiftOut_78 (by decide) ?_
        refine s_iload_n C dX13_shiftOut_80 rfl 4 rfl ?_
        refine s_isub C dX13_shiftOut_81 ?_
        refine s_iushr C dX13_shiftOut_82 ?_
        refine s_goto (tgt := 92) C dX13_shiftOut_83 (by decide) ?_
        exact g_sub [1, 2, 3, 4, 5, 0] rfl (hj92 μ2 x4 ((x3.toUInt32 >>> (((32 : Int32) - p3).toUInt32 &&& Int32.toUInt32 31)).toInt32))
    refine s_aload_n C dX13_shiftOut_45 rfl 0 rfl ?_
    refine s_iload_n C dX13_shiftOut_46 rfl 1 rfl ?_
    refine s_iconst (v := (5 : Int32)) C dX13_shiftOut_47 (by decide) ?_
    refine s_callV C R0 (kX13_of (xl X) n0 g0 p1 (5 : Int32)) (Nat.le_trans (by decide) V) mmX13_of miX13_of q2307 (rc26 (Nat.le_trans (by decide) V)) g0 rfl rfl rfl (Nat.le_of_ble_eq_true rfl) ⟨Nat.le_of_ble_eq_true rfl, Nat.le_of_ble_eq_true rfl, Nat.le_of_ble_eq_true rfl, Nat.le_of_ble_eq_true rfl⟩ dX13_shiftOut_48 (fun x30 μ29 => ?_)
    refine g_st (st' := [.int x30]) rfl ?_
    refine s_istore (L' := [(4, .int x30), (0, .ref (xa X 26 n0)), (1, .int p1), (2, .int p2), (3, .int p3)]) C dX13_shiftOut_51 (hN 4 (by decide)) rfl ?_
    refine s_aload_n C dX13_shiftOut_53 rfl 1 rfl ?_
    refine s_iload_n C dX13_shiftOut_54 rfl 2 rfl ?_
    refine s_bipush (v := (14 : Int32)) C dX13_shiftOut_55 (by decide) ?_
    refine s_callV C R0 (kX13_setting (xl X) n0 g0 p1 (14 : Int32)) (Nat.le_trans (by decide) V) mmX13_setting miX13_setting q2241 (rc26 (Nat.le_trans (by decide) V)) g0 rfl rfl rfl (Nat.le_of_ble_eq_true rfl) ⟨Nat.le_of_ble_eq_true rfl, Nat.le_of_ble_eq_true rfl, Nat.le_of_ble_eq_true rfl, Nat.le_of_ble_eq_true rfl⟩ dX13_shiftOut_57 (fun x32 μ31 => ?_)
    refine g_st (st' := [.int x32]) rfl ?_
    refine s_iconst (v := (1 : Int32)) C dX13_shiftOut_60 (by decide) ?_
    refine s_icmp_ne (tgt := 68) C dX13_shiftOut_61 (by decide) (fun c33 => ?_) (fun c33 => ?_)
    ·
      refine s_iconst (v := (0 : Int32)) C dX13_shiftOut_68 (by decide) ?_
      exact g_sub [1, 2, 3, 4, 0] rfl (hj69 μ31 x30 (0 : Int32))
    ·
      refine s_iconst (v := (1 : Int32)) C dX13_shiftOut_64 (by decide) ?_
      refine s_goto (tgt := 69) C dX13_shiftOut_65 (by decide) ?_
      exact g_sub [1, 2, 3, 4, 0] rfl (hj69 μ31 x30 (1 : Int32))
  refine s_aload_n C dX13_shiftOut_0 rfl 0 rfl ?_
  refine s_iload_n C dX13_shiftOut_1 rfl 1 rfl ?_
  refine s_bipush (v := (18 : Int32)) C dX13_shiftOut_2 (by decide) ?_
  refine s_callV C R0 (kX13_setting (xl X) n0 g0 p1 (18 : Int32)) (Nat.le_trans (by decide) V) mmX13_setting miX13_setting q2241 (rc26 (Nat.le_trans (by decide) V)) g0 rfl rfl rfl (Nat.le_of_ble_eq_true rfl) ⟨Nat.le_of_ble_eq_true rfl, Nat.le_of_ble_eq_true rfl, Nat.le_of_ble_eq_true rfl, Nat.le_of_ble_eq_true rfl⟩ dX13_shiftOut_4 (fun x35 μ34 => ?_)
  refine g_st (st' := [.int x35]) rfl ?_
  refine s_iconst (v := (1 : Int32)) C dX13_shiftOut_7 (by decide) ?_
  refine s_icmp_ne (tgt := 45) C dX13_shiftOut_8 (by decide) (fun c36 => ?_) (fun c36 => ?_)
  ·
    exact g_sub [0, 1, 2, 3] rfl (hj45 μ34)
  ·
    refine s_aload_n C dX13_shiftOut_11 rfl 0 rfl ?_
    refine s_iload_n C dX13_shiftOut_12 rfl 1 rfl ?_
    refine s_bipush (v := (7 : Int32)) C dX13_shiftOut_13 (by decide) ?_
    refine s_callV C R0 (kX13_of (xl X) n0 g0 p1 (7 : Int32)) (Nat.le_trans (by decide) V) mmX13_of miX13_of q2307 (rc26 (Nat.le_trans (by decide) V)) g0 rfl rfl rfl (Nat.le_of_ble_eq_true rfl) ⟨Nat.le_of_ble_eq_true rfl, Nat.le_of_ble_eq_true rfl, Nat.le_of_ble_eq_true rfl, Nat.le_of_ble_eq_true rfl⟩ dX13_shiftOut_15 (fun x38 μ37 => ?_)
    refine g_st (st' := [.int x38]) rfl ?_
    refine s_aload_n C dX13_shiftOut_18 rfl 0 rfl ?_
    refine s_iload_n C dX13_shiftOut_19 rfl 1 rfl ?_
    refine s_bipush (v := (17 : Int32)) C dX13_shiftOut_20 (by decide) ?_
    refine s_callV C R0 (kX13_setting (xl X) n0 g0 p1 (17 : Int32)) (Nat.le_trans (by decide) V) mmX13_setting miX13_setting q2241 (rc26 (Nat.le_trans (by decide) V)) g0 rfl rfl rfl (Nat.le_of_ble_eq_true rfl) ⟨Nat.le_of_ble_eq_true rfl, Nat.le_of_ble_eq_true rfl, Nat.le_of_ble_eq_true rfl, Nat.le_of_ble_eq_true rfl⟩ dX13_shiftOut_22 (fun x40 μ39 => ?_)
    refine g_st (st' := [.int x40, .int x38]) rfl ?_
    refine s_icmp_lt (tgt := 45) C dX13_shiftOut_25 (by decide) (fun c41 => ?_) (fun c41 => ?_)
    ·
      exact g_sub [0, 1, 2, 3] rfl (hj45 μ39)
    ·
      refine s_aload_n C dX13_shiftOut_28 rfl 0 rfl ?_
      refine s_iload_n C dX13_shiftOut_29 rfl 1 rfl ?_
      refine s_bipush (v := (11 : Int32)) C dX13_shiftOut_30 (by decide) ?_
      refine s_callV C R0 (kX13_of (xl X) n0 g0 p1 (11 : Int32)) (Nat.le_trans (by decide) V) mmX13_of miX13_of q2307 (rc26 (Nat.le_trans (by decide) V)) g0 rfl rfl rfl (Nat.le_of_ble_eq_true rfl) ⟨Nat.le_of_ble_eq_true rfl, Nat.le_of_ble_eq_true rfl, Nat.le_of_ble_eq_true rfl, Nat.le_of_ble_eq_true rfl⟩ dX13_shiftOut_32 (fun x43 μ42 => ?_)
      refine g_st (st' := [.int x43]) rfl ?_
      refine s_if_ne (tgt := 40) C dX13_shiftOut_35 (by decide) (fun c44 => ?_) (fun c44 => ?_)
      ·
        refine s_aload_n C dX13_shiftOut_40 rfl 0 rfl ?_
        refine s_iload_n C dX13_shiftOut_41 rfl 1 rfl ?_
        refine s_callV C R0 (kX13_refill (xl X) fu n0 g0 p1) (Nat.le_trans (by decide) V) mmX13_refill miX13_refill q2525 (rc26 (Nat.le_trans (by decide) V)) g0 rfl rfl rfl (Nat.le_of_ble_eq_true rfl) ⟨Nat.le_of_ble_eq_true rfl, Nat.le_of_ble_eq_true rfl, Nat.le_of_ble_eq_true rfl, Nat.le_of_ble_eq_true rfl⟩ dX13_shiftOut_42 (fun _ μ45 => ?_)
        refine g_st (st' := []) rfl ?_
        exact g_sub [0, 1, 2, 3] rfl (hj45 μ45)
      ·
        refine s_iconst (v := (2 : Int32)) C dX13_shiftOut_38 (by decide) ?_
        exact s_iret C E dX13_shiftOut_39
/-! PinEnginesModel.push(IZZ)I -/
def fX13_push (n0 : Nat) (p1 : Int32) (p2 : Int32) (p3 : Int32) (μ : Mem) : Option (Int32 × Mem) :=
  jn (fun (μ1 : Mem) =>
    bnd (fX13_isFull n0 p1 (1 : Int32) μ1) fun x3 μ2 =>
    if ¬ x3 = 0 then (
      if ¬ p3 = 0 then (
        bnd (fX13_emptyShifted n0 p1 μ2) fun _ μ6 =>
        bnd (fX13_note n0 p1 (5 : Int32) μ6) fun _ μ7 =>
        some ((0 : Int32), μ7)
      ) else (
        some ((3 : Int32), μ2)
      )
    ) else (
      bnd (fX13_appendShifted n0 p1 μ2) fun _ μ8 =>
      some ((0 : Int32), μ8)
    )
  ) fun j23 =>
  if p2 = 0 then (
    j23 μ
  ) else (
    bnd (fX13_of n0 p1 (6 : Int32) μ) fun x11 μ10 =>
    bnd (fX13_setting n0 p1 (15 : Int32) μ10) fun x13 μ12 =>
    if x13 ≤ x11 then (
      j23 μ12
    ) else (
      some ((0 : Int32), μ12)
    )
  )
set_option maxHeartbeats 4000000 in
set_option maxRecDepth 100000 in
theorem kX13_push (l : Launch) (n0 : Nat) (g0 : n0 < 1) (p1 : Int32) (p2 : Int32) (p3 : Int32) : Kon 1 l yX13_push cX13_push 4 (some .int) 3 68 0 0 (fun ad => [.ref (ad 26 n0), .int p1, .int p2, .int p3]) rvI (fun μ => fX13_push n0 p1 p2 p3 μ) := by
  refine kon_of (by decide) (fun _ => Nat.le_of_ble_eq_true rfl) (fun X r0 μ hXl hXn V C E => ?_)
  have hN : ∀ i : Nat, i < 4 → i < xn X := fun i h => hXn.symm ▸ h
  have R0 := fen_rm E
  show G X r0 0 0 μ 0 [(0, .ref (xa X 26 n0)), (1, .int p1), (2, .int p2), (3, .int p3)] [] (fX13_push n0 p1 p2 p3 μ)
  unfold fX13_push
  refine g_jn (P := fun j23 => ∀ (μ1 : Mem), G X r0 0 0 μ1 23 [(0, .ref (xa X 26 n0)), (1, .int p1), (3, .int p3)] [] (j23 μ1)) ?_ (fun j23 hj23 => ?_)
  · intro μ1
    refine s_aload_n C dX13_push_23 rfl 0 rfl ?_
    refine s_iload_n C dX13_push_24 rfl 1 rfl ?_
    refine s_iconst (v := (1 : Int32)) C dX13_push_25 (by decide) ?_
    refine s_callV C R0 (kX13_isFull (xl X) n0 g0 p1 (1 : Int32)) (Nat.le_trans (by decide) V) mmX13_isFull miX13_isFull q2368 (rc26 (Nat.le_trans (by decide) V)) g0 rfl rfl rfl (Nat.le_of_ble_eq_true rfl) ⟨Nat.le_of_ble_eq_true rfl, Nat.le_of_ble_eq_true rfl, Nat.le_of_ble_eq_true rfl, Nat.le_of_ble_eq_true rfl⟩ dX13_push_26 (fun x3 μ2 => ?_)
    refine g_st (st' := [.int x3]) rfl ?_
    refine s_if_ne (tgt := 39) C dX13_push_29 (by decide) (fun c4 => ?_) (fun c4 => ?_)
    ·
      refine s_iload_n C dX13_push_39 rfl 2 rfl ?_
      refine s_if_ne (tgt := 45) C dX13_push_40 (by decide) (fun c5 => ?_) (fun c5 => ?_)
      ·
        refine s_aload_n C dX13_push_45 rfl 0 rfl ?_
        refine s_iload_n C dX13_push_46 rfl 1 rfl ?_
        refine s_callV C R0 (kX13_emptyShifted (xl X) n0 g0 p1) (Nat.le_trans (by decide) V) mmX13_emptyShifted miX13_emptyShifted q2517 (rc26 (Nat.le_trans (by decide) V)) g0 rfl rfl rfl (Nat.le_of_ble_eq_true rfl) ⟨Nat.le_of_ble_eq_true rfl, Nat.le_of_ble_eq_true rfl, Nat.le_of_ble_eq_true rfl, Nat.le_of_ble_eq_true rfl⟩ dX13_push_47 (fun _ μ6 => ?_)
        refine g_st (st' := []) rfl ?_
        refine s_aload_n C dX13_push_50 rfl 0 rfl ?_
        refine s_iload_n C dX13_push_51 rfl 1 rfl ?_
        refine s_iconst (v := (5 : Int32)) C dX13_push_52 (by decide) ?_
        refine s_callV C R0 (kX13_note (xl X) n0 g0 p1 (5 : Int32)) (Nat.le_trans (by decide) V) mmX13_note miX13_note q2473 (rc26 (Nat.le_trans (by decide) V)) g0 rfl rfl rfl (Nat.le_of_ble_eq_true rfl) ⟨Nat.le_of_ble_eq_true rfl, Nat.le_of_ble_eq_true rfl, Nat.le_of_ble_eq_true rfl, Nat.le_of_ble_eq_true rfl⟩ dX13_push_53 (fun _ μ7 => ?_)
        refine g_st (st' := []) rfl ?_
        refine s_iconst (v := (0 : Int32)) C dX13_push_56 (by decide) ?_
        exact s_iret C E dX13_push_57
      ·
        refine s_iconst (v := (3 : Int32)) C dX13_push_43 (by decide) ?_
        exact s_iret C E dX13_push_44
    ·
      refine s_aload_n C dX13_push_32 rfl 0 rfl ?_
      refine s_iload_n C dX13_push_33 rfl 1 rfl ?_
      refine s_callV C R0 (kX13_appendShifted (xl X) n0 g0 p1) (Nat.le_trans (by decide) V) mmX13_appendShifted miX13_appendShifted q2513 (rc26 (Nat.le_trans (by decide) V)) g0 rfl rfl rfl (Nat.le_of_ble_eq_true rfl) ⟨Nat.le_of_ble_eq_true rfl, Nat.le_of_ble_eq_true rfl, Nat.le_of_ble_eq_true rfl, Nat.le_of_ble_eq_true rfl⟩ dX13_push_34 (fun _ μ8 => ?_)
      refine g_st (st' := []) rfl ?_
      refine s_iconst (v := (0 : Int32)) C dX13_push_37 (by decide) ?_
      exact s_iret C E dX13_push_38
  refine s_iload_n C dX13_push_0 rfl 2 rfl ?_
  refine s_if_eq (tgt := 23) C dX13_push_1 (by decide) (fun c9 => ?_) (fun c9 => ?_)
  ·
    exact g_sub [0, 1, 3] rfl (hj23 μ)
  ·
    refine s_aload_n C dX13_push_4 rfl 0 rfl ?_
    refine s_iload_n C dX13_push_5 rfl 1 rfl ?_
    refine s_bipush (v := (6 : Int32)) C dX13_push_6 (by decide) ?_
    refine s_callV C R0 (kX13_of (xl X) n0 g0 p1 (6 : Int32)) (Nat.le_trans (by decide) V) mmX13_of miX13_of q2307 (rc26 (Nat.le_trans (by decide) V)) g0 rfl rfl rfl (Nat.le_of_ble_eq_true rfl) ⟨Nat.le_of_ble_eq_true rfl, Nat.le_of_ble_eq_true rfl, Nat.le_of_ble_eq_true rfl, Nat.le_of_ble_eq_true rfl⟩ dX13_push_8 (fun x11 μ10 => ?_)
    refine g_st (st' := [.int x11]) rfl ?_
    refine s_aload_n C dX13_push_11 rfl 0 rfl ?_
    refine s_iload_n C dX13_push_12 rfl 1 rfl ?_
    refine s_bipush (v := (15 : Int32)) C dX13_push_13 (by decide) ?_
    refine s_callV C R0 (kX13_setting (xl X) n0 g0 p1 (15 : Int32)) (Nat.le_trans (by decide) V) mmX13_setting miX13_setting q2241 (rc26 (Nat.le_trans (by decide) V)) g0 rfl rfl rfl (Nat.le_of_ble_eq_true rfl) ⟨Nat.le_of_ble_eq_true rfl, Nat.le_of_ble_eq_true rfl, Nat.le_of_ble_eq_true rfl, Nat.le_of_ble_eq_true rfl⟩ dX13_push_15 (fun x13 μ12 => ?_)
    refine g_st (st' := [.int x13, .int x11]) rfl ?_
    refine s_icmp_ge (tgt := 23) C dX13_push_18 (by decide) (fun c14 => ?_) (fun c14 => ?_)
    ·
      exact g_sub [0, 1, 3] rfl (hj23 μ12)
    ·
      refine s_iconst (v := (0 : Int32)) C dX13_push_21 (by decide) ?_
      exact s_iret C E dX13_push_22
/-! PinEnginesModel.put(II)I -/
def fX13_put (fu : Nat) (n0 : Nat) (p1 : Int32) (p2 : Int32) (μ : Mem) : Option (Int32 × Mem) :=
  nm (wI μ 26 n0 6 (0 : Int32)) fun μ1 =>
  bnd (fX13_exists n0 p1 μ1) fun x3 μ2 =>
  if ¬ x3 = 0 then (
    bnd (fX13_isFull n0 p1 (0 : Int32) μ2) fun x6 μ5 =>
    if x6 = 0 then (
      bnd (fX13_record fu n0 μ5) fun _ μ8 =>
      bnd (fX13_append n0 p1 (0 : Int32) p2 μ8) fun _ μ9 =>
      bnd (fX13_of n0 p1 (11 : Int32) μ9) fun x11 μ10 =>
      some (x11, μ10)
    ) else (
      some ((-2 : Int32), μ5)
    )
  ) else (
    bnd (fX13_raise n0 (1 : Int32) μ2) fun x13 μ12 =>
    some (x13, μ12)
  )
set_option maxHeartbeats 4000000 in
set_option maxRecDepth 100000 in
theorem kX13_put (l : Launch) (fu : Nat) (n0 : Nat) (g0 : n0 < 1) (p1 : Int32) (p2 : Int32) : Kon 1 l yX13_put cX13_put 3 (some .int) 2 47 0 0 (fun ad => [.ref (ad 26 n0), .int p1, .int p2]) rvI (fun μ => fX13_put fu n0 p1 p2 μ) := by
  refine kon_of (by decide) (fun _ => Nat.le_of_ble_eq_true rfl) (fun X r0 μ hXl hXn V C E => ?_)
  have hN : ∀ i : Nat, i < 3 → i < xn X := fun i h => hXn.symm ▸ h
  have R0 := fen_rm E
  show G X r0 0 0 μ 0 [(0, .ref (xa X 26 n0)), (1, .int p1), (2, .int p2)] [] (fX13_put fu n0 p1 p2 μ)
  unfold fX13_put
  refine s_aload_n C dX13_put_0 rfl 0 rfl ?_
  refine s_iconst (v := (0 : Int32)) C dX13_put_1 (by decide) ?_
  refine s_putI C (fpX13_231_26 (Nat.le_trans (by decide) V)) g0 dX13_put_2 ?_
  refine g_nmM (fun μ1 => ?_)
  refine s_aload_n C dX13_put_5 rfl 0 rfl ?_
  refine s_iload_n C dX13_put_6 rfl 1 rfl ?_
  refine s_callV C R0 (kX13_exists (xl X) n0 g0 p1) (Nat.le_trans (by decide) V) mmX13_exists miX13_exists q2303 (rc26 (Nat.le_trans (by decide) V)) g0 rfl rfl rfl (Nat.le_of_ble_eq_true rfl) ⟨Nat.le_of_ble_eq_true rfl, Nat.le_of_ble_eq_true rfl, Nat.le_of_ble_eq_true rfl, Nat.le_of_ble_eq_true rfl⟩ dX13_put_7 (fun x3 μ2 => ?_)
  refine g_st (st' := [.int x3]) rfl ?_
  refine s_if_ne (tgt := 19) C dX13_put_10 (by decide) (fun c4 => ?_) (fun c4 => ?_)
  ·
    refine s_aload_n C dX13_put_19 rfl 0 rfl ?_
    refine s_iload_n C dX13_put_20 rfl 1 rfl ?_
    refine s_iconst (v := (0 : Int32)) C dX13_put_21 (by decide) ?_
    refine s_callV C R0 (kX13_isFull (xl X) n0 g0 p1 (0 : Int32)) (Nat.le_trans (by decide) V) mmX13_isFull miX13_isFull q2368 (rc26 (Nat.le_trans (by decide) V)) g0 rfl rfl rfl (Nat.le_of_ble_eq_true rfl) ⟨Nat.le_of_ble_eq_true rfl, Nat.le_of_ble_eq_true rfl, Nat.le_of_ble_eq_true rfl, Nat.le_of_ble_eq_true rfl⟩ dX13_put_22 (fun x6 μ5 => ?_)
    refine g_st (st' := [.int x6]) rfl ?_
    refine s_if_eq (tgt := 31) C dX13_put_25 (by decide) (fun c7 => ?_) (fun c7 => ?_)
    ·
      refine s_aload_n C dX13_put_31 rfl 0 rfl ?_
      refine s_callV C R0 (kX13_record (xl X) fu n0 g0) (Nat.le_trans (by decide) V) mmX13_record miX13_record q2372 (rc26 (Nat.le_trans (by decide) V)) g0 rfl rfl rfl (Nat.le_of_ble_eq_true rfl) ⟨Nat.le_of_ble_eq_true rfl, Nat.le_of_ble_eq_true rfl, Nat.le_of_ble_eq_true rfl, Nat.le_of_ble_eq_true rfl⟩ dX13_put_32 (fun _ μ8 => ?_)
      refine g_st (st' := []) rfl ?_
      refine s_aload_n C dX13_put_35 rfl 0 rfl ?_
      refine s_iload_n C dX13_put_36 rfl 1 rfl ?_
      refine s_iconst (v := (0 : Int32)) C dX13_put_37 (by decide) ?_
      refine s_iload_n C dX13_put_38 rfl 2 rfl ?_
      refine s_callV C R0 (kX13_append (xl X) n0 g0 p1 (0 : Int32) p2) (Nat.le_trans (by decide) V) mmX13_append miX13_append q2379 (rc26 (Nat.le_trans (by decide) V)) g0 rfl rfl rfl (Nat.le_of_ble_eq_true rfl) ⟨Nat.le_of_ble_eq_true rfl, Nat.le_of_ble_eq_true rfl, Nat.le_of_ble_eq_true rfl, Nat.le_of_ble_eq_true rfl⟩ dX13_put_39 (fun _ μ9 => ?_)
      refine g_st (st' := []) rfl ?_
      refine s_aload_n C dX13_put_42 rfl 0 rfl ?_
      refine s_iload_n C dX13_put_43 rfl 1 rfl ?_
      refine s_bipush (v := (11 : Int32)) C dX13_put_44 (by decide) ?_
      refine s_callV C R0 (kX13_of (xl X) n0 g0 p1 (11 : Int32)) (Nat.le_trans (by decide) V) mmX13_of miX13_of q2307 (rc26 (Nat.le_trans (by decide) V)) g0 rfl rfl rfl (Nat.le_of_ble_eq_true rfl) ⟨Nat.le_of_ble_eq_true rfl, Nat.le_of_ble_eq_true rfl, Nat.le_of_ble_eq_true rfl, Nat.le_of_ble_eq_true rfl⟩ dX13_put_46 (fun x11 μ10 => ?_)
      refine g_st (st' := [.int x11]) rfl ?_
      exact s_iret C E dX13_put_49
    ·
      refine s_bipush (v := (-2 : Int32)) C dX13_put_28 (by decide) ?_
      exact s_iret C E dX13_put_30
  ·
    refine s_aload_n C dX13_put_13 rfl 0 rfl ?_
    refine s_iconst (v := (1 : Int32)) C dX13_put_14 (by decide) ?_
    refine s_callV C R0 (kX13_raise (xl X) n0 g0 (1 : Int32)) (Nat.le_trans (by decide) V) mmX13_raise miX13_raise q2259 (rc26 (Nat.le_trans (by decide) V)) g0 rfl rfl rfl (Nat.le_of_ble_eq_true rfl) ⟨Nat.le_of_ble_eq_true rfl, Nat.le_of_ble_eq_true rfl, Nat.le_of_ble_eq_true rfl, Nat.le_of_ble_eq_true rfl⟩ dX13_put_15 (fun x13 μ12 => ?_)
    refine g_st (st' := [.int x13]) rfl ?_
    exact s_iret C E dX13_put_18
/-! PinEnginesModel.take(I)J -/
def fX13_take (fu : Nat) (n0 : Nat) (p1 : Int32) (μ : Mem) : Option (Int64 × Mem) :=
  nm (wI μ 26 n0 6 (0 : Int32)) fun μ1 =>
  bnd (fX13_exists n0 p1 μ1) fun x3 μ2 =>
  if ¬ x3 = 0 then (
    bnd (fX13_of n0 p1 (12 : Int32) μ2) fun x6 μ5 =>
    if ¬ x6 = 0 then (
      bnd (fX13_record fu n0 μ5) fun _ μ8 =>
      bnd (fX13_removeFirst fu n0 p1 (1 : Int32) μ8) fun x10 μ9 =>
      bnd (fX13_unsigned x10 μ9) fun y12 μ11 =>
      some (y12, μ11)
    ) else (
      some ((-2 : Int64), μ5)
    )
  ) else (
    bnd (fX13_raise n0 (1 : Int32) μ2) fun x14 μ13 =>
    some (x14.toInt64, μ13)
  )
set_option maxHeartbeats 4000000 in
set_option maxRecDepth 100000 in
theorem kX13_take (l : Launch) (fu : Nat) (n0 : Nat) (g0 : n0 < 1) (p1 : Int32) : Kon 1 l yX13_take cX13_take 2 (some .long) 2 49 0 0 (fun ad => [.ref (ad 26 n0), .int p1]) rvJ (fun μ => fX13_take fu n0 p1 μ) := by
  refine kon_of (by decide) (fun _ => Nat.le_of_ble_eq_true rfl) (fun X r0 μ hXl hXn V C E => ?_)
  have hN : ∀ i : Nat, i < 2 → i < xn X := fun i h => hXn.symm ▸ h
  have R0 := fen_rm E
  show G X r0 0 0 μ 0 [(0, .ref (xa X 26 n0)), (1, .int p1)] [] (fX13_take fu n0 p1 μ)
  unfold fX13_take
  refine s_aload_n C dX13_take_0 rfl 0 rfl ?_
  refine s_iconst (v := (0 : Int32)) C dX13_take_1 (by decide) ?_
  refine s_putI C (fpX13_231_26 (Nat.le_trans (by decide) V)) g0 dX13_take_2 ?_
  refine g_nmM (fun μ1 => ?_)
  refine s_aload_n C dX13_take_5 rfl 0 rfl ?_
  refine s_iload_n C dX13_take_6 rfl 1 rfl ?_
  refine s_callV C R0 (kX13_exists (xl X) n0 g0 p1) (Nat.le_trans (by decide) V) mmX13_exists miX13_exists q2303 (rc26 (Nat.le_trans (by decide) V)) g0 rfl rfl rfl (Nat.le_of_ble_eq_true rfl) ⟨Nat.le_of_ble_eq_true rfl, Nat.le_of_ble_eq_true rfl, Nat.le_of_ble_eq_true rfl, Nat.le_of_ble_eq_true rfl⟩ dX13_take_7 (fun x3 μ2 => ?_)
  refine g_st (st' := [.int x3]) rfl ?_
  refine s_if_ne (tgt := 20) C dX13_take_10 (by decide) (fun c4 => ?_) (fun c4 => ?_)
  ·
    refine s_aload_n C dX13_take_20 rfl 0 rfl ?_
    refine s_iload_n C dX13_take_21 rfl 1 rfl ?_
    refine s_bipush (v := (12 : Int32)) C dX13_take_22 (by decide) ?_
    refine s_callV C R0 (kX13_of (xl X) n0 g0 p1 (12 : Int32)) (Nat.le_trans (by decide) V) mmX13_of miX13_of q2307 (rc26 (Nat.le_trans (by decide) V)) g0 rfl rfl rfl (Nat.le_of_ble_eq_true rfl) ⟨Nat.le_of_ble_eq_true rfl, Nat.le_of_ble_eq_true rfl, Nat.le_of_ble_eq_true rfl, Nat.le_of_ble_eq_true rfl⟩ dX13_take_24 (fun x6 μ5 => ?_)
    refine g_st (st' := [.int x6]) rfl ?_
    refine s_if_ne (tgt := 34) C dX13_take_27 (by decide) (fun c7 => ?_) (fun c7 => ?_)
    ·
      refine s_aload_n C dX13_take_34 rfl 0 rfl ?_
      refine s_callV C R0 (kX13_record (xl X) fu n0 g0) (Nat.le_trans (by decide) V) mmX13_record miX13_record q2372 (rc26 (Nat.le_trans (by decide) V)) g0 rfl rfl rfl (Nat.le_of_ble_eq_true rfl) ⟨Nat.le_of_ble_eq_true rfl, Nat.le_of_ble_eq_true rfl, Nat.le_of_ble_eq_true rfl, Nat.le_of_ble_eq_true rfl⟩ dX13_take_35 (fun _ μ8 => ?_)
      refine g_st (st' := []) rfl ?_
      refine s_aload_n C dX13_take_38 rfl 0 rfl ?_
      refine s_iload_n C dX13_take_39 rfl 1 rfl ?_
      refine s_iconst (v := (1 : Int32)) C dX13_take_40 (by decide) ?_
      refine s_callV C R0 (kX13_removeFirst (xl X) fu n0 g0 p1 (1 : Int32)) (Nat.le_trans (by decide) V) mmX13_removeFirst miX13_removeFirst q2396 (rc26 (Nat.le_trans (by decide) V)) g0 rfl rfl rfl (Nat.le_of_ble_eq_true rfl) ⟨Nat.le_of_ble_eq_true rfl, Nat.le_of_ble_eq_true rfl, Nat.le_of_ble_eq_true rfl, Nat.le_of_ble_eq_true rfl⟩ dX13_take_41 (fun x10 μ9 => ?_)
      refine g_st (st' := [.int x10]) rfl ?_
      refine s_callS C R0 (kX13_unsigned (xl X) x10) (Nat.le_trans (by decide) V) mmX13_unsigned q2344 q2343 rfl rfl rfl rfl (Nat.le_of_ble_eq_true rfl) ⟨Nat.le_of_ble_eq_true rfl, Nat.le_of_ble_eq_true rfl, Nat.le_of_ble_eq_true rfl, Nat.le_of_ble_eq_true rfl⟩ dX13_take_44 (fun y12 μ11 => ?_)
      refine g_st (st' := [.long y12]) rfl ?_
      exact s_lret C E dX13_take_47
    ·
      refine s_ldc2 (v := (-2 : Int64)) C q2395 dX13_take_30 ?_
      exact s_lret C E dX13_take_33
  ·
    refine s_aload_n C dX13_take_13 rfl 0 rfl ?_
    refine s_iconst (v := (1 : Int32)) C dX13_take_14 (by decide) ?_
    refine s_callV C R0 (kX13_raise (xl X) n0 g0 (1 : Int32)) (Nat.le_trans (by decide) V) mmX13_raise miX13_raise q2259 (rc26 (Nat.le_trans (by decide) V)) g0 rfl rfl rfl (Nat.le_of_ble_eq_true rfl) ⟨Nat.le_of_ble_eq_true rfl, Nat.le_of_ble_eq_true rfl, Nat.le_of_ble_eq_true rfl, Nat.le_of_ble_eq_true rfl⟩ dX13_take_15 (fun x14 μ13 => ?_)
    refine g_st (st' := [.int x14]) rfl ?_
    refine s_i2l C dX13_take_18 ?_
    exact s_lret C E dX13_take_19
/-! PinEnginesModel.enable(IZ)Z -/
def fX13_enable (fu : Nat) (n0 : Nat) (p1 : Int32) (p2 : Int32) (μ : Mem) : Option (Int32 × Mem) :=
  jn (fun (μ1 : Mem) (a2 : Nat) (x4 : Int32) =>
    nm (wI μ1 26 a2 6 x4) fun μ5 =>
    if (μ5.1 26 n0 6) = 0 then (
      jn (fun (μ7 : Mem) (x8 : Int32) =>
        jn (fun (μ9 : Mem) (x10 : Int32) (a11 : Nat) (x13 : Int32) (x14 : Int32) (x15 : Int32) =>
          bnd (fX13_set a11 x13 x14 x15 μ9) fun _ μ16 =>
          ckZ x10 (some (x10, μ16))
        ) fun j58 =>
        if p2 = 0 then (
          j58 μ7 x8 n0 p1 (0 : Int32) (0 : Int32)
        ) else (
          j58 μ7 x8 n0 p1 (0 : Int32) (1 : Int32)
        )
      ) fun j45 =>
      bnd (fX13_record fu n0 μ5) fun _ μ18 =>
      bnd (fX13_of n0 p1 (0 : Int32) μ18) fun x20 μ19 =>
      if ¬ x20 = (1 : Int32) then (
        j45 μ19 (0 : Int32)
      ) else (
        j45 μ19 (1 : Int32)
      )
    ) else (
      ckZ (0 : Int32) (some ((0 : Int32), μ5))
    )
  ) fun j14 =>
  bnd (fX13_exists n0 p1 μ) fun x23 μ22 =>
  if x23 = 0 then (
    j14 μ22 n0 (1 : Int32)
  ) else (
    j14 μ22 n0 (0 : Int32)
  )
set_option maxHeartbeats 4000000 in
set_option maxRecDepth 100000 in
theorem kX13_enable (l : Launch) (fu : Nat) (n0 : Nat) (g0 : n0 < 1) (p1 : Int32) (p2 : Int32) : Kon 1 l yX13_enable cX13_enable 4 (some .boolean) 2 45 0 0 (fun ad => [.ref (ad 26 n0), .int p1, .int p2]) rvI (fun μ => fX13_enable fu n0 p1 p2 μ) := by
  refine kon_of (by decide) (fun _ => Nat.le_of_ble_eq_true rfl) (fun X r0 μ hXl hXn V C E => ?_)
  have hN : ∀ i : Nat, i < 4 → i < xn X := fun i h => hXn.symm ▸ h
  have R0 := fen_rm E
  show G X r0 0 0 μ 0 [(0, .ref (xa X 26 n0)), (1, .int p1), (2, .int p2)] [] (fX13_enable fu n0 p1 p2 μ)
  unfold fX13_enable
  refine g_jn (P := fun j14 => ∀ (μ1 : Mem) (a2 : Nat) (x4 : Int32), a2 < 1 → G X r0 0 0 μ1 14 [(0, .ref (xa X 26 n0)), (1, .int p1), (2, .int p2)] [.int x4, .ref (xa X 26 a2)] (j14 μ1 a2 x4)) ?_ (fun j14 hj14 => ?_)
  · intro μ1 a2 x4 b3
    refine s_putI C (fpX13_231_26 (Nat.le_trans (by decide) V)) b3 dX13_enable_14 ?_
    refine g_nmM (fun μ5 => ?_)
    refine s_aload_n C dX13_enable_17 rfl 0 rfl ?_
    refine s_getI C (fgX13_231_26 (Nat.le_trans (by decide) V)) g0 dX13_enable_18 ?_
    refine s_if_eq (tgt := 26) C dX13_enable_21 (by decide) (fun c6 => ?_) (fun c6 => ?_)
    ·
      refine g_jn (P := fun j45 => ∀ (μ7 : Mem) (x8 : Int32), G X r0 0 0 μ7 45 [(0, .ref (xa X 26 n0)), (1, .int p1), (2, .int p2)] [.int x8] (j45 μ7 x8)) ?_ (fun j45 hj45 => ?_)
      · intro μ7 x8
        refine g_jn (P := fun j58 => ∀ (μ9 : Mem) (x10 : Int32) (a11 : Nat) (x13 : Int32) (x14 : Int32) (x15 : Int32), a11 < 1 → G X r0 0 0 μ9 58 [(3, .int x10)] [.int x15, .int x14, .int x13, .ref (xa X 26 a11)] (j58 μ9 x10 a11 x13 x14 x15)) ?_ (fun j58 hj58 => ?_)
        · intro μ9 x10 a11 x13 x14 x15 b12
          refine s_callV C R0 (kX13_set (xl X) a11 b12 x13 x14 x15) (Nat.le_trans (by decide) V) mmX13_set miX13_set q2383 (rc26 (Nat.le_trans (by decide) V)) b12 rfl rfl rfl (Nat.le_of_ble_eq_true rfl) ⟨Nat.le_of_ble_eq_true rfl, Nat.le_of_ble_eq_true rfl, Nat.le_of_ble_eq_true rfl, Nat.le_of_ble_eq_true rfl⟩ dX13_enable_58 (fun _ μ16 => ?_)
          refine g_st (st' := []) rfl ?_
          refine s_iload_n C dX13_enable_61 rfl 0 rfl ?_
          exact s_zret C E dX13_enable_62
        refine s_istore_n (L' := [(3, .int x8), (0, .ref (xa X 26 n0)), (1, .int p1), (2, .int p2)]) C dX13_enable_45 rfl (hN 3 (by decide)) rfl ?_
        refine s_aload_n C dX13_enable_46 rfl 1 rfl ?_
        refine s_iload_n C dX13_enable_47 rfl 2 rfl ?_
        refine s_iconst (v := (0 : Int32)) C dX13_enable_48 (by decide) ?_
        refine s_iload_n C dX13_enable_49 rfl 3 rfl ?_
        refine s_if_eq (tgt := 57) C dX13_enable_50 (by decide) (fun c17 => ?_) (fun c17 => ?_)
        ·
          refine s_iconst (v := (0 : Int32)) C dX13_enable_57 (by decide) ?_
          exact g_sub [0] rfl (hj58 μ7 x8 n0 p1 (0 : Int32) (0 : Int32) g0)
        ·
          refine s_iconst (v := (1 : Int32)) C dX13_enable_53 (by decide) ?_
          refine s_goto (tgt := 58) C dX13_enable_54 (by decide) ?_
          exact g_sub [0] rfl (hj58 μ7 x8 n0 p1 (0 : Int32) (1 : Int32) g0)
      refine s_aload_n C dX13_enable_26 rfl 0 rfl ?_
      refine s_callV C R0 (kX13_record (xl X) fu n0 g0) (Nat.le_trans (by decide) V) mmX13_record miX13_record q2372 (rc26 (Nat.le_trans (by decide) V)) g0 rfl rfl rfl (Nat.le_of_ble_eq_true rfl) ⟨Nat.le_of_ble_eq_true rfl, Nat.le_of_ble_eq_true rfl, Nat.le_of_ble_eq_true rfl, Nat.le_of_ble_eq_true rfl⟩ dX13_enable_27 (fun _ μ18 => ?_)
      refine g_st (st' := []) rfl ?_
      refine s_aload_n C dX13_enable_30 rfl 0 rfl ?_
      refine s_iload_n C dX13_enable_31 rfl 1 rfl ?_
      refine s_iconst (v := (0 : Int32)) C dX13_enable_32 (by decide) ?_
      refine s_callV C R0 (kX13_of (xl X) n0 g0 p1 (0 : Int32)) (Nat.le_trans (by decide) V) mmX13_of miX13_of q2307 (rc26 (Nat.le_trans (by decide) V)) g0 rfl rfl rfl (Nat.le_of_ble_eq_true rfl) ⟨Nat.le_of_ble_eq_true rfl, Nat.le_of_ble_eq_true rfl, Nat.le_of_ble_eq_true rfl, Nat.le_of_ble_eq_true rfl⟩ dX13_enable_33 (fun x20 μ19 => ?_)
      refine g_st (st' := [.int x20]) rfl ?_
      refine s_iconst (v := (1 : Int32)) C dX13_enable_36 (by decide) ?_
      refine s_icmp_ne (tgt := 44) C dX13_enable_37 (by decide) (fun c21 => ?_) (fun c21 => ?_)
      ·
        refine s_iconst (v := (0 : Int32)) C dX13_enable_44 (by decide) ?_
        exact g_sub [0, 1, 2] rfl (hj45 μ19 (0 : Int32))
      ·
        refine s_iconst (v := (1 : Int32)) C dX13_enable_40 (by decide) ?_
        refine s_goto (tgt := 45) C dX13_enable_41 (by decide) ?_
        exact g_sub [0, 1, 2] rfl (hj45 μ19 (1 : Int32))
    ·
      refine s_iconst (v := (0 : Int32)) C dX13_enable_24 (by decide) ?_
      exact s_zret C E dX13_enable_25
  refine s_aload_n C dX13_enable_0 rfl 0 rfl ?_
  refine s_aload_n C dX13_enable_1 rfl 0 rfl ?_
  refine s_iload_n C dX13_enable_2 rfl 1 rfl ?_
  refine s_callV C R0 (kX13_exists (xl X) n0 g0 p1) (Nat.le_trans (by decide) V) mmX13_exists miX13_exists q2303 (rc26 (Nat.le_trans (by decide) V)) g0 rfl rfl rfl (Nat.le_of_ble_eq_true rfl) ⟨Nat.le_of_ble_eq_true rfl, Nat.le_of_ble_eq_true rfl, Nat.le_of_ble_eq_true rfl, Nat.le_of_ble_eq_true rfl⟩ dX13_enable_3 (fun x23 μ22 => ?_)
  refine g_st (st' := [.int x23, .ref (xa X 26 n0)]) rfl ?_
  refine s_if_eq (tgt := 13) C dX13_enable_6 (by decide) (fun c24 => ?_) (fun c24 => ?_)
  ·
    refine s_iconst (v := (1 : Int32)) C dX13_enable_13 (by decide) ?_
    exact g_sub [0, 1, 2] rfl (hj14 μ22 n0 (1 : Int32) g0)
  ·
    refine s_iconst (v := (0 : Int32)) C dX13_enable_9 (by decide) ?_
    refine s_goto (tgt := 14) C dX13_enable_10 (by decide) ?_
    exact g_sub [0, 1, 2] rfl (hj14 μ22 n0 (0 : Int32) g0)
/-! PinEnginesModel.restart(I)I -/
def fX13_restart (fu : Nat) (n0 : Nat) (p1 : Int32) (μ : Mem) : Option (Int32 × Mem) :=
  nm (wI μ 26 n0 6 (0 : Int32)) fun μ1 =>
  bnd (fX13_exists n0 p1 μ1) fun x3 μ2 =>
  if ¬ x3 = 0 then (
    bnd (fX13_record fu n0 μ2) fun _ μ5 =>
    bnd (fX13_of n0 p1 (1 : Int32) μ5) fun x7 μ6 =>
    bnd (fX13_begin fu n0 p1 μ6) fun _ μ8 =>
    some (x7, μ8)
  ) else (
    bnd (fX13_raise n0 (1 : Int32) μ2) fun x10 μ9 =>
    some (x10, μ9)
  )
set_option maxHeartbeats 4000000 in
set_option maxRecDepth 100000 in
theorem kX13_restart (l : Launch) (fu : Nat) (n0 : Nat) (g0 : n0 < 1) (p1 : Int32) : Kon 1 l yX13_restart cX13_restart 3 (some .int) 2 45 0 0 (fun ad => [.ref (ad 26 n0), .int p1]) rvI (fun μ => fX13_restart fu n0 p1 μ) := by
  refine kon_of (by decide) (fun _ => Nat.le_of_ble_eq_true rfl) (fun X r0 μ hXl hXn V C E => ?_)
  have hN : ∀ i : Nat, i < 3 → i < xn X := fun i h => hXn.symm ▸ h
  have R0 := fen_rm E
  show G X r0 0 0 μ 0 [(0, .ref (xa X 26 n0)), (1, .int p1)] [] (fX13_restart fu n0 p1 μ)
  unfold fX13_restart
  refine s_aload_n C dX13_restart_0 rfl 0 rfl ?_
  refine s_iconst (v := (0 : Int32)) C dX13_restart_1 (by decide) ?_
  refine s_putI C (fpX13_231_26 (Nat.le_trans (by decide) V)) g0 dX13_restart_2 ?_
  refine g_nmM (fun μ1 => ?_)
  refine s_aload_n C dX13_restart_5 rfl 0 rfl ?_
  refine s_iload_n C dX13_restart_6 rfl 1 rfl ?_
  refine s_callV C R0 (kX13_exists (xl X) n0 g0 p1) (Nat.le_trans (by decide) V) mmX13_exists miX13_exists q2303 (rc26 (Nat.le_trans (by decide) V)) g0 rfl rfl rfl (Nat.le_of_ble_eq_true rfl) ⟨Nat.le_of_ble_eq_true rfl, Nat.le_of_ble_eq_true rfl, Nat.le_of_ble_eq_true rfl, Nat.le_of_ble_eq_true rfl⟩ dX13_restart_7 (fun x3 μ2 => ?_)
  refine g_st (st' := [.int x3]) rfl ?_
  refine s_if_ne (tgt := 19) C dX13_restart_10 (by decide) (fun c4 => ?_) (fun c4 => ?_)
  ·
    refine s_aload_n C dX13_restart_19 rfl 0 rfl ?_
    refine s_callV C R0 (kX13_record (xl X) fu n0 g0) (Nat.le_trans (by decide) V) mmX13_record miX13_record q2372 (rc26 (Nat.le_trans (by decide) V)) g0 rfl rfl rfl (Nat.le_of_ble_eq_true rfl) ⟨Nat.le_of_ble_eq_true rfl, Nat.le_of_ble_eq_true rfl, Nat.le_of_ble_eq_true rfl, Nat.le_of_ble_eq_true rfl⟩ dX13_restart_20 (fun _ μ5 => ?_)
    refine g_st (st' := []) rfl ?_
    refine s_aload_n C dX13_restart_23 rfl 0 rfl ?_
    refine s_iload_n C dX13_restart_24 rfl 1 rfl ?_
    refine s_iconst (v := (1 : Int32)) C dX13_restart_25 (by decide) ?_
    refine s_callV C R0 (kX13_of (xl X) n0 g0 p1 (1 : Int32)) (Nat.le_trans (by decide) V) mmX13_of miX13_of q2307 (rc26 (Nat.le_trans (by decide) V)) g0 rfl rfl rfl (Nat.le_of_ble_eq_true rfl) ⟨Nat.le_of_ble_eq_true rfl, Nat.le_of_ble_eq_true rfl, Nat.le_of_ble_eq_true rfl, Nat.le_of_ble_eq_true rfl⟩ dX13_restart_26 (fun x7 μ6 => ?_)
    refine g_st (st' := [.int x7]) rfl ?_
    refine s_istore_n (L' := [(2, .int x7), (0, .ref (xa X 26 n0)), (1, .int p1)]) C dX13_restart_29 rfl (hN 2 (by decide)) rfl ?_
    refine s_aload_n C dX13_restart_30 rfl 1 rfl ?_
    refine s_iload_n C dX13_restart_31 rfl 2 rfl ?_
    refine s_callV C R0 (kX13_begin (xl X) fu n0 g0 p1) (Nat.le_trans (by decide) V) mmX13_begin miX13_begin q2408 (rc26 (Nat.le_trans (by decide) V)) g0 rfl rfl rfl (Nat.le_of_ble_eq_true rfl) ⟨Nat.le_of_ble_eq_true rfl, Nat.le_of_ble_eq_true rfl, Nat.le_of_ble_eq_true rfl, Nat.le_of_ble_eq_true rfl⟩ dX13_restart_32 (fun _ μ8 => ?_)
    refine g_st (st' := []) rfl ?_
    refine s_iload_n C dX13_restart_35 rfl 0 rfl ?_
    exact s_iret C E dX13_restart_36
  ·
    refine s_aload_n C dX13_restart_13 rfl 0 rfl ?_
    refine s_iconst (v := (1 : Int32)) C dX13_restart_14 (by decide) ?_
    refine s_callV C R0 (kX13_raise (xl X) n0 g0 (1 : Int32)) (Nat.le_trans (by decide) V) mmX13_raise miX13_raise q2259 (rc26 (Nat.le_trans (by decide) V)) g0 rfl rfl rfl (Nat.le_of_ble_eq_true rfl) ⟨Nat.le_of_ble_eq_true rfl, Nat.le_of_ble_eq_true rfl, Nat.le_of_ble_eq_true rfl, Nat.le_of_ble_eq_true rfl⟩ dX13_restart_15 (fun x10 μ9 => ?_)
    refine g_st (st' := [.int x10]) rfl ?_
    exact s_iret C E dX13_restart_18
/-! PinEnginesModel.drive(II)I -/
def fX13_drive (fu : Nat) (n0 : Nat) (p1 : Int32) (p2 : Int32) (μ : Mem) : Option (Int32 × Mem) :=
  nm (wI μ 26 n0 6 (0 : Int32)) fun μ1 =>
  bnd (fX13_isPin p1 μ1) fun x3 μ2 =>
  if ¬ x3 = 0 then (
    bnd (fX13_inRange p2 (0 : Int32) (1 : Int32) μ2) fun x6 μ5 =>
    if ¬ x6 = 0 then (
      bnd (fX13_record fu n0 μ5) fun _ μ8 =>
      bnd (fX13_putPin n0 p1 (2 : Int32) p2 μ8) fun _ μ9 =>
      bnd (fX13_levelOf n0 p1 μ9) fun x11 μ10 =>
      some (x11, μ10)
    ) else (
      bnd (fX13_raise n0 (2 : Int32) μ5) fun x13 μ12 =>
      some (x13, μ12)
    )
  ) else (
    bnd (fX13_raise n0 (1 : Int32) μ2) fun x15 μ14 =>
    some (x15, μ14)
  )
set_option maxHeartbeats 4000000 in
set_option maxRecDepth 100000 in
theorem kX13_drive (l : Launch) (fu : Nat) (n0 : Nat) (g0 : n0 < 1) (p1 : Int32) (p2 : Int32) : Kon 1 l yX13_drive cX13_drive 3 (some .int) 2 45 0 0 (fun ad => [.ref (ad 26 n0), .int p1, .int p2]) rvI (fun μ => fX13_drive fu n0 p1 p2 μ) := by
  refine kon_of (by decide) (fun _ => Nat.le_of_ble_eq_true rfl) (fun X r0 μ hXl hXn V C E => ?_)
  have hN : ∀ i : Nat, i < 3 → i < xn X := fun i h => hXn.symm ▸ h
  have R0 := fen_rm E
  show G X r0 0 0 μ 0 [(0, .ref (xa X 26 n0)), (1, .int p1), (2, .int p2)] [] (fX13_drive fu n0 p1 p2 μ)
  unfold fX13_drive
  refine s_aload_n C dX13_drive_0 rfl 0 rfl ?_
  refine s_iconst (v := (0 : Int32)) C dX13_drive_1 (by decide) ?_
  refine s_putI C (fpX13_231_26 (Nat.le_trans (by decide) V)) g0 dX13_drive_2 ?_
  refine g_nmM (fun μ1 => ?_)
  refine s_iload_n C dX13_drive_5 rfl 1 rfl ?_
  refine s_callS C R0 (kX13_isPin (xl X) p1) (Nat.le_trans (by decide) V) mmX13_isPin q2254 q2253 rfl rfl rfl rfl (Nat.le_of_ble_eq_true rfl) ⟨Nat.le_of_ble_eq_true rfl, Nat.le_of_ble_eq_true rfl, Nat.le_of_ble_eq_true rfl, Nat.le_of_ble_eq_true rfl⟩ dX13_drive_6 (fun x3 μ2 => ?_)
  refine g_st (st' := [.int x3]) rfl ?_
  refine s_if_ne (tgt := 18) C dX13_drive_9 (by decide) (fun c4 => ?_) (fun c4 => ?_)
  ·
    refine s_iload_n C dX13_drive_18 rfl 2 rfl ?_
    refine s_iconst (v := (0 : Int32)) C dX13_drive_19 (by decide) ?_
    refine s_iconst (v := (1 : Int32)) C dX13_drive_20 (by decide) ?_
    refine s_callS C R0 (kX13_inRange (xl X) p2 (0 : Int32) (1 : Int32)) (Nat.le_trans (by decide) V) mmX13_inRange q2257 q2256 rfl rfl rfl rfl (Nat.le_of_ble_eq_true rfl) ⟨Nat.le_of_ble_eq_true rfl, Nat.le_of_ble_eq_true rfl, Nat.le_of_ble_eq_true rfl, Nat.le_of_ble_eq_true rfl⟩ dX13_drive_21 (fun x6 μ5 => ?_)
    refine g_st (st' := [.int x6]) rfl ?_
    refine s_if_ne (tgt := 33) C dX13_drive_24 (by decide) (fun c7 => ?_) (fun c7 => ?_)
    ·
      refine s_aload_n C dX13_drive_33 rfl 0 rfl ?_
      refine s_callV C R0 (kX13_record (xl X) fu n0 g0) (Nat.le_trans (by decide) V) mmX13_record miX13_record q2372 (rc26 (Nat.le_trans (by decide) V)) g0 rfl rfl rfl (Nat.le_of_ble_eq_true rfl) ⟨Nat.le_of_ble_eq_true rfl, Nat.le_of_ble_eq_true rfl, Nat.le_of_ble_eq_true rfl, Nat.le_of_ble_eq_true rfl⟩ dX13_drive_34 (fun _ μ8 => ?_)
      refine g_st (st' := []) rfl ?_
      refine s_aload_n C dX13_drive_37 rfl 0 rfl ?_
      refine s_iload_n C dX13_drive_38 rfl 1 rfl ?_
      refine s_iconst (v := (2 : Int32)) C dX13_drive_39 (by decide) ?_
      refine s_iload_n C dX13_drive_40 rfl 2 rfl ?_
      refine s_callV C R0 (kX13_putPin (xl X) n0 g0 p1 (2 : Int32) p2) (Nat.le_trans (by decide) V) mmX13_putPin miX13_putPin q2416 (rc26 (Nat.le_trans (by decide) V)) g0 rfl rfl rfl (Nat.le_of_ble_eq_true rfl) ⟨Nat.le_of_ble_eq_true rfl, Nat.le_of_ble_eq_true rfl, Nat.le_of_ble_eq_true rfl, Nat.le_of_ble_eq_true rfl⟩ dX13_drive_41 (fun _ μ9 => ?_)
      refine g_st (st' := []) rfl ?_
      refine s_aload_n C dX13_drive_44 rfl 0 rfl ?_
      refine s_iload_n C dX13_drive_45 rfl 1 rfl ?_
      refine s_callV C R0 (kX13_levelOf (xl X) n0 g0 p1) (Nat.le_trans (by decide) V) mmX13_levelOf miX13_levelOf q2263 (rc26 (Nat.le_trans (by decide) V)) g0 rfl rfl rfl (Nat.le_of_ble_eq_true rfl) ⟨Nat.le_of_ble_eq_true rfl, Nat.le_of_ble_eq_true rfl, Nat.le_of_ble_eq_true rfl, Nat.le_of_ble_eq_true rfl⟩ dX13_drive_46 (fun x11 μ10 => ?_)
      refine g_st (st' := [.int x11]) rfl ?_
      exact s_iret C E dX13_drive_49
    ·
      refine s_aload_n C dX13_drive_27 rfl 0 rfl ?_
      refine s_iconst (v := (2 : Int32)) C dX13_drive_28 (by decide) ?_
      refine s_callV C R0 (kX13_raise (xl X) n0 g0 (2 : Int32)) (Nat.le_trans (by decide) V) mmX13_raise miX13_raise q2259 (rc26 (Nat.le_trans (by decide) V)) g0 rfl rfl rfl (Nat.le_of_ble_eq_true rfl) ⟨Nat.le_of_ble_eq_true rfl, Nat.le_of_ble_eq_true rfl, Nat.le_of_ble_eq_true rfl, Nat.le_of_ble_eq_true rfl⟩ dX13_drive_29 (fun x13 μ12 => ?_)
      refine g_st (st' := [.int x13]) rfl ?_
      exact s_iret C E dX13_drive_32
  ·
    refine s_aload_n C dX13_drive_12 rfl 0 rfl ?_
    refine s_iconst (v := (1 : Int32)) C dX13_drive_13 (by decide) ?_
    refine s_callV C R0 (kX13_raise (xl X) n0 g0 (1 : Int32)) (Nat.le_trans (by decide) V) mmX13_raise miX13_raise q2259 (rc26 (Nat.le_trans (by decide) V)) g0 rfl rfl rfl (Nat.le_of_ble_eq_true rfl) ⟨Nat.le_of_ble_eq_true rfl, Nat.le_of_ble_eq_true rfl, Nat.le_of_ble_eq_true rfl, Nat.le_of_ble_eq_true rfl⟩ dX13_drive_14 (fun x15 μ14 => ?_)
    refine g_st (st' := [.int x15]) rfl ?_
    exact s_iret C E dX13_drive_17
/-! PinEnginesModel.schedule(III)I -/
def fX13_schedule (fu : Nat) (n0 : Nat) (p1 : Int32) (p2 : Int32) (p3 : Int32) (μ : Mem) : Option (Int32 × Mem) :=
  nm (wI μ 26 n0 6 (0 : Int32)) fun μ1 =>
  bnd (fX13_isPin p2 μ1) fun x3 μ2 =>
  if ¬ x3 = 0 then (
    jn (fun (μ5 : Mem) =>
      bnd (fX13_raise n0 (2 : Int32) μ5) fun x7 μ6 =>
      some (x7, μ6)
    ) fun j43 =>
    ckI (1 : Int32) (if 0 = 4 then 7000 else 700) <|
    bnd (fX13_inRange p1 (μ2.1 27 0 (1 : Int32).toNatClampNeg) (1000000 : Int32) μ2) fun x9 μ8 =>
    if x9 = 0 then (
      j43 μ8
    ) else (
      bnd (fX13_inRange p3 (0 : Int32) (1 : Int32) μ8) fun x12 μ11 =>
      if ¬ x12 = 0 then (
        ckI (3 : Int32) (if 0 = 4 then 7000 else 700) <|
        if ¬ (μ11.1 27 0 (3 : Int32).toNatClampNeg) = (32 : Int32) then (
          bnd (fX13_record fu n0 μ11) fun _ μ15 =>
          ckI (3 : Int32) (if 0 = 4 then 7000 else 700) <|
          nm (((124 : Int32) + ((3 : Int32) * (μ15.1 27 0 (3 : Int32).toNatClampNeg)))) fun x16 =>
          ckI x16 (if 0 = 4 then 7000 else 700) <|
          nm (wI μ15 27 0 x16.toNatClampNeg p1) fun μ17 =>
          ckI (x16 + (1 : Int32)) (if 0 = 4 then 7000 else 700) <|
          nm (wI μ17 27 0 (x16 + (1 : Int32)).toNatClampNeg p2) fun μ18 =>
          ckI (x16 + (2 : Int32)) (if 0 = 4 then 7000 else 700) <|
          nm (wI μ18 27 0 (x16 + (2 : Int32)).toNatClampNeg p3) fun μ19 =>
          ckI (3 : Int32) (if 0 = 4 then 7000 else 700) <|
          ckI (3 : Int32) (if 0 = 4 then 7000 else 700) <|
          nm (wI μ19 27 0 (3 : Int32).toNatClampNeg ((μ19.1 27 0 (3 : Int32).toNatClampNeg) + (1 : Int32))) fun μ20 =>
          ckI (3 : Int32) (if 0 = 4 then 7000 else 700) <|
          some ((μ20.1 27 0 (3 : Int32).toNatClampNeg), μ20)
        ) else (
          some ((-2 : Int32), μ11)
        )
      ) else (
        j43 μ11
      )
    )
  ) else (
    bnd (fX13_raise n0 (1 : Int32) μ2) fun x22 μ21 =>
    some (x22, μ21)
  )
set_option maxHeartbeats 4000000 in
set_option maxRecDepth 100000 in
theorem kX13_schedule (l : Launch) (fu : Nat) (n0 : Nat) (g0 : n0 < 1) (p1 : Int32) (p2 : Int32) (p3 : Int32) : Kon 1 l yX13_schedule cX13_schedule 5 (some .int) 2 45 0 0 (fun ad => [.ref (ad 26 n0), .int p1, .int p2, .int p3]) rvI (fun μ => fX13_schedule fu n0 p1 p2 p3 μ) := by
  refine kon_of (by decide) (fun _ => Nat.le_of_ble_eq_true rfl) (fun X r0 μ hXl hXn V C E => ?_)
  have hN : ∀ i : Nat, i < 5 → i < xn X := fun i h => hXn.symm ▸ h
  have R0 := fen_rm E
  show G X r0 0 0 μ 0 [(0, .ref (xa X 26 n0)), (1, .int p1), (2, .int p2), (3, .int p3)] [] (fX13_schedule fu n0 p1 p2 p3 μ)
  unfold fX13_schedule
  refine s_aload_n C dX13_schedule_0 rfl 0 rfl ?_
  refine s_iconst (v := (0 : Int32)) C dX13_schedule_1 (by decide) ?_
  refine s_putI C (fpX13_231_26 (Nat.le_trans (by decide) V)) g0 dX13_schedule_2 ?_
  refine g_nmM (fun μ1 => ?_)
  refine s_iload_n C dX13_schedule_5 rfl 2 rfl ?_
  refine s_callS C R0 (kX13_isPin (xl X) p2) (Nat.le_trans (by decide) V) mmX13_isPin q2254 q2253 rfl rfl rfl rfl (Nat.le_of_ble_eq_true rfl) ⟨Nat.le_of_ble_eq_true rfl, Nat.le_of_ble_eq_true rfl, Nat.le_of_ble_eq_true rfl, Nat.le_of_ble_eq_true rfl⟩ dX13_schedule_6 (fun x3 μ2 => ?_)
  refine g_st (st' := [.int x3]) rfl ?_
  refine s_if_ne (tgt := 18) C dX13_schedule_9 (by decide) (fun c4 => ?_) (fun c4 => ?_)
  ·
    refine g_jn (P := fun j43 => ∀ (μ5 : Mem), G X r0 0 0 μ5 43 [(0, .ref (xa X 26 n0))] [] (j43 μ5)) ?_ (fun j43 hj43 => ?_)
    · intro μ5
      refine s_aload_n C dX13_schedule_43 rfl 0 rfl ?_
      refine s_iconst (v := (2 : Int32)) C dX13_schedule_44 (by decide) ?_
      refine s_callV C R0 (kX13_raise (xl X) n0 g0 (2 : Int32)) (Nat.le_trans (by decide) V) mmX13_raise miX13_raise q2259 (rc26 (Nat.le_trans (by decide) V)) g0 rfl rfl rfl (Nat.le_of_ble_eq_true rfl) ⟨Nat.le_of_ble_eq_true rfl, Nat.le_of_ble_eq_true rfl, Nat.le_of_ble_eq_true rfl, Nat.le_of_ble_eq_true rfl⟩ dX13_schedule_45 (fun x7 μ6 => ?_)
      refine g_st (st' := [.int x7]) rfl ?_
      exact s_iret C E dX13_schedule_48
    refine s_iload_n C dX13_schedule_18 rfl 1 rfl ?_
    refine s_aload_n C dX13_schedule_19 rfl 0 rfl ?_
    refine s_getF C (fgX13_9_26 (Nat.le_trans (by decide) V)) g0 dX13_schedule_20 ?_
    refine s_iconst (v := (1 : Int32)) C dX13_schedule_23 (by decide) ?_
    refine s_iald C (ag27 (Nat.le_trans (by decide) V)) (by decide) dX13_schedule_24 ?_
    refine s_ldcw (v := (1000000 : Int32)) C q2424 dX13_schedule_25 ?_
    refine s_callS C R0 (kX13_inRange (xl X) p1 (μ2.1 27 0 (1 : Int32).toNatClampNeg) (1000000 : Int32)) (Nat.le_trans (by decide) V) mmX13_inRange q2257 q2256 rfl rfl rfl rfl (Nat.le_of_ble_eq_true rfl) ⟨Nat.le_of_ble_eq_true rfl, Nat.le_of_ble_eq_true rfl, Nat.le_of_ble_eq_true rfl, Nat.le_of_ble_eq_true rfl⟩ dX13_schedule_28 (fun x9 μ8 => ?_)
    refine g_st (st' := [.int x9]) rfl ?_
    refine s_if_eq (tgt := 43) C dX13_schedule_31 (by decide) (fun c10 => ?_) (fun c10 => ?_)
    ·
      exact g_sub [0] rfl (hj43 μ8)
    ·
      refine s_iload_n C dX13_schedule_34 rfl 3 rfl ?_
      refine s_iconst (v := (0 : Int32)) C dX13_schedule_35 (by decide) ?_
      refine s_iconst (v := (1 : Int32)) C dX13_schedule_36 (by decide) ?_
      refine s_callS C R0 (kX13_inRange (xl X) p3 (0 : Int32) (1 : Int32)) (Nat.le_trans (by decide) V) mmX13_inRange q2257 q2256 rfl rfl rfl rfl (Nat.le_of_ble_eq_true rfl) ⟨Nat.le_of_ble_eq_true rfl, Nat.le_of_ble_eq_true rfl, Nat.le_of_ble_eq_true rfl, Nat.le_of_ble_eq_true rfl⟩ dX13_schedule_37 (fun x12 μ11 => ?_)
      refine g_st (st' := [.int x12]) rfl ?_
      refine s_if_ne (tgt := 49) C dX13_schedule_40 (by decide) (fun c13 => ?_) (fun c13 => ?_)
      ·
        refine s_aload_n C dX13_schedule_49 rfl 0 rfl ?_
        refine s_getF C (fgX13_9_26 (Nat.le_trans (by decide) V)) g0 dX13_schedule_50 ?_
        refine s_iconst (v := (3 : Int32)) C dX13_schedule_53 (by decide) ?_
        refine s_iald C (ag27 (Nat.le_trans (by decide) V)) (by decide) dX13_schedule_54 ?_
        refine s_bipush (v := (32 : Int32)) C dX13_schedule_55 (by decide) ?_
        refine s_icmp_ne (tgt := 63) C dX13_schedule_57 (by decide) (fun c14 => ?_) (fun c14 => ?_)
        ·
          refine s_aload_n C dX13_schedule_63 rfl 0 rfl ?_
          refine s_callV C R0 (kX13_record (xl X) fu n0 g0) (Nat.le_trans (by decide) V) mmX13_record miX13_record q2372 (rc26 (Nat.le_trans (by decide) V)) g0 rfl rfl rfl (Nat.le_of_ble_eq_true rfl) ⟨Nat.le_of_ble_eq_true rfl, Nat.le_of_ble_eq_true rfl, Nat.le_of_ble_eq_true rfl, Nat.le_of_ble_eq_true rfl⟩ dX13_schedule_64 (fun _ μ15 => ?_)
          refine g_st (st' := []) rfl ?_
          refine s_bipush (v := (124 : Int32)) C dX13_schedule_67 (by decide) ?_
          refine s_iconst (v := (3 : Int32)) C dX13_schedule_69 (by decide) ?_
          refine s_aload_n C dX13_schedule_70 rfl 0 rfl ?_
          refine s_getF C (fgX13_9_26 (Nat.le_trans (by decide) V)) g0 dX13_schedule_71 ?_
          refine s_iconst (v := (3 : Int32)) C dX13_schedule_74 (by decide) ?_
          refine s_iald C (ag27 (Nat.le_trans (by decide) V)) (by decide) dX13_schedule_75 ?_
          refine s_imul C dX13_schedule_76 ?_
          refine s_iadd C dX13_schedule_77 ?_
          refine g_nmI (fun x16 => ?_)
          refine s_istore (L' := [(4, .int x16), (0, .ref (xa X 26 n0)), (1, .int p1), (2, .int p2), (3, .int p3)]) C dX13_schedule_78 (hN 4 (by decide)) rfl ?_
          refine s_aload_n C dX13_schedule_80 rfl 1 rfl ?_
          refine s_getF C (fgX13_9_26 (Nat.le_trans (by decide) V)) g0 dX13_schedule_81 ?_
          refine s_iload C dX13_schedule_84 0 rfl ?_
          refine s_iload_n C dX13_schedule_86 rfl 2 rfl ?_
          refine s_iast C (ag27 (Nat.le_trans (by decide) V)) (by decide) dX13_schedule_87 ?_
          refine g_nmM (fun μ17 => ?_)
          refine s_aload_n C dX13_schedule_88 rfl 1 rfl ?_
          refine s_getF C (fgX13_9_26 (Nat.le_trans (by decide) V)) g0 dX13_schedule_89 ?_
          refine s_iload C dX13_schedule_92 0 rfl ?_
          refine s_iconst (v := (1 : Int32)) C dX13_schedule_94 (by decide) ?_
          refine s_iadd C dX13_schedule_95 ?_
          refine s_iload_n C dX13_schedule_96 rfl 3 rfl ?_
          refine s_iast C (ag27 (Nat.le_trans (by decide) V)) (by decide) dX13_schedule_97 ?_
          refine g_nmM (fun μ18 => ?_)
          refine s_aload_n C dX13_schedule_98 rfl 1 rfl ?_
          refine s_getF C (fgX13_9_26 (Nat.le_trans (by decide) V)) g0 dX13_schedule_99 ?_
          refine s_iload C dX13_schedule_102 0 rfl ?_
          refine s_iconst (v := (2 : Int32)) C dX13_schedule_104 (by decide) ?_
          refine s_iadd C dX13_schedule_105 ?_
          refine s_iload_n C dX13_schedule_106 rfl 4 rfl ?_
          refine s_iast C (ag27 (Nat.le_trans (by decide) V)) (by decide) dX13_schedule_107 ?_
          refine g_nmM (fun μ19 => ?_)
          refine s_aload_n C dX13_schedule_108 rfl 1 rfl ?_
          refine s_getF C (fgX13_9_26 (Nat.le_trans (by decide) V)) g0 dX13_schedule_109 ?_
          refine s_iconst (v := (3 : Int32)) C dX13_schedule_112 (by decide) ?_
          refine s_dup2 C dX13_schedule_113 rfl rfl ?_
          refine s_iald C (ag27 (Nat.le_trans (by decide) V)) (by decide) dX13_schedule_114 ?_
          refine s_iconst (v := (1 : Int32)) C dX13_schedule_115 (by decide) ?_
          refine s_iadd C dX13_schedule_116 ?_
          refine s_iast C (ag27 (Nat.le_trans (by decide) V)) (by decide) dX13_schedule_117 ?_
          refine g_nmM (fun μ20 => ?_)
          refine s_aload_n C dX13_schedule_118 rfl 1 rfl ?_
          refine s_getF C (fgX13_9_26 (Nat.le_trans (by decide) V)) g0 dX13_schedule_119 ?_
          refine s_iconst (v := (3 : Int32)) C dX13_schedule_122 (by decide) ?_
          refine s_iald C (ag27 (Nat.le_trans (by decide) V)) (by decide) dX13_schedule_123 ?_
          exact s_iret C E dX13_schedule_124
        ·
          refine s_bipush (v := (-2 : Int32)) C dX13_schedule_60 (by decide) ?_
          exact s_iret C E dX13_schedule_62
      ·
        exact g_sub [0] rfl (hj43 μ11)
  ·
    refine s_aload_n C dX13_schedule_12 rfl 0 rfl ?_
    refine s_iconst (v := (1 : Int32)) C dX13_schedule_13 (by decide) ?_
    refine s_callV C R0 (kX13_raise (xl X) n0 g0 (1 : Int32)) (Nat.le_trans (by decide) V) mmX13_raise miX13_raise q2259 (rc26 (Nat.le_trans (by decide) V)) g0 rfl rfl rfl (Nat.le_of_ble_eq_true rfl) ⟨Nat.le_of_ble_eq_true rfl, Nat.le_of_ble_eq_true rfl, Nat.le_of_ble_eq_true rfl, Nat.le_of_ble_eq_true rfl⟩ dX13_schedule_14 (fun x22 μ21 => ?_)
    refine g_st (st' := [.int x22]) rfl ?_
    exact s_iret C E dX13_schedule_17
/-! PinEnginesModel.poke(II)I -/
def fX13_poke (fu : Nat) (n0 : Nat) (p1 : Int32) (p2 : Int32) (μ : Mem) : Option (Int32 × Mem) :=
  nm (wI μ 26 n0 6 (0 : Int32)) fun μ1 =>
  bnd (fX13_inRange p1 (0 : Int32) (15 : Int32) μ1) fun x3 μ2 =>
  if ¬ x3 = 0 then (
    bnd (fX13_record fu n0 μ2) fun _ μ5 =>
    ckI ((108 : Int32) + p1) (if 0 = 4 then 7000 else 700) <|
    nm ((μ5.1 27 0 ((108 : Int32) + p1).toNatClampNeg)) fun x6 =>
    ckI ((108 : Int32) + p1) (if 0 = 4 then 7000 else 700) <|
    nm (wI μ5 27 0 ((108 : Int32) + p1).toNatClampNeg p2) fun μ7 =>
    some (x6, μ7)
  ) else (
    bnd (fX13_raise n0 (1 : Int32) μ2) fun x9 μ8 =>
    some (x9, μ8)
  )
set_option maxHeartbeats 4000000 in
set_option maxRecDepth 100000 in
theorem kX13_poke (l : Launch) (fu : Nat) (n0 : Nat) (g0 : n0 < 1) (p1 : Int32) (p2 : Int32) : Kon 1 l yX13_poke cX13_poke 4 (some .int) 2 45 0 0 (fun ad => [.ref (ad 26 n0), .int p1, .int p2]) rvI (fun μ => fX13_poke fu n0 p1 p2 μ) := by
  refine kon_of (by decide) (fun _ => Nat.le_of_ble_eq_true rfl) (fun X r0 μ hXl hXn V C E => ?_)
  have hN : ∀ i : Nat, i < 4 → i < xn X := fun i h => hXn.symm ▸ h
  have R0 := fen_rm E
  show G X r0 0 0 μ 0 [(0, .ref (xa X 26 n0)), (1, .int p1), (2, .int p2)] [] (fX13_poke fu n0 p1 p2 μ)
  unfold fX13_poke
  refine s_aload_n C dX13_poke_0 rfl 0 rfl ?_
  refine s_iconst (v := (0 : Int32)) C dX13_poke_1 (by decide) ?_
  refine s_putI C (fpX13_231_26 (Nat.le_trans (by decide) V)) g0 dX13_poke_2 ?_
  refine g_nmM (fun μ1 => ?_)
  refine s_iload_n C dX13_poke_5 rfl 1 rfl ?_
  refine s_iconst (v := (0 : Int32)) C dX13_poke_6 (by decide) ?_
  refine s_bipush (v := (15 : Int32)) C dX13_poke_7 (by decide) ?_
  refine s_callS C R0 (kX13_inRange (xl X) p1 (0 : Int32) (15 : Int32)) (Nat.le_trans (by decide) V) mmX13_inRange q2257 q2256 rfl rfl rfl rfl (Nat.le_of_ble_eq_true rfl) ⟨Nat.le_of_ble_eq_true rfl, Nat.le_of_ble_eq_true rfl, Nat.le_of_ble_eq_true rfl, Nat.le_of_ble_eq_true rfl⟩ dX13_poke_9 (fun x3 μ2 => ?_)
  refine g_st (st' := [.int x3]) rfl ?_
  refine s_if_ne (tgt := 21) C dX13_poke_12 (by decide) (fun c4 => ?_) (fun c4 => ?_)
  ·
    refine s_aload_n C dX13_poke_21 rfl 0 rfl ?_
    refine s_callV C R0 (kX13_record (xl X) fu n0 g0) (Nat.le_trans (by decide) V) mmX13_record miX13_record q2372 (rc26 (Nat.le_trans (by decide) V)) g0 rfl rfl rfl (Nat.le_of_ble_eq_true rfl) ⟨Nat.le_of_ble_eq_true rfl, Nat.le_of_ble_eq_true rfl, Nat.le_of_ble_eq_true rfl, Nat.le_of_ble_eq_true rfl⟩ dX13_poke_22 (fun _ μ5 => ?_)
    refine g_st (st' := []) rfl ?_
    refine s_aload_n C dX13_poke_25 rfl 0 rfl ?_
    refine s_getF C (fgX13_9_26 (Nat.le_trans (by decide) V)) g0 dX13_poke_26 ?_
    refine s_bipush (v := (108 : Int32)) C dX13_poke_29 (by decide) ?_
    refine s_iload_n C dX13_poke_31 rfl 1 rfl ?_
    refine s_iadd C dX13_poke_32 ?_
    refine s_iald C (ag27 (Nat.le_trans (by decide) V)) (by decide) dX13_poke_33 ?_
    refine g_nmI (fun x6 => ?_)
    refine s_istore_n (L' := [(3, .int x6), (0, .ref (xa X 26 n0)), (1, .int p1), (2, .int p2)]) C dX13_poke_34 rfl (hN 3 (by decide)) rfl ?_
    refine s_aload_n C dX13_poke_35 rfl 1 rfl ?_
    refine s_getF C (fgX13_9_26 (Nat.le_trans (by decide) V)) g0 dX13_poke_36 ?_
    refine s_bipush (v := (108 : Int32)) C dX13_poke_39 (by decide) ?_
    refine s_iload_n C dX13_poke_41 rfl 2 rfl ?_
    refine s_iadd C dX13_poke_42 ?_
    refine s_iload_n C dX13_poke_43 rfl 3 rfl ?_
    refine s_iast C (ag27 (Nat.le_trans (by decide) V)) (by decide) dX13_poke_44 ?_
    refine g_nmM (fun μ7 => ?_)
    refine s_iload_n C dX13_poke_45 rfl 0 rfl ?_
    exact s_iret C E dX13_poke_46
  ·
    refine s_aload_n C dX13_poke_15 rfl 0 rfl ?_
    refine s_iconst (v := (1 : Int32)) C dX13_poke_16 (by decide) ?_
    refine s_callV C R0 (kX13_raise (xl X) n0 g0 (1 : Int32)) (Nat.le_trans (by decide) V) mmX13_raise miX13_raise q2259 (rc26 (Nat.le_trans (by decide) V)) g0 rfl rfl rfl (Nat.le_of_ble_eq_true rfl) ⟨Nat.le_of_ble_eq_true rfl, Nat.le_of_ble_eq_true rfl, Nat.le_of_ble_eq_true rfl, Nat.le_of_ble_eq_true rfl⟩ dX13_poke_17 (fun x9 μ8 => ?_)
    refine g_st (st' := [.int x9]) rfl ?_
    exact s_iret C E dX13_poke_20
/-! PinEngines$Engine.reset(LPinEngines$Setup;)V -/
def fX1_reset (n0 : Nat) (n1 : Nat) (μ : Mem) : Option (Unit × Mem) :=
  nm (wI μ 18 n0 0 (μ.1 8 n1 1)) fun μ1 =>
  nm (wI μ1 18 n0 1 (0 : Int32)) fun μ2 =>
  nm (wI μ2 18 n0 2 (0 : Int32)) fun μ3 =>
  nm (wI μ3 18 n0 3 (0 : Int32)) fun μ4 =>
  nm (wI μ4 18 n0 4 (0 : Int32)) fun μ5 =>
  nm (wI μ5 18 n0 5 (0 : Int32)) fun μ6 =>
  nm (wI μ6 18 n0 6 (32 : Int32)) fun μ7 =>
  nm (wI μ7 18 n0 7 (0 : Int32)) fun μ8 =>
  nm (wI μ8 18 n0 8 (0 : Int32)) fun μ9 =>
  nm (wI μ9 18 n0 9 ((μ9.1 8 n1 4) - (256 : Int32))) fun μ10 =>
  bnd (fX7_clear (2 * n0) (μ10.1 8 n1 19) μ10) fun _ μ12 =>
  bnd (fX8_outputRoom n1 μ12) fun x15 μ14 =>
  bnd (fX7_clear (2 * n0 + 1) x15 μ14) fun _ μ16 =>
  some ((), μ16)
set_option maxHeartbeats 4000000 in
set_option maxRecDepth 100000 in
theorem kX1_reset (l : Launch) (n0 : Nat) (g0 : n0 < 52) (n1 : Nat) (g1 : n1 < 8) : Kon 0 l yX1_reset cX1_reset 2 (none) 2 45 0 0 (fun ad => [.ref (ad 18 n0), .ref (ad 8 n1)]) rvV (fun μ => fX1_reset n0 n1 μ) := by
  refine kon_of (by decide) (fun _ => Nat.le_of_ble_eq_true rfl) (fun X r0 μ hXl hXn V C E => ?_)
  have hN : ∀ i : Nat, i < 2 → i < xn X := fun i h => hXn.symm ▸ h
  have R0 := fen_rm E
  show G X r0 0 0 μ 0 [(0, .ref (xa X 18 n0)), (1, .ref (xa X 8 n1))] [] (fX1_reset n0 n1 μ)
  unfold fX1_reset
  refine s_aload_n C dX1_reset_0 rfl 0 rfl ?_
  refine s_aload_n C dX1_reset_1 rfl 1 rfl ?_
  refine s_getI C (fgX1_33_8 _) g1 dX1_reset_2 ?_
  refine s_putI C (fpX1_39_18 _) g0 dX1_reset_5 ?_
  refine g_nmM (fun μ1 => ?_)
  refine s_aload_n C dX1_reset_8 rfl 0 rfl ?_
  refine s_iconst (v := (0 : Int32)) C dX1_reset_9 (by decide) ?_
  refine s_putI C (fpX1_42_18 _) g0 dX1_reset_10 ?_
  refine g_nmM (fun μ2 => ?_)
  refine s_aload_n C dX1_reset_13 rfl 0 rfl ?_
  refine s_iconst (v := (0 : Int32)) C dX1_reset_14 (by decide) ?_
  refine s_putI C (fpX1_45_18 _) g0 dX1_reset_15 ?_
  refine g_nmM (fun μ3 => ?_)
  refine s_aload_n C dX1_reset_18 rfl 0 rfl ?_
  refine s_iconst (v := (0 : Int32)) C dX1_reset_19 (by decide) ?_
  refine s_putI C (fpX1_48_18 _) g0 dX1_reset_20 ?_
  refine g_nmM (fun μ4 => ?_)
  refine s_aload_n C dX1_reset_23 rfl 0 rfl ?_
  refine s_iconst (v := (0 : Int32)) C dX1_reset_24 (by decide) ?_
  refine s_putI C (fpX1_51_18 _) g0 dX1_reset_25 ?_
  refine g_nmM (fun μ5 => ?_)
  refine s_aload_n C dX1_reset_28 rfl 0 rfl ?_
  refine s_iconst (v := (0 : Int32)) C dX1_reset_29 (by decide) ?_
  refine s_putI C (fpX1_54_18 _) g0 dX1_reset_30 ?_
  refine g_nmM (fun μ6 => ?_)
  refine s_aload_n C dX1_reset_33 rfl 0 rfl ?_
  refine s_bipush (v := (32 : Int32)) C dX1_reset_34 (by decide) ?_
  refine s_putI C (fpX1_57_18 _) g0 dX1_reset_36 ?_
  refine g_nmM (fun μ7 => ?_)
  refine s_aload_n C dX1_reset_39 rfl 0 rfl ?_
  refine s_iconst (v := (0 : Int32)) C dX1_reset_40 (by decide) ?_
  refine s_putI C (fpX1_60_18 _) g0 dX1_reset_41 ?_
  refine g_nmM (fun μ8 => ?_)
  refine s_aload_n C dX1_reset_44 rfl 0 rfl ?_
  refine s_iconst (v := (0 : Int32)) C dX1_reset_45 (by decide) ?_
  refine s_putI C (fpX1_63_18 _) g0 dX1_reset_46 ?_
  refine g_nmM (fun μ9 => ?_)
  refine s_aload_n C dX1_reset_49 rfl 0 rfl ?_
  refine s_aload_n C dX1_reset_50 rfl 1 rfl ?_
  refine s_getI C (fgX1_66_8 _) g1 dX1_reset_51 ?_
  refine s_sipush (v := (256 : Int32)) C dX1_reset_54 (by decide) ?_
  refine s_isub C dX1_reset_57 ?_
  refine s_putI C (fpX1_69_18 _) g0 dX1_reset_58 ?_
  refine g_nmM (fun μ10 => ?_)
  refine s_aload_n C dX1_reset_61 rfl 0 rfl ?_
  refine s_getF C (fgX1_12_18 _) g0 dX1_reset_62 ?_
  have b11 : 2 * n0 < 104 := by omega
  refine s_aload_n C dX1_reset_65 rfl 1 rfl ?_
  refine s_getI C (fgX1_72_8 _) g1 dX1_reset_66 ?_
  refine s_callV C R0 (kX7_clear (xl X) (2 * n0) b11 (μ10.1 8 n1 19)) (Nat.le_trans (by decide) V) mmX7_clear miX7_clear q721 (rc19 _) b11 rfl rfl rfl (Nat.le_of_ble_eq_true rfl) ⟨Nat.le_of_ble_eq_true rfl, Nat.le_of_ble_eq_true rfl, Nat.le_of_ble_eq_true rfl, Nat.le_of_ble_eq_true rfl⟩ dX1_reset_69 (fun _ μ12 => ?_)
  refine g_st (st' := []) rfl ?_
  refine s_aload_n C dX1_reset_72 rfl 0 rfl ?_
  refine s_getF C (fgX1_18_18 _) g0 dX1_reset_73 ?_
  have b13 : 2 * n0 + 1 < 104 := by omega
  refine s_aload_n C dX1_reset_76 rfl 1 rfl ?_
  refine s_callV C R0 (kX8_outputRoom (xl X) n1 g1) (Nat.le_trans (by decide) V) mmX8_outputRoom miX8_outputRoom q731 (rc8 _) g1 rfl rfl rfl (Nat.le_of_ble_eq_true rfl) ⟨Nat.le_of_ble_eq_true rfl, Nat.le_of_ble_eq_true rfl, Nat.le_of_ble_eq_true rfl, Nat.le_of_ble_eq_true rfl⟩ dX1_reset_77 (fun x15 μ14 => ?_)
  refine g_st (st' := [.int x15, .ref (xa X 19 (2 * n0 + 1))]) rfl ?_
  refine s_callV C R0 (kX7_clear (xl X) (2 * n0 + 1) b13 x15) (Nat.le_trans (by decide) V) mmX7_clear miX7_clear q721 (rc19 _) b13 rfl rfl rfl (Nat.le_of_ble_eq_true rfl) ⟨Nat.le_of_ble_eq_true rfl, Nat.le_of_ble_eq_true rfl, Nat.le_of_ble_eq_true rfl, Nat.le_of_ble_eq_true rfl⟩ dX1_reset_80 (fun _ μ16 => ?_)
  refine g_st (st' := []) rfl ?_
  exact s_vret C E dX1_reset_83
/-! PinEngines$Engine.copyFrom(LPinEngines$Engine;)V -/
def fX1_copyFrom (n0 : Nat) (n1 : Nat) (μ : Mem) : Option (Unit × Mem) :=
  nm (wI μ 18 n0 0 (μ.1 18 n1 0)) fun μ1 =>
  nm (wI μ1 18 n0 1 (μ1.1 18 n1 1)) fun μ2 =>
  nm (wI μ2 18 n0 2 (μ2.1 18 n1 2)) fun μ3 =>
  nm (wI μ3 18 n0 3 (μ3.1 18 n1 3)) fun μ4 =>
  nm (wI μ4 18 n0 4 (μ4.1 18 n1 4)) fun μ5 =>
  nm (wI μ5 18 n0 5 (μ5.1 18 n1 5)) fun μ6 =>
  nm (wI μ6 18 n0 6 (μ6.1 18 n1 6)) fun μ7 =>
  nm (wI μ7 18 n0 7 (μ7.1 18 n1 7)) fun μ8 =>
  nm (wI μ8 18 n0 8 (μ8.1 18 n1 8)) fun μ9 =>
  nm (wI μ9 18 n0 9 (μ9.1 18 n1 9)) fun μ10 =>
  ckZ (μ10.1 18 n1 10) <|
  nm (wI μ10 18 n0 10 (μ10.1 18 n1 10)) fun μ11 =>
  bnd (fX7_copyFrom (2 * n0) (2 * n1) μ11) fun _ μ14 =>
  bnd (fX7_copyFrom (2 * n0 + 1) (2 * n1 + 1) μ14) fun _ μ17 =>
  ckC (0 : Int32) (0 : Int32) (6 : Int32) (6) (6) <|
  nm (wC μ17 21 n1 (0 : Int32) 21 n0 (0 : Int32) (6 : Int32)) fun μ18 =>
  some ((), μ18)
set_option maxHeartbeats 4000000 in
set_option maxRecDepth 100000 in
theorem kX1_copyFrom (l : Launch) (n0 : Nat) (g0 : n0 < 52) (n1 : Nat) (g1 : n1 < 52) : Kon 0 l yX1_copyFrom cX1_copyFrom 2 (none) 2 61 0 0 (fun ad => [.ref (ad 18 n0), .ref (ad 18 n1)]) rvV (fun μ => fX1_copyFrom n0 n1 μ) := by
  refine kon_of (by decide) (fun _ => Nat.le_of_ble_eq_true rfl) (fun X r0 μ hXl hXn V C E => ?_)
  have hN : ∀ i : Nat, i < 2 → i < xn X := fun i h => hXn.symm ▸ h
  have R0 := fen_rm E
  show G X r0 0 0 μ 0 [(0, .ref (xa X 18 n0)), (1, .ref (xa X 18 n1))] [] (fX1_copyFrom n0 n1 μ)
  unfold fX1_copyFrom
  refine s_aload_n C dX1_copyFrom_0 rfl 0 rfl ?_
  refine s_aload_n C dX1_copyFrom_1 rfl 1 rfl ?_
  refine s_getI C (fgX1_39_18 _) g1 dX1_copyFrom_2 ?_
  refine s_putI C (fpX1_39_18 _) g0 dX1_copyFrom_5 ?_
  refine g_nmM (fun μ1 => ?_)
  refine s_aload_n C dX1_copyFrom_8 rfl 0 rfl ?_
  refine s_aload_n C dX1_copyFrom_9 rfl 1 rfl ?_
  refine s_getI C (fgX1_42_18 _) g1 dX1_copyFrom_10 ?_
  refine s_putI C (fpX1_42_18 _) g0 dX1_copyFrom_13 ?_
  refine g_nmM (fun μ2 => ?_)
  refine s_aload_n C dX1_copyFrom_16 rfl 0 rfl ?_
  refine s_aload_n C dX1_copyFrom_17 rfl 1 rfl ?_
  refine s_getI C (fgX1_45_18 _) g1 dX1_copyFrom_18 ?_
  refine s_putI C (fpX1_45_18 _) g0 dX1_copyFrom_21 ?_
  refine g_nmM (fun μ3 => ?_)
  refine s_aload_n C dX1_copyFrom_24 rfl 0 rfl ?_
  refine s_aload_n C dX1_copyFrom_25 rfl 1 rfl ?_
  refine s_getI C (fgX1_48_18 _) g1 dX1_copyFrom_26 ?_
  refine s_putI C (fpX1_48_18 _) g0 dX1_copyFrom_29 ?_
  refine g_nmM (fun μ4 => ?_)
  refine s_aload_n C dX1_copyFrom_32 rfl 0 rfl ?_
  refine s_aload_n C dX1_copyFrom_33 rfl 1 rfl ?_
  refine s_getI C (fgX1_51_18 _) g1 dX1_copyFrom_34 ?_
  refine s_putI C (fpX1_51_18 _) g0 dX1_copyFrom_37 ?_
  refine g_nmM (fun μ5 => ?_)
  refine s_aload_n C dX1_copyFrom_40 rfl 0 rfl ?_
  refine s_aload_n C dX1_copyFrom_41 rfl 1 rfl ?_
  refine s_getI C (fgX1_54_18 _) g1 dX1_copyFrom_42 ?_
  refine s_putI C (fpX1_54_18 _) g0 dX1_copyFrom_45 ?_
  refine g_nmM (fun μ6 => ?_)
  refine s_aload_n C dX1_copyFrom_48 rfl 0 rfl ?_
  refine s_aload_n C dX1_copyFrom_49 rfl 1 rfl ?_
  refine s_getI C (fgX1_57_18 _) g1 dX1_copyFrom_50 ?_
  refine s_putI C (fpX1_57_18 _) g0 dX1_copyFrom_53 ?_
  refine g_nmM (fun μ7 => ?_)
  refine s_aload_n C dX1_copyFrom_56 rfl 0 rfl ?_
  refine s_aload_n C dX1_copyFrom_57 rfl 1 rfl ?_
  refine s_getI C (fgX1_60_18 _) g1 dX1_copyFrom_58 ?_
  refine s_putI C (fpX1_60_18 _) g0 dX1_copyFrom_61 ?_
  refine g_nmM (fun μ8 => ?_)
  refine s_aload_n C dX1_copyFrom_64 rfl 0 rfl ?_
  refine s_aload_n C dX1_copyFrom_65 rfl 1 rfl ?_
  refine s_getI C (fgX1_63_18 _) g1 dX1_copyFrom_66 ?_
  refine s_putI C (fpX1_63_18 _) g0 dX1_copyFrom_69 ?_
  refine g_nmM (fun μ9 => ?_)
  refine s_aload_n C dX1_copyFrom_72 rfl 0 rfl ?_
  refine s_aload_n C dX1_copyFrom_73 rfl 1 rfl ?_
  refine s_getI C (fgX1_69_18 _) g1 dX1_copyFrom_74 ?_
  refine s_putI C (fpX1_69_18 _) g0 dX1_copyFrom_77 ?_
  refine g_nmM (fun μ10 => ?_)
  refine s_aload_n C dX1_copyFrom_80 rfl 0 rfl ?_
  refine s_aload_n C dX1_copyFrom_81 rfl 1 rfl ?_
  refine s_getI C (fgX1_29_18 _) g1 dX1_copyFrom_82 ?_
  refine s_putZ C (fpX1_29_18 _) g0 dX1_copyFrom_85 ?_
  refine g_nmM (fun μ11 => ?_)
  refine s_aload_n C dX1_copyFrom_88 rfl 0 rfl ?_
  refine s_getF C (fgX1_12_18 _) g0 dX1_copyFrom_89 ?_
  have b12 : 2 * n0 < 104 := by omega
  refine s_aload_n C dX1_copyFrom_92 rfl 1 rfl ?_
  refine s_getF C (fgX1_12_18 _) g1 dX1_copyFrom_93 ?_
  have b13 : 2 * n1 < 104 := by omega
  refine s_callV C R0 (kX7_copyFrom (xl X) (2 * n0) b12 (2 * n1) b13) (Nat.le_trans (by decide) V) mmX7_copyFrom miX7_copyFrom q881 (rc19 _) b12 rfl rfl rfl (Nat.le_of_ble_eq_true rfl) ⟨Nat.le_of_ble_eq_true rfl, Nat.le_of_ble_eq_true rfl, Nat.le_of_ble_eq_true rfl, Nat.le_of_ble_eq_true rfl⟩ dX1_copyFrom_96 (fun _ μ14 => ?_)
  refine g_st (st' := []) rfl ?_
  refine s_aload_n C dX1_copyFrom_99 rfl 0 rfl ?_
  refine s_getF C (fgX1_18_18 _) g0 dX1_copyFrom_100 ?_
  have b15 : 2 * n0 + 1 < 104 := by omega
  refine s_aload_n C dX1_copyFrom_103 rfl 1 rfl ?_
  refine s_getF C (fgX1_18_18 _) g1 dX1_copyFrom_104 ?_
  have b16 : 2 * n1 + 1 < 104 := by omega
  refine s_callV C R0 (kX7_copyFrom (xl X) (2 * n0 + 1) b15 (2 * n1 + 1) b16) (Nat.le_trans (by decide) V) mmX7_copyFrom miX7_copyFrom q881 (rc19 _) b15 rfl rfl rfl (Nat.le_of_ble_eq_true rfl) ⟨Nat.le_of_ble_eq_true rfl, Nat.le_of_ble_eq_true rfl, Nat.le_of_ble_eq_true rfl, Nat.le_of_ble_eq_true rfl⟩ dX1_copyFrom_107 (fun _ μ17 => ?_)
  refine g_st (st' := []) rfl ?_
  refine s_aload_n C dX1_copyFrom_110 rfl 1 rfl ?_
  refine s_getF C (fgX1_21_18 _) g1 dX1_copyFrom_111 ?_
  refine s_iconst (v := (0 : Int32)) C dX1_copyFrom_114 (by decide) ?_
  refine s_aload_n C dX1_copyFrom_115 rfl 0 rfl ?_
  refine s_getF C (fgX1_21_18 _) g0 dX1_copyFrom_116 ?_
  refine s_iconst (v := (0 : Int32)) C dX1_copyFrom_119 (by decide) ?_
  refine s_bipush (v := (6 : Int32)) C dX1_copyFrom_120 (by decide) ?_
  refine s_acopy C R0 q886 q876 q875 q182 (ag21 _) (ag21 _) g1 g0 ⟨Nat.le_of_ble_eq_true rfl, by decide⟩ dX1_copyFrom_122 ?_
  refine g_nmM (fun μ18 => ?_)
  exact s_vret C E dX1_copyFrom_125
/-! PinEngines$Engine.pushIsr()V -/
def fX1_pushIsr (n0 : Nat) (μ : Mem) : Option (Unit × Mem) :=
  bnd (fX7_append (2 * n0 + 1) (μ.1 18 n0 3) μ) fun _ μ2 =>
  ckI (3 : Int32) (6) <|
  ckI (3 : Int32) (6) <|
  nm (wI μ2 21 n0 (3 : Int32).toNatClampNeg ((μ2.1 21 n0 (3 : Int32).toNatClampNeg) + (1 : Int32))) fun μ3 =>
  bnd (fX1_setIsr n0 (0 : Int32) (0 : Int32) μ3) fun _ μ4 =>
  some ((), μ4)
set_option maxHeartbeats 4000000 in
set_option maxRecDepth 100000 in
theorem kX1_pushIsr (l : Launch) (n0 : Nat) (g0 : n0 < 52) : Kon 0 l yX1_pushIsr cX1_pushIsr 1 (none) 2 41 0 0 (fun ad => [.ref (ad 18 n0)]) rvV (fun μ => fX1_pushIsr n0 μ) := by
  refine kon_of (by decide) (fun _ => Nat.le_of_ble_eq_true rfl) (fun X r0 μ hXl hXn V C E => ?_)
  have hN : ∀ i : Nat, i < 1 → i < xn X := fun i h => hXn.symm ▸ h
  have R0 := fen_rm E
  show G X r0 0 0 μ 0 [(0, .ref (xa X 18 n0))] [] (fX1_pushIsr n0 μ)
  unfold fX1_pushIsr
  refine s_aload_n C dX1_pushIsr_0 rfl 0 rfl ?_
  refine s_getF C (fgX1_18_18 _) g0 dX1_pushIsr_1 ?_
  have b1 : 2 * n0 + 1 < 104 := by omega
  refine s_aload_n C dX1_pushIsr_4 rfl 0 rfl ?_
  refine s_getI C (fgX1_48_18 _) g0 dX1_pushIsr_5 ?_
  refine s_callV C R0 (kX7_append (xl X) (2 * n0 + 1) b1 (μ.1 18 n0 3)) (Nat.le_trans (by decide) V) mmX7_append miX7_append q1571 (rc19 _) b1 rfl rfl rfl (Nat.le_of_ble_eq_true rfl) ⟨Nat.le_of_ble_eq_true rfl, Nat.le_of_ble_eq_true rfl, Nat.le_of_ble_eq_true rfl, Nat.le_of_ble_eq_true rfl⟩ dX1_pushIsr_8 (fun _ μ2 => ?_)
  refine g_st (st' := []) rfl ?_
  refine s_aload_n C dX1_pushIsr_11 rfl 0 rfl ?_
  refine s_getF C (fgX1_21_18 _) g0 dX1_pushIsr_12 ?_
  refine s_iconst (v := (3 : Int32)) C dX1_pushIsr_15 (by decide) ?_
  refine s_dup2 C dX1_pushIsr_16 rfl rfl ?_
  refine s_iald C (ag21 _) g0 dX1_pushIsr_17 ?_
  refine s_iconst (v := (1 : Int32)) C dX1_pushIsr_18 (by decide) ?_
  refine s_iadd C dX1_pushIsr_19 ?_
  refine s_iast C (ag21 _) g0 dX1_pushIsr_20 ?_
  refine g_nmM (fun μ3 => ?_)
  refine s_aload_n C dX1_pushIsr_21 rfl 0 rfl ?_
  refine s_iconst (v := (0 : Int32)) C dX1_pushIsr_22 (by decide) ?_
  refine s_iconst (v := (0 : Int32)) C dX1_pushIsr_23 (by decide) ?_
  refine s_callV C R0 (kX1_setIsr (xl X) n0 g0 (0 : Int32) (0 : Int32)) (Nat.le_trans (by decide) V) mmX1_setIsr miX1_setIsr q1572 (rc18 _) g0 rfl rfl rfl (Nat.le_of_ble_eq_true rfl) ⟨Nat.le_of_ble_eq_true rfl, Nat.le_of_ble_eq_true rfl, Nat.le_of_ble_eq_true rfl, Nat.le_of_ble_eq_true rfl⟩ dX1_pushIsr_24 (fun _ μ4 => ?_)
  refine g_st (st' := []) rfl ?_
  exact s_vret C E dX1_pushIsr_27
/-! PinEngines$Engine.pullOsr()V -/
def fX1_pullOsr (n0 : Nat) (μ : Mem) : Option (Unit × Mem) :=
  bnd (fX7_removeFirst (2 * n0) μ) fun x3 μ2 =>
  bnd (fX1_setOsr n0 x3 μ2) fun _ μ4 =>
  ckI (4 : Int32) (6) <|
  ckI (4 : Int32) (6) <|
  nm (wI μ4 21 n0 (4 : Int32).toNatClampNeg ((μ4.1 21 n0 (4 : Int32).toNatClampNeg) + (1 : Int32))) fun μ5 =>
  some ((), μ5)
set_option maxHeartbeats 4000000 in
set_option maxRecDepth 100000 in
theorem kX1_pullOsr (l : Launch) (n0 : Nat) (g0 : n0 < 52) : Kon 0 l yX1_pullOsr cX1_pullOsr 1 (none) 1 21 0 0 (fun ad => [.ref (ad 18 n0)]) rvV (fun μ => fX1_pullOsr n0 μ) := by
  refine kon_of (by decide) (fun _ => Nat.le_of_ble_eq_true rfl) (fun X r0 μ hXl hXn V C E => ?_)
  have hN : ∀ i : Nat, i < 1 → i < xn X := fun i h => hXn.symm ▸ h
  have R0 := fen_rm E
  show G X r0 0 0 μ 0 [(0, .ref (xa X 18 n0))] [] (fX1_pullOsr n0 μ)
  unfold fX1_pullOsr
  refine s_aload_n C dX1_pullOsr_0 rfl 0 rfl ?_
  refine s_aload_n C dX1_pullOsr_1 rfl 0 rfl ?_
  refine s_getF C (fgX1_12_18 _) g0 dX1_pullOsr_2 ?_
  have b1 : 2 * n0 < 104 := by omega
  refine s_callV C R0 (kX7_removeFirst (xl X) (2 * n0) b1) (Nat.le_trans (by decide) V) mmX7_removeFirst miX7_removeFirst q1581 (rc19 _) b1 rfl rfl rfl (Nat.le_of_ble_eq_true rfl) ⟨Nat.le_of_ble_eq_true rfl, Nat.le_of_ble_eq_true rfl, Nat.le_of_ble_eq_true rfl, Nat.le_of_ble_eq_true rfl⟩ dX1_pullOsr_5 (fun x3 μ2 => ?_)
  refine g_st (st' := [.int x3, .ref (xa X 18 n0)]) rfl ?_
  refine s_callV C R0 (kX1_setOsr (xl X) n0 g0 x3) (Nat.le_trans (by decide) V) mmX1_setOsr miX1_setOsr q1582 (rc18 _) g0 rfl rfl rfl (Nat.le_of_ble_eq_true rfl) ⟨Nat.le_of_ble_eq_true rfl, Nat.le_of_ble_eq_true rfl, Nat.le_of_ble_eq_true rfl, Nat.le_of_ble_eq_true rfl⟩ dX1_pullOsr_8 (fun _ μ4 => ?_)
  refine g_st (st' := []) rfl ?_
  refine s_aload_n C dX1_pullOsr_11 rfl 0 rfl ?_
  refine s_getF C (fgX1_21_18 _) g0 dX1_pullOsr_12 ?_
  refine s_iconst (v := (4 : Int32)) C dX1_pullOsr_15 (by decide) ?_
  refine s_dup2 C dX1_pullOsr_16 rfl rfl ?_
  refine s_iald C (ag21 _) g0 dX1_pullOsr_17 ?_
  refine s_iconst (v := (1 : Int32)) C dX1_pullOsr_18 (by decide) ?_
  refine s_iadd C dX1_pullOsr_19 ?_
  refine s_iast C (ag21 _) g0 dX1_pullOsr_20 ?_
  refine g_nmM (fun μ5 => ?_)
  exact s_vret C E dX1_pullOsr_21
/-! PinEngines$Machine.copyFrom(LPinEngines$Machine;)V -/
def fX3_copyFrom (fu : Nat) (n0 : Nat) (n1 : Nat) (μ : Mem) : Option (Unit × Mem) :=
  jn (lp (fun _ _ => none) fu (fun j65 (μ1 : Mem) (x2 : Int32) =>
    if (4 : Int32) ≤ x2 then (
      nm (wI μ1 12 n0 8 (μ1.1 12 n1 8)) fun μ4 =>
      ckC (0 : Int32) (0 : Int32) (32 : Int32) (32) (32) <|
      nm (wC μ4 15 n1 (0 : Int32) 15 n0 (0 : Int32) (32 : Int32)) fun μ5 =>
      nm (wI μ5 12 n0 10 (μ5.1 12 n1 10)) fun μ6 =>
      ckC (0 : Int32) (0 : Int32) (64 : Int32) (64) (64) <|
      nm (wC μ6 16 n1 (0 : Int32) 16 n0 (0 : Int32) (64 : Int32)) fun μ7 =>
      ckC (0 : Int32) (0 : Int32) (16 : Int32) (16) (16) <|
      nm (wC μ7 17 (2 * n1) (0 : Int32) 17 (2 * n0) (0 : Int32) (16 : Int32)) fun μ10 =>
      ckC (0 : Int32) (0 : Int32) (16 : Int32) (16) (16) <|
      nm (wC μ10 17 (2 * n1 + 1) (0 : Int32) 17 (2 * n0 + 1) (0 : Int32) (16 : Int32)) fun μ13 =>
      some ((), μ13)
    ) else (
      ckI x2 (4) <|
      ckI x2 (4) <|
      bnd (fX1_copyFrom (4 * n0 + x2.toNatClampNeg) (4 * n1 + x2.toNatClampNeg) μ1) fun _ μ18 =>
      nm (x2 + (1 : Int32)) fun x19 =>
      j65 μ18 x19
    )
  )) fun j65 =>
  nm (wI μ 12 n0 0 (μ.1 12 n1 0)) fun μ20 =>
  nm (wI μ20 12 n0 1 (μ20.1 12 n1 1)) fun μ21 =>
  nm (wI μ21 12 n0 2 (μ21.1 12 n1 2)) fun μ22 =>
  nm (wI μ22 12 n0 3 (μ22.1 12 n1 3)) fun μ23 =>
  nm (wI μ23 12 n0 4 (μ23.1 12 n1 4)) fun μ24 =>
  nm (wI μ24 12 n0 5 (μ24.1 12 n1 5)) fun μ25 =>
  ckC (0 : Int32) (0 : Int32) (16 : Int32) (16) (16) <|
  nm (wC μ25 13 n1 (0 : Int32) 13 n0 (0 : Int32) (16 : Int32)) fun μ26 =>
  j65 μ26 (0 : Int32)
set_option maxHeartbeats 4000000 in
set_option maxRecDepth 100000 in
theorem kX3_copyFrom (l : Launch) (fu : Nat) (n0 : Nat) (g0 : n0 < 13) (n1 : Nat) (g1 : n1 < 13) : Kon 0 l yX3_copyFrom cX3_copyFrom 3 (none) 3 82 0 0 (fun ad => [.ref (ad 12 n0), .ref (ad 12 n1)]) rvV (fun μ => fX3_copyFrom fu n0 n1 μ) := by
  refine kon_of (by decide) (fun _ => Nat.le_of_ble_eq_true rfl) (fun X r0 μ hXl hXn V C E => ?_)
  have hN : ∀ i : Nat, i < 3 → i < xn X := fun i h => hXn.symm ▸ h
  have R0 := fen_rm E
  show G X r0 0 0 μ 0 [(0, .ref (xa X 12 n0)), (1, .ref (xa X 12 n1))] [] (fX3_copyFrom fu n0 n1 μ)
  unfold fX3_copyFrom
  refine g_jl (P := fun j65 => ∀ (μ1 : Mem) (x2 : Int32), G X r0 0 0 μ1 65 [(0, .ref (xa X 12 n0)), (1, .ref (xa X 12 n1)), (2, .int x2)] [] (j65 μ1 x2)) (fun _ _ => g_none) (fun j65 hj65 => ?_) (fun j65 hj65 => ?_)
  · intro μ1 x2
    refine s_iload_n C dX3_copyFrom_65 rfl 2 rfl ?_
    refine s_iconst (v := (4 : Int32)) C dX3_copyFrom_66 (by decide) ?_
    refine s_icmp_ge (tgt := 91) C dX3_copyFrom_67 (by decide) (fun c3 => ?_) (fun c3 => ?_)
    ·
      refine s_aload_n C dX3_copyFrom_91 rfl 0 rfl ?_
      refine s_aload_n C dX3_copyFrom_92 rfl 1 rfl ?_
      refine s_getI C (fgX3_64_12 _) g1 dX3_copyFrom_93 ?_
      refine s_putI C (fpX3_64_12 _) g0 dX3_copyFrom_96 ?_
      refine g_nmM (fun μ4 => ?_)
      refine s_aload_n C dX3_copyFrom_99 rfl 1 rfl ?_
      refine s_getF C (fgX3_21_12 _) g1 dX3_copyFrom_100 ?_
      refine s_iconst (v := (0 : Int32)) C dX3_copyFrom_103 (by decide) ?_
      refine s_aload_n C dX3_copyFrom_104 rfl 0 rfl ?_
      refine s_getF C (fgX3_21_12 _) g0 dX3_copyFrom_105 ?_
      refine s_iconst (v := (0 : Int32)) C dX3_copyFrom_108 (by decide) ?_
      refine s_bipush (v := (32 : Int32)) C dX3_copyFrom_109 (by decide) ?_
      refine s_acopy C R0 q874 q876 q875 q182 (ag15 _) (ag15 _) g1 g0 ⟨Nat.le_of_ble_eq_true rfl, by decide⟩ dX3_copyFrom_111 ?_
      refine g_nmM (fun μ5 => ?_)
      refine s_aload_n C dX3_copyFrom_114 rfl 0 rfl ?_
      refine s_aload_n C dX3_copyFrom_115 rfl 1 rfl ?_
      refine s_getI C (fgX3_71_12 _) g1 dX3_copyFrom_116 ?_
      refine s_putI C (fpX3_71_12 _) g0 dX3_copyFrom_119 ?_
      refine g_nmM (fun μ6 => ?_)
      refine s_aload_n C dX3_copyFrom_122 rfl 1 rfl ?_
      refine s_getF C (fgX3_24_12 _) g1 dX3_copyFrom_123 ?_
      refine s_iconst (v := (0 : Int32)) C dX3_copyFrom_126 (by decide) ?_
      refine s_aload_n C dX3_copyFrom_127 rfl 0 rfl ?_
      refine s_getF C (fgX3_24_12 _) g0 dX3_copyFrom_128 ?_
      refine s_iconst (v := (0 : Int32)) C dX3_copyFrom_131 (by decide) ?_
      refine s_bipush (v := (64 : Int32)) C dX3_copyFrom_132 (by decide) ?_
      refine s_acopy C R0 q874 q876 q875 q182 (ag16 _) (ag16 _) g1 g0 ⟨Nat.le_of_ble_eq_true rfl, by decide⟩ dX3_copyFrom_134 ?_
      refine g_nmM (fun μ7 => ?_)
      refine s_aload_n C dX3_copyFrom_137 rfl 1 rfl ?_
      refine s_getF C (fgX3_27_12 _) g1 dX3_copyFrom_138 ?_
      have b8 : 2 * n1 < 26 := by omega
      refine s_iconst (v := (0 : Int32)) C dX3_copyFrom_141 (by decide) ?_
      refine s_aload_n C dX3_copyFrom_142 rfl 0 rfl ?_
      refine s_getF C (fgX3_27_12 _) g0 dX3_copyFrom_143 ?_
      have b9 : 2 * n0 < 26 := by omega
      refine s_iconst (v := (0 : Int32)) C dX3_copyFrom_146 (by decide) ?_
      refine s_bipush (v := (16 : Int32)) C dX3_copyFrom_147 (by decide) ?_
      refine s_acopy C R0 q874 q876 q875 q182 (ag17 _) (ag17 _) b8 b9 ⟨Nat.le_of_ble_eq_true rfl, by decide⟩ dX3_copyFrom_149 ?_
      refine g_nmM (fun μ10 => ?_)
      refine s_aload_n C dX3_copyFrom_152 rfl 1 rfl ?_
      refine s_getF C (fgX3_30_12 _) g1 dX3_copyFrom_153 ?_
      have b11 : 2 * n1 + 1 < 26 := by omega
      refine s_iconst (v := (0 : Int32)) C dX3_copyFrom_156 (by decide) ?_
      refine s_aload_n C dX3_copyFrom_157 rfl 0 rfl ?_
      refine s_getF C (fgX3_30_12 _) g0 dX3_copyFrom_158 ?_
      have b12 : 2 * n0 + 1 < 26 := by omega
      refine s_iconst (v := (0 : Int32)) C dX3_copyFrom_161 (by decide) ?_
      refine s_bipush (v := (16 : Int32)) C dX3_copyFrom_162 (by decide) ?_
      refine s_acopy C R0 q874 q876 q875 q182 (ag17 _) (ag17 _) b11 b12 ⟨Nat.le_of_ble_eq_true rfl, by decide⟩ dX3_copyFrom_164 ?_
      refine g_nmM (fun μ13 => ?_)
      exact s_vret C E dX3_copyFrom_167
    ·
      refine s_aload_n C dX3_copyFrom_70 rfl 0 rfl ?_
      refine s_getF C (fgX3_17_12 _) g0 dX3_copyFrom_71 ?_
      refine s_iload_n C dX3_copyFrom_74 rfl 2 rfl ?_
      refine s_aaldF C (ag14 _) (fun _ => rfl) g0 dX3_copyFrom_75 (fun c14 => ?_)
      have b15 : 4 * n0 + x2.toNatClampNeg < 52 := by have := c14; omega
      refine s_aload_n C dX3_copyFrom_76 rfl 1 rfl ?_
      refine s_getF C (fgX3_17_12 _) g1 dX3_copyFrom_77 ?_
      refine s_iload_n C dX3_copyFrom_80 rfl 2 rfl ?_
      refine s_aaldF C (ag14 _) (fun _ => rfl) g1 dX3_copyFrom_81 (fun c16 => ?_)
      have b17 : 4 * n1 + x2.toNatClampNeg < 52 := by have := c16; omega
      refine s_callV C R0 (kX1_copyFrom (xl X) (4 * n0 + x2.toNatClampNeg) b15 (4 * n1 + x2.toNatClampNeg) b17) (Nat.le_trans (by decide) V) mmX1_copyFrom miX1_copyFrom q877 (rc18 _) b15 rfl rfl rfl (Nat.le_of_ble_eq_true rfl) ⟨Nat.le_of_ble_eq_true rfl, Nat.le_of_ble_eq_true rfl, Nat.le_of_ble_eq_true rfl, Nat.le_of_ble_eq_true rfl⟩ dX3_copyFrom_82 (fun _ μ18 => ?_)
      refine g_st (st' := []) rfl ?_
      refine g_nmQ (fun x19 ex19 => ?_)
      refine s_iinc (v := x19) (j := 2) (L' := [(2, .int x19), (0, .ref (xa X 12 n0)), (1, .ref (xa X 12 n1))]) C dX3_copyFrom_85 rfl (by rw [ex19]; rfl) (hN 2 (by decide)) rfl ?_
      refine s_goto (tgt := 65) C dX3_copyFrom_88 (by decide) ?_
      exact g_sub [1, 2, 0] rfl (hj65 μ18 x19)
  refine s_aload_n C dX3_copyFrom_0 rfl 0 rfl ?_
  refine s_aload_n C dX3_copyFrom_1 rfl 1 rfl ?_
  refine s_getI C (fgX3_34_12 _) g1 dX3_copyFrom_2 ?_
  refine s_putI C (fpX3_34_12 _) g0 dX3_copyFrom_5 ?_
  refine g_nmM (fun μ20 => ?_)
  refine s_aload_n C dX3_copyFrom_8 rfl 0 rfl ?_
  refine s_aload_n C dX3_copyFrom_9 rfl 1 rfl ?_
  refine s_getI C (fgX3_38_12 _) g1 dX3_copyFrom_10 ?_
  refine s_putI C (fpX3_38_12 _) g0 dX3_copyFrom_13 ?_
  refine g_nmM (fun μ21 => ?_)
  refine s_aload_n C dX3_copyFrom_16 rfl 0 rfl ?_
  refine s_aload_n C dX3_copyFrom_17 rfl 1 rfl ?_
  refine s_getI C (fgX3_41_12 _) g1 dX3_copyFrom_18 ?_
  refine s_putI C (fpX3_41_12 _) g0 dX3_copyFrom_21 ?_
  refine g_nmM (fun μ22 => ?_)
  refine s_aload_n C dX3_copyFrom_24 rfl 0 rfl ?_
  refine s_aload_n C dX3_copyFrom_25 rfl 1 rfl ?_
  refine s_getI C (fgX3_49_12 _) g1 dX3_copyFrom_26 ?_
  refine s_putI C (fpX3_49_12 _) g0 dX3_copyFrom_29 ?_
  refine g_nmM (fun μ23 => ?_)
  refine s_aload_n C dX3_copyFrom_32 rfl 0 rfl ?_
  refine s_aload_n C dX3_copyFrom_33 rfl 1 rfl ?_
  refine s_getI C (fgX3_50_12 _) g1 dX3_copyFrom_34 ?_
  refine s_putI C (fpX3_50_12 _) g0 dX3_copyFrom_37 ?_
  refine g_nmM (fun μ24 => ?_)
  refine s_aload_n C dX3_copyFrom_40 rfl 0 rfl ?_
  refine s_aload_n C dX3_copyFrom_41 rfl 1 rfl ?_
  refine s_getI C (fgX3_53_12 _) g1 dX3_copyFrom_42 ?_
  refine s_putI C (fpX3_53_12 _) g0 dX3_copyFrom_45 ?_
  refine g_nmM (fun μ25 => ?_)
  refine s_aload_n C dX3_copyFrom_48 rfl 1 rfl ?_
  refine s_getF C (fgX3_9_12 _) g1 dX3_copyFrom_49 ?_
  refine s_iconst (v := (0 : Int32)) C dX3_copyFrom_52 (by decide) ?_
  refine s_aload_n C dX3_copyFrom_53 rfl 0 rfl ?_
  refine s_getF C (fgX3_9_12 _) g0 dX3_copyFrom_54 ?_
  refine s_iconst (v := (0 : Int32)) C dX3_copyFrom_57 (by decide) ?_
  refine s_bipush (v := (16 : Int32)) C dX3_copyFrom_58 (by decide) ?_
  refine s_acopy C R0 q874 q876 q875 q182 (ag13 _) (ag13 _) g1 g0 ⟨Nat.le_of_ble_eq_true rfl, by decide⟩ dX3_copyFrom_60 ?_
  refine g_nmM (fun μ26 => ?_)
  refine s_iconst (v := (0 : Int32)) C dX3_copyFrom_63 (by decide) ?_
  refine s_istore_n (L' := [(2, .int (0 : Int32)), (0, .ref (xa X 12 n0)), (1, .ref (xa X 12 n1))]) C dX3_copyFrom_64 rfl (hN 2 (by decide)) rfl ?_
  exact g_sub [1, 2, 0] rfl (hj65 μ26 (0 : Int32))
/-! PinEngines$Program.clear()V -/
def fX4_clear (fu : Nat) (n0 : Nat) (μ : Mem) : Option (Unit × Mem) :=
  jn (lp (fun _ _ => none) fu (fun j12 (μ1 : Mem) (x2 : Int32) =>
    if (4 : Int32) ≤ x2 then (
      some ((), μ1)
    ) else (
      ckI x2 (4) <|
      bnd (fX8_clear (4 * n0 + x2.toNatClampNeg) μ1) fun _ μ6 =>
      nm (x2 + (1 : Int32)) fun x7 =>
      j12 μ6 x7
    )
  )) fun j12 =>
  nm (wI μ 5 n0 0 (0 : Int32)) fun μ8 =>
  nm (wI μ8 5 n0 1 (0 : Int32)) fun μ9 =>
  j12 μ9 (0 : Int32)
set_option maxHeartbeats 4000000 in
set_option maxRecDepth 100000 in
theorem kX4_clear (l : Launch) (fu : Nat) (n0 : Nat) (g0 : n0 < 2) : Kon 0 l yX4_clear cX4_clear 2 (none) 1 20 0 0 (fun ad => [.ref (ad 5 n0)]) rvV (fun μ => fX4_clear fu n0 μ) := by
  refine kon_of (by decide) (fun _ => Nat.le_of_ble_eq_true rfl) (fun X r0 μ hXl hXn V C E => ?_)
  have hN : ∀ i : Nat, i < 2 → i < xn X := fun i h => hXn.symm ▸ h
  have R0 := fen_rm E
  show G X r0 0 0 μ 0 [(0, .ref (xa X 5 n0))] [] (fX4_clear fu n0 μ)
  unfold fX4_clear
  refine g_jl (P := fun j12 => ∀ (μ1 : Mem) (x2 : Int32), G X r0 0 0 μ1 12 [(0, .ref (xa X 5 n0)), (1, .int x2)] [] (j12 μ1 x2)) (fun _ _ => g_none) (fun j12 hj12 => ?_) (fun j12 hj12 => ?_)
  · intro μ1 x2
    refine s_iload_n C dX4_clear_12 rfl 1 rfl ?_
    refine s_iconst (v := (4 : Int32)) C dX4_clear_13 (by decide) ?_
    refine s_icmp_ge (tgt := 32) C dX4_clear_14 (by decide) (fun c3 => ?_) (fun c3 => ?_)
    ·
      exact s_vret C E dX4_clear_32
    ·
      refine s_aload_n C dX4_clear_17 rfl 0 rfl ?_
      refine s_getF C (fgX4_20_5 _) g0 dX4_clear_18 ?_
      refine s_iload_n C dX4_clear_21 rfl 1 rfl ?_
      refine s_aaldF C (ag6 _) (fun _ => rfl) g0 dX4_clear_22 (fun c4 => ?_)
      have b5 : 4 * n0 + x2.toNatClampNeg < 8 := by have := c4; omega
      refine s_callV C R0 (kX8_clear (xl X) (4 * n0 + x2.toNatClampNeg) b5) (Nat.le_trans (by decide) V) mmX8_clear miX8_clear q1043 (rc8 _) b5 rfl rfl rfl (Nat.le_of_ble_eq_true rfl) ⟨Nat.le_of_ble_eq_true rfl, Nat.le_of_ble_eq_true rfl, Nat.le_of_ble_eq_true rfl, Nat.le_of_ble_eq_true rfl⟩ dX4_clear_23 (fun _ μ6 => ?_)
      refine g_st (st' := []) rfl ?_
      refine g_nmQ (fun x7 ex7 => ?_)
      refine s_iinc (v := x7) (j := 1) (L' := [(1, .int x7), (0, .ref (xa X 5 n0))]) C dX4_clear_26 rfl (by rw [ex7]; rfl) (hN 1 (by decide)) rfl ?_
      refine s_goto (tgt := 12) C dX4_clear_29 (by decide) ?_
      exact g_sub [1, 0] rfl (hj12 μ6 x7)
  refine s_aload_n C dX4_clear_0 rfl 0 rfl ?_
  refine s_iconst (v := (0 : Int32)) C dX4_clear_1 (by decide) ?_
  refine s_putI C (fpX4_9_5 _) g0 dX4_clear_2 ?_
  refine g_nmM (fun μ8 => ?_)
  refine s_aload_n C dX4_clear_5 rfl 0 rfl ?_
  refine s_iconst (v := (0 : Int32)) C dX4_clear_6 (by decide) ?_
  refine s_putI C (fpX4_15_5 _) g0 dX4_clear_7 ?_
  refine g_nmM (fun μ9 => ?_)
  refine s_iconst (v := (0 : Int32)) C dX4_clear_10 (by decide) ?_
  refine s_istore_n (L' := [(1, .int (0 : Int32)), (0, .ref (xa X 5 n0))]) C dX4_clear_11 rfl (hN 1 (by decide)) rfl ?_
  exact g_sub [1, 0] rfl (hj12 μ9 (0 : Int32))
/-! PinEngines$ProgramReader.readShifting(LPinEngines$Setup;LPinEngines$Symbol;)V -/
def fX5_readShifting (n0 : Nat) (n1 : Nat) (n2 : Nat) (μ : Mem) : Option (Unit × Mem) :=
  jn (fun (μ1 : Mem) =>
    some ((), μ1)
  ) fun j125 =>
  ckI (syO.getD n2 0) 74 <|
  nm ((smL.getD (syO.getD n2 0).toNatClampNeg 0)) fun x2 =>
  if x2 = (34 : Int32) then (
    ckZ (1 : Int32) <|
    nm (wI μ 8 n1 13 (1 : Int32)) fun μ4 =>
    j125 μ4
  ) else (
  if x2 = (35 : Int32) then (
    ckZ (1 : Int32) <|
    nm (wI μ 8 n1 14 (1 : Int32)) fun μ6 =>
    j125 μ6
  ) else (
  if x2 = (36 : Int32) then (
    ckZ (1 : Int32) <|
    nm (wI μ 8 n1 15 (1 : Int32)) fun μ8 =>
    bnd (fX11_takeNumber 0 (1 : Int32) (32 : Int32) μ8) fun x10 μ9 =>
    nm (wI μ9 8 n1 17 x10) fun μ11 =>
    j125 μ11
  ) else (
  if x2 = (37 : Int32) then (
    ckZ (1 : Int32) <|
    nm (wI μ 8 n1 16 (1 : Int32)) fun μ13 =>
    bnd (fX11_takeNumber 0 (1 : Int32) (32 : Int32) μ13) fun x15 μ14 =>
    nm (wI μ14 8 n1 18 x15) fun μ16 =>
    j125 μ16
  ) else (
  if x2 = (38 : Int32) then (
    nm (wI μ 8 n1 19 (8 : Int32)) fun μ18 =>
    j125 μ18
  ) else (
  if x2 = (39 : Int32) then (
    nm (wI μ 8 n1 19 (0 : Int32)) fun μ20 =>
    j125 μ20
  ) else (
  j125 μ
  ))))))
set_option maxHeartbeats 4000000 in
set_option maxRecDepth 100000 in
theorem kX5_readShifting (l : Launch) (n0 : Nat) (g0 : n0 < 1) (n1 : Nat) (g1 : n1 < 8) (n2 : Nat) (g2 : n2 < 74) : Kon 0 l yX5_readShifting cX5_readShifting 3 (none) 2 47 0 0 (fun ad => [.ref (ad 10 n0), .ref (ad 8 n1), .ref (ad 50 n2)]) rvV (fun μ => fX5_readShifting n0 n1 n2 μ) := by
  refine kon_of (by decide) (fun _ => Nat.le_of_ble_eq_true rfl) (fun X r0 μ hXl hXn V C E => ?_)
  have hN : ∀ i : Nat, i < 3 → i < xn X := fun i h => hXn.symm ▸ h
  have R0 := fen_rm E
  show G X r0 0 0 μ 0 [(0, .ref (xa X 10 n0)), (1, .ref (xa X 8 n1)), (2, .ref (xa X 50 n2))] [] (fX5_readShifting n0 n1 n2 μ)
  unfold fX5_readShifting
  refine g_jn (P := fun j125 => ∀ (μ1 : Mem), G X r0 0 0 μ1 125 [] [] (j125 μ1)) ?_ (fun j125 hj125 => ?_)
  · intro μ1
    exact s_vret C E dX5_readShifting_125
  refine s_gmap C q1120 dX5_readShifting_0 ?_
  refine s_aload_n C dX5_readShifting_3 rfl 2 rfl ?_
  refine s_ordn C R0 g2 q1122 ⟨Nat.le_of_ble_eq_true rfl, Nat.le_of_ble_eq_true rfl, Nat.le_of_ble_eq_true rfl, Nat.le_of_ble_eq_true rfl⟩ (Nat.le_of_ble_eq_true rfl) dX5_readShifting_4 ?_
  refine s_mapld C dX5_readShifting_7 ?_
  refine g_nmI (fun x2 => ?_)
  refine g_cases (v := (34 : Int32)) (fun c3 => ?_) (fun c3 => ?_)
  ·
    refine s_tin (tgt := 48) C dX5_readShifting_8 c3 (by decide) (by decide) rfl (by decide) ?_
    refine s_aload_n C dX5_readShifting_48 rfl 1 rfl ?_
    refine s_iconst (v := (1 : Int32)) C dX5_readShifting_49 (by decide) ?_
    refine s_putZ C (fpX5_186_8 _) g1 dX5_readShifting_50 ?_
    refine g_nmM (fun μ4 => ?_)
    refine s_goto (tgt := 125) C dX5_readShifting_53 (by decide) ?_
    exact g_sub [] rfl (hj125 μ4)
  ·
    refine g_cases (v := (35 : Int32)) (fun c5 => ?_) (fun c5 => ?_)
    ·
      refine s_tin (tgt := 56) C dX5_readShifting_8 c5 (by decide) (by decide) rfl (by decide) ?_
      refine s_aload_n C dX5_readShifting_56 rfl 1 rfl ?_
      refine s_iconst (v := (1 : Int32)) C dX5_readShifting_57 (by decide) ?_
      refine s_putZ C (fpX5_189_8 _) g1 dX5_readShifting_58 ?_
      refine g_nmM (fun μ6 => ?_)
      refine s_goto (tgt := 125) C dX5_readShifting_61 (by decide) ?_
      exact g_sub [] rfl (hj125 μ6)
    ·
      refine g_cases (v := (36 : Int32)) (fun c7 => ?_) (fun c7 => ?_)
      ·
        refine s_tin (tgt := 64) C dX5_readShifting_8 c7 (by decide) (by decide) rfl (by decide) ?_
        refine s_aload_n C dX5_readShifting_64 rfl 1 rfl ?_
        refine s_iconst (v := (1 : Int32)) C dX5_readShifting_65 (by decide) ?_
        refine s_putZ C (fpX5_192_8 _) g1 dX5_readShifting_66 ?_
        refine g_nmM (fun μ8 => ?_)
        refine s_aload_n C dX5_readShifting_69 rfl 1 rfl ?_
        refine s_aload_n C dX5_readShifting_70 rfl 0 rfl ?_
        refine s_getF C (fgX5_26_10 _) g0 dX5_readShifting_71 ?_
        refine s_iconst (v := (1 : Int32)) C dX5_readShifting_74 (by decide) ?_
        refine s_bipush (v := (32 : Int32)) C dX5_readShifting_75 (by decide) ?_
        refine s_callV C R0 (kX11_takeNumber (xl X) 0 (by decide) (1 : Int32) (32 : Int32)) (Nat.le_trans (by decide) V) mmX11_takeNumber miX11_takeNumber q1077 (rc2 _) (by decide) rfl rfl rfl (Nat.le_of_ble_eq_true rfl) ⟨Nat.le_of_ble_eq_true rfl, Nat.le_of_ble_eq_true rfl, Nat.le_of_ble_eq_true rfl, Nat.le_of_ble_eq_true rfl⟩ dX5_readShifting_77 (fun x10 μ9 => ?_)
        refine g_st (st' := [.int x10, .ref (xa X 8 n1)]) rfl ?_
        refine s_putI C (fpX5_195_8 _) g1 dX5_readShifting_80 ?_
        refine g_nmM (fun μ11 => ?_)
        refine s_goto (tgt := 125) C dX5_readShifting_83 (by decide) ?_
        exact g_sub [] rfl (hj125 μ11)
      ·
        refine g_cases (v := (37 : Int32)) (fun c12 => ?_) (fun c12 => ?_)
        ·
          refine s_tin (tgt := 86) C dX5_readShifting_8 c12 (by decide) (by decide) rfl (by decide) ?_
          refine s_aload_n C dX5_readShifting_86 rfl 1 rfl ?_
          refine s_iconst (v := (1 : Int32)) C dX5_readShifting_87 (by decide) ?_
          refine s_putZ C (fpX5_198_8 _) g1 dX5_readShifting_88 ?_
          refine g_nmM (fun μ13 => ?_)
          refine s_aload_n C dX5_readShifting_91 rfl 1 rfl ?_
          refine s_aload_n C dX5_readShifting_92 rfl 0 rfl ?_
          refine s_getF C (fgX5_26_10 _) g0 dX5_readShifting_93 ?_
          refine s_iconst (v := (1 : Int32)) C dX5_readShifting_96 (by decide) ?_
          refine s_bipush (v := (32 : Int32)) C dX5_readShifting_97 (by decide) ?_
          refine s_callV C R0 (kX11_takeNumber (xl X) 0 (by decide) (1 : Int32) (32 : Int32)) (Nat.le_trans (by decide) V) mmX11_takeNumber miX11_takeNumber q1077 (rc2 _) (by decide) rfl rfl rfl (Nat.le_of_ble_eq_true rfl) ⟨Nat.le_of_ble_eq_true rfl, Nat.le_of_ble_eq_true rfl, Nat.le_of_ble_eq_true rfl, Nat.le_of_ble_eq_true rfl⟩ dX5_readShifting_99 (fun x15 μ14 => ?_)
          refine g_st (st' := [.int x15, .ref (xa X 8 n1)]) rfl ?_
          refine s_putI C (fpX5_201_8 _) g1 dX5_readShifting_102 ?_
          refine g_nmM (fun μ16 => ?_)
          refine s_goto (tgt := 125) C dX5_readShifting_105 (by decide) ?_
          exact g_sub [] rfl (hj125 μ16)
        ·
          refine g_cases (v := (38 : Int32)) (fun c17 => ?_) (fun c17 => ?_)
          ·
            refine s_tin (tgt := 108) C dX5_readShifting_8 c17 (by decide) (by decide) rfl (by decide) ?_
            refine s_aload_n C dX5_readShifting_108 rfl 1 rfl ?_
            refine s_bipush (v := (8 : Int32)) C dX5_readShifting_109 (by decide) ?_
            refine s_putI C (fpX5_204_8 _) g1 dX5_readShifting_111 ?_
            refine g_nmM (fun μ18 => ?_)
            refine s_goto (tgt := 125) C dX5_readShifting_114 (by decide) ?_
            exact g_sub [] rfl (hj125 μ18)
          ·
            refine g_cases (v := (39 : Int32)) (fun c19 => ?_) (fun c19 => ?_)
            ·
              refine s_tin (tgt := 117) C dX5_readShifting_8 c19 (by decide) (by decide) rfl (by decide) ?_
              refine s_aload_n C dX5_readShifting_117 rfl 1 rfl ?_
              refine s_iconst (v := (0 : Int32)) C dX5_readShifting_118 (by decide) ?_
              refine s_putI C (fpX5_204_8 _) g1 dX5_readShifting_119 ?_
              refine g_nmM (fun μ20 => ?_)
              refine s_goto (tgt := 125) C dX5_readShifting_122 (by decide) ?_
              exact g_sub [] rfl (hj125 μ20)
            ·
              refine s_tout (tgt := 125) C dX5_readShifting_8 (by have := ine (i := 34) (by decide) c3; have := ine (i := 35) (by decide) c5; have := ine (i := 36) (by decide) c7; have := ine (i := 37) (by decide) c12; have := ine (i := 38) (by decide) c17; have := ine (i := 39) (by decide) c19; omega) (by decide) ?_
              exact g_sub [] rfl (hj125 μ)
/-! PinEngines$ProgramReader.labelAddress()I -/
def fX5_labelAddress (fu : Nat) (n0 : Nat) (μ : Mem) : Option (Int32 × Mem) :=
  jn (lp (fun _ _ => none) fu (fun j2 (μ1 : Mem) (x2 : Int32) =>
    if (μ1.1 10 n0 3) ≤ x2 then (
      some ((-1 : Int32), μ1)
    ) else (
      ckI x2 (32) <|
      bnd (fX11_isSameAs fu 0 (μ1.1 11 0 x2.toNatClampNeg) μ1) fun x5 μ4 =>
      if x5 = 0 then (
        nm (x2 + (1 : Int32)) fun x7 =>
        j2 μ4 x7
      ) else (
        ckI x2 (32) <|
        some ((μ4.1 11 1 x2.toNatClampNeg), μ4)
      )
    )
  )) fun j2 =>
  j2 μ (0 : Int32)
set_option maxHeartbeats 4000000 in
set_option maxRecDepth 100000 in
theorem kX5_labelAddress (l : Launch) (fu : Nat) (n0 : Nat) (g0 : n0 < 1) : Kon 0 l yX5_labelAddress cX5_labelAddress 2 (some .int) 1 23 0 0 (fun ad => [.ref (ad 10 n0)]) rvI (fun μ => fX5_labelAddress fu n0 μ) := by
  refine kon_of (by decide) (fun _ => Nat.le_of_ble_eq_true rfl) (fun X r0 μ hXl hXn V C E => ?_)
  have hN : ∀ i : Nat, i < 2 → i < xn X := fun i h => hXn.symm ▸ h
  have R0 := fen_rm E
  show G X r0 0 0 μ 0 [(0, .ref (xa X 10 n0))] [] (fX5_labelAddress fu n0 μ)
  unfold fX5_labelAddress
  refine g_jl (P := fun j2 => ∀ (μ1 : Mem) (x2 : Int32), G X r0 0 0 μ1 2 [(0, .ref (xa X 10 n0)), (1, .int x2)] [] (j2 μ1 x2)) (fun _ _ => g_none) (fun j2 hj2 => ?_) (fun j2 hj2 => ?_)
  · intro μ1 x2
    refine s_iload_n C dX5_labelAddress_2 rfl 1 rfl ?_
    refine s_aload_n C dX5_labelAddress_3 rfl 0 rfl ?_
    refine s_getI C (fgX5_15_10 _) g0 dX5_labelAddress_4 ?_
    refine s_icmp_ge (tgt := 39) C dX5_labelAddress_7 (by decide) (fun c3 => ?_) (fun c3 => ?_)
    ·
      refine s_iconst (v := (-1 : Int32)) C dX5_labelAddress_39 (by decide) ?_
      exact s_iret C E dX5_labelAddress_40
    ·
      refine s_aload_n C dX5_labelAddress_10 rfl 0 rfl ?_
      refine s_getF C (fgX5_26_10 _) g0 dX5_labelAddress_11 ?_
      refine s_aload_n C dX5_labelAddress_14 rfl 0 rfl ?_
      refine s_getF C (fgX5_19_10 _) g0 dX5_labelAddress_15 ?_
      refine s_iload_n C dX5_labelAddress_18 rfl 1 rfl ?_
      refine s_iald C (ag11 _) (by decide) dX5_labelAddress_19 ?_
      refine s_callV C R0 (kX11_isSameAs (xl X) fu 0 (by decide) (μ1.1 11 0 x2.toNatClampNeg)) (Nat.le_trans (by decide) V) mmX11_isSameAs miX11_isSameAs q1098 (rc2 _) (by decide) rfl rfl rfl (Nat.le_of_ble_eq_true rfl) ⟨Nat.le_of_ble_eq_true rfl, Nat.le_of_ble_eq_true rfl, Nat.le_of_ble_eq_true rfl, Nat.le_of_ble_eq_true rfl⟩ dX5_labelAddress_20 (fun x5 μ4 => ?_)
      refine g_st (st' := [.int x5]) rfl ?_
      refine s_if_eq (tgt := 33) C dX5_labelAddress_23 (by decide) (fun c6 => ?_) (fun c6 => ?_)
      ·
        refine g_nmQ (fun x7 ex7 => ?_)
        refine s_iinc (v := x7) (j := 1) (L' := [(1, .int x7), (0, .ref (xa X 10 n0))]) C dX5_labelAddress_33 rfl (by rw [ex7]; rfl) (hN 1 (by decide)) rfl ?_
        refine s_goto (tgt := 2) C dX5_labelAddress_36 (by decide) ?_
        exact g_sub [1, 0] rfl (hj2 μ4 x7)
      ·
        refine s_aload_n C dX5_labelAddress_26 rfl 0 rfl ?_
        refine s_getF C (fgX5_23_10 _) g0 dX5_labelAddress_27 ?_
        refine s_iload_n C dX5_labelAddress_30 rfl 1 rfl ?_
        refine s_iald C (ag11 _) (by decide) dX5_labelAddress_31 ?_
        exact s_iret C E dX5_labelAddress_32
  refine s_iconst (v := (0 : Int32)) C dX5_labelAddress_0 (by decide) ?_
  refine s_istore_n (L' := [(1, .int (0 : Int32)), (0, .ref (xa X 10 n0))]) C dX5_labelAddress_1 rfl (hN 1 (by decide)) rfl ?_
  exact g_sub [1, 0] rfl (hj2 μ (0 : Int32))
/-! PinEngines$ProgramReader.readWays(LPinEngines$Instruction;LPinEngines$Symbol;)V -/
def fX5_readWays (n0 : Nat) (n1 : Nat) (n2 : Nat) (μ : Mem) : Option (Unit × Mem) :=
  jn (fun (μ1 : Mem) =>
    jn (fun (μ2 : Mem) =>
      some ((), μ2)
    ) fun j36 =>
    bnd (fX11_skip 0 62 μ1) fun x4 μ3 =>
    if x4 = 0 then (
      j36 μ3
    ) else (
      nm (wR μ3 9 n1 4 62) fun μ6 =>
      j36 μ6
    )
  ) fun j16 =>
  bnd (fX11_skip 0 n2 μ) fun x8 μ7 =>
  if x8 = 0 then (
    j16 μ7
  ) else (
    nm (wR μ7 9 n1 2 n2) fun μ10 =>
    j16 μ10
  )
set_option maxHeartbeats 4000000 in
set_option maxRecDepth 100000 in
theorem kX5_readWays (l : Launch) (n0 : Nat) (g0 : n0 < 1) (n1 : Nat) (g1 : n1 < 66) (n2 : Nat) (g2 : n2 < 74) : Kon 0 l yX5_readWays cX5_readWays 3 (none) 2 42 0 0 (fun ad => [.ref (ad 10 n0), .ref (ad 9 n1), .ref (ad 50 n2)]) rvV (fun μ => fX5_readWays n0 n1 n2 μ) := by
  refine kon_of (by decide) (fun _ => Nat.le_of_ble_eq_true rfl) (fun X r0 μ hXl hXn V C E => ?_)
  have hN : ∀ i : Nat, i < 3 → i < xn X := fun i h => hXn.symm ▸ h
  have R0 := fen_rm E
  show G X r0 0 0 μ 0 [(0, .ref (xa X 10 n0)), (1, .ref (xa X 9 n1)), (2, .ref (xa X 50 n2))] [] (fX5_readWays n0 n1 n2 μ)
  unfold fX5_readWays
  refine g_jn (P := fun j16 => ∀ (μ1 : Mem), G X r0 0 0 μ1 16 [(0, .ref (xa X 10 n0)), (1, .ref (xa X 9 n1))] [] (j16 μ1)) ?_ (fun j16 hj16 => ?_)
  · intro μ1
    refine g_jn (P := fun j36 => ∀ (μ2 : Mem), G X r0 0 0 μ2 36 [] [] (j36 μ2)) ?_ (fun j36 hj36 => ?_)
    · intro μ2
      exact s_vret C E dX5_readWays_36
    refine s_aload_n C dX5_readWays_16 rfl 0 rfl ?_
    refine s_getF C (fgX5_26_10 _) g0 dX5_readWays_17 ?_
    refine s_gsym (i := 62) C (by decide) rfl q1194 dX5_readWays_20 ?_
    refine s_callV C R0 (kX11_skip (xl X) 0 (by decide) 62 (by decide)) (Nat.le_trans (by decide) V) mmX11_skip miX11_skip q1052 (rc2 _) (by decide) rfl rfl rfl (Nat.le_of_ble_eq_true rfl) ⟨Nat.le_of_ble_eq_true rfl, Nat.le_of_ble_eq_true rfl, Nat.le_of_ble_eq_true rfl, Nat.le_of_ble_eq_true rfl⟩ dX5_readWays_23 (fun x4 μ3 => ?_)
    refine g_st (st' := [.int x4]) rfl ?_
    refine s_if_eq (tgt := 36) C dX5_readWays_26 (by decide) (fun c5 => ?_) (fun c5 => ?_)
    ·
      exact g_sub [] rfl (hj36 μ3)
    ·
      refine s_aload_n C dX5_readWays_29 rfl 1 rfl ?_
      refine s_gsym (i := 62) C (by decide) rfl q1194 dX5_readWays_30 ?_
      refine s_putM C (fpX5_290_9 _) g1 dX5_readWays_33 ?_
      refine g_nmM (fun μ6 => ?_)
      exact g_sub [] rfl (hj36 μ6)
  refine s_aload_n C dX5_readWays_0 rfl 0 rfl ?_
  refine s_getF C (fgX5_26_10 _) g0 dX5_readWays_1 ?_
  refine s_aload_n C dX5_readWays_4 rfl 2 rfl ?_
  refine s_callV C R0 (kX11_skip (xl X) 0 (by decide) n2 g2) (Nat.le_trans (by decide) V) mmX11_skip miX11_skip q1052 (rc2 _) (by decide) rfl rfl rfl (Nat.le_of_ble_eq_true rfl) ⟨Nat.le_of_ble_eq_true rfl, Nat.le_of_ble_eq_true rfl, Nat.le_of_ble_eq_true rfl, Nat.le_of_ble_eq_true rfl⟩ dX5_readWays_5 (fun x8 μ7 => ?_)
  refine g_st (st' := [.int x8]) rfl ?_
  refine s_if_eq (tgt := 16) C dX5_readWays_8 (by decide) (fun c9 => ?_) (fun c9 => ?_)
  ·
    exact g_sub [0, 1] rfl (hj16 μ7)
  ·
    refine s_aload_n C dX5_readWays_11 rfl 1 rfl ?_
    refine s_aload_n C dX5_readWays_12 rfl 2 rfl ?_
    refine s_putM C (fpX5_263_9 _) g1 dX5_readWays_13 ?_
    refine g_nmM (fun μ10 => ?_)
    exact g_sub [0, 1] rfl (hj16 μ10)
/-! PinEngines$ProgramReader.readPlace(LPinEngines$Instruction;)V -/
def fX5_readPlace (n0 : Nat) (n1 : Nat) (μ : Mem) : Option (Unit × Mem) :=
  jn (fun (μ1 : Mem) =>
    some ((), μ1)
  ) fun j38 =>
  bnd (fX11_takeOptional 0 (4096 : Int32) μ) fun a3 μ2 =>
  ckB a3 74 <|
  nm (wR μ2 9 n1 4 a3) fun μ5 =>
  nm (μ5.2.1 9 n1 4) fun a6 =>
  ckB a6 74 <|
  if ¬ a6 = 0 then (
    j38 μ5
  ) else (
    bnd (fX11_takeNumber 0 (0 : Int32) (15 : Int32) μ5) fun x10 μ9 =>
    nm (wI μ9 9 n1 5 x10) fun μ11 =>
    j38 μ11
  )
set_option maxHeartbeats 4000000 in
set_option maxRecDepth 100000 in
theorem kX5_readPlace (l : Launch) (n0 : Nat) (g0 : n0 < 1) (n1 : Nat) (g1 : n1 < 66) : Kon 0 l yX5_readPlace cX5_readPlace 2 (none) 2 47 0 0 (fun ad => [.ref (ad 10 n0), .ref (ad 9 n1)]) rvV (fun μ => fX5_readPlace n0 n1 μ) := by
  refine kon_of (by decide) (fun _ => Nat.le_of_ble_eq_true rfl) (fun X r0 μ hXl hXn V C E => ?_)
  have hN : ∀ i : Nat, i < 2 → i < xn X := fun i h => hXn.symm ▸ h
  have R0 := fen_rm E
  show G X r0 0 0 μ 0 [(0, .ref (xa X 10 n0)), (1, .ref (xa X 9 n1))] [] (fX5_readPlace n0 n1 μ)
  unfold fX5_readPlace
  refine g_jn (P := fun j38 => ∀ (μ1 : Mem), G X r0 0 0 μ1 38 [] [] (j38 μ1)) ?_ (fun j38 hj38 => ?_)
  · intro μ1
    exact s_vret C E dX5_readPlace_38
  refine s_aload_n C dX5_readPlace_0 rfl 1 rfl ?_
  refine s_aload_n C dX5_readPlace_1 rfl 0 rfl ?_
  refine s_getF C (fgX5_26_10 _) g0 dX5_readPlace_2 ?_
  refine s_sipush (v := (4096 : Int32)) C dX5_readPlace_5 (by decide) ?_
  refine s_callV C R0 (kX11_takeOptional (xl X) 0 (by decide) (4096 : Int32)) (Nat.le_trans (by decide) V) mmX11_takeOptional miX11_takeOptional q1181 (rc2 _) (by decide) rfl rfl rfl (Nat.le_of_ble_eq_true rfl) ⟨Nat.le_of_ble_eq_true rfl, Nat.le_of_ble_eq_true rfl, Nat.le_of_ble_eq_true rfl, Nat.le_of_ble_eq_true rfl⟩ dX5_readPlace_8 (fun a3 μ2 => ?_)
  refine g_st (st' := [.ref (xa X 50 a3), .ref (xa X 9 n1)]) rfl ?_
  refine g_ckB (fun b4 => ?_)
  refine s_putM C (fpX5_290_9 _) g1 dX5_readPlace_11 ?_
  refine g_nmM (fun μ5 => ?_)
  refine s_aload_n C dX5_readPlace_14 rfl 1 rfl ?_
  refine s_getM C (fgX5_290_9 _) g1 dX5_readPlace_15 ?_
  refine g_nmA (fun a6 => ?_)
  refine g_ckB (fun b7 => ?_)
  refine s_gsym (i := 0) C (by decide) rfl q1202 dX5_readPlace_18 ?_
  refine s_acmp_ne (tgt := 38) C b7 (by decide) dX5_readPlace_21 (by decide) (fun c8 => ?_) (fun c8 => ?_)
  ·
    exact g_sub [] rfl (hj38 μ5)
  ·
    refine s_aload_n C dX5_readPlace_24 rfl 1 rfl ?_
    refine s_aload_n C dX5_readPlace_25 rfl 0 rfl ?_
    refine s_getF C (fgX5_26_10 _) g0 dX5_readPlace_26 ?_
    refine s_iconst (v := (0 : Int32)) C dX5_readPlace_29 (by decide) ?_
    refine s_bipush (v := (15 : Int32)) C dX5_readPlace_30 (by decide) ?_
    refine s_callV C R0 (kX11_takeNumber (xl X) 0 (by decide) (0 : Int32) (15 : Int32)) (Nat.le_trans (by decide) V) mmX11_takeNumber miX11_takeNumber q1077 (rc2 _) (by decide) rfl rfl rfl (Nat.le_of_ble_eq_true rfl) ⟨Nat.le_of_ble_eq_true rfl, Nat.le_of_ble_eq_true rfl, Nat.le_of_ble_eq_true rfl, Nat.le_of_ble_eq_true rfl⟩ dX5_readPlace_32 (fun x10 μ9 => ?_)
    refine g_st (st' := [.int x10, .ref (xa X 9 n1)]) rfl ?_
    refine s_putI C (fpX5_266_9 _) g1 dX5_readPlace_35 ?_
    refine g_nmM (fun μ11 => ?_)
    exact g_sub [] rfl (hj38 μ11)
/-! PinEngines$ProgramReader.takePin()I -/
def fX5_takePin (n0 : Nat) (μ : Mem) : Option (Int32 × Mem) :=
  bnd (fX11_takeNumber 0 (0 : Int32) (15 : Int32) μ) fun x2 μ1 =>
  some (x2, μ1)
set_option maxHeartbeats 4000000 in
set_option maxRecDepth 100000 in
theorem kX5_takePin (l : Launch) (n0 : Nat) (g0 : n0 < 1) : Kon 0 l yX5_takePin cX5_takePin 1 (some .int) 2 47 0 0 (fun ad => [.ref (ad 10 n0)]) rvI (fun μ => fX5_takePin n0 μ) := by
  refine kon_of (by decide) (fun _ => Nat.le_of_ble_eq_true rfl) (fun X r0 μ hXl hXn V C E => ?_)
  have hN : ∀ i : Nat, i < 1 → i < xn X := fun i h => hXn.symm ▸ h
  have R0 := fen_rm E
  show G X r0 0 0 μ 0 [(0, .ref (xa X 10 n0))] [] (fX5_takePin n0 μ)
  unfold fX5_takePin
  refine s_aload_n C dX5_takePin_0 rfl 0 rfl ?_
  refine s_getF C (fgX5_26_10 _) g0 dX5_takePin_1 ?_
  refine s_iconst (v := (0 : Int32)) C dX5_takePin_4 (by decide) ?_
  refine s_bipush (v := (15 : Int32)) C dX5_takePin_5 (by decide) ?_
  refine s_callV C R0 (kX11_takeNumber (xl X) 0 (by decide) (0 : Int32) (15 : Int32)) (Nat.le_trans (by decide) V) mmX11_takeNumber miX11_takeNumber q1077 (rc2 _) (by decide) rfl rfl rfl (Nat.le_of_ble_eq_true rfl) ⟨Nat.le_of_ble_eq_true rfl, Nat.le_of_ble_eq_true rfl, Nat.le_of_ble_eq_true rfl, Nat.le_of_ble_eq_true rfl⟩ dX5_takePin_7 (fun x2 μ1 => ?_)
  refine g_st (st' := [.int x2]) rfl ?_
  exact s_iret C E dX5_takePin_10
