/-! PinEnginesModel.feed(IIIII)I -/
def fX13_feed (fu : Nat) (n0 : Nat) (p1 : Int32) (p2 : Int32) (p3 : Int32) (p4 : Int32) (p5 : Int32) (μ : Mem) : Option (Int32 × Mem) :=
  nm (wI μ 26 n0 6 (0 : Int32)) fun μ1 =>
  if ((μ1.1 26 n0 21) + (20 : Int32)) ≤ (1000 : Int32) then (
    jn (lp (fun _ _ => none) fu (fun j23 (μ3 : Mem) (x4 : Int32) =>
      if (20 : Int32) ≤ x4 then (
        some ((μ3.1 26 n0 21), μ3)
      ) else (
        jn (fun (μ6 : Mem) (x7 : Int32) (x8 : Int32) =>
          ckD (4 : Int32) <|
          ckI (μ6.1 26 n0 21) (mil.getD 7 0) <|
          nm (wI μ6 28 7 (μ6.1 26 n0 21).toNatClampNeg ((x8 >>> (((24 : Int32) - ((8 : Int32) * (x7 - x7 / (4 : Int32) * (4 : Int32)))) &&& 31)) &&& (255 : Int32))) fun μ9 =>
          nm (wI μ9 26 n0 21 ((μ9.1 26 n0 21) + (1 : Int32))) fun μ10 =>
          nm (x7 + (1 : Int32)) fun x11 =>
          j23 μ10 x11
        ) fun j76 =>
        if (4 : Int32) ≤ x4 then (
          if (8 : Int32) ≤ x4 then (
            if (12 : Int32) ≤ x4 then (
              if (16 : Int32) ≤ x4 then (
                j76 μ3 x4 p5
              ) else (
                j76 μ3 x4 p4
              )
            ) else (
              j76 μ3 x4 p3
            )
          ) else (
            j76 μ3 x4 p2
          )
        ) else (
          j76 μ3 x4 p1
        )
      )
    )) fun j23 =>
    j23 μ1 (0 : Int32)
  ) else (
    some ((-1 : Int32), μ1)
  )
set_option maxHeartbeats 4000000 in
set_option maxRecDepth 100000 in
theorem kX13_feed (l : Launch) (fu : Nat) (n0 : Nat) (g0 : n0 < 1) (p1 : Int32) (p2 : Int32) (p3 : Int32) (p4 : Int32) (p5 : Int32) : Kon 1 l yX13_feed cX13_feed 8 (some .int) 0 0 0 0 (fun ad => [.ref (ad 26 n0), .int p1, .int p2, .int p3, .int p4, .int p5]) rvI (fun μ => fX13_feed fu n0 p1 p2 p3 p4 p5 μ) := by
  refine kon_of (by decide) (fun _ => Nat.le_of_ble_eq_true rfl) (fun X r0 μ hXl hXn V C E => ?_)
  have hN : ∀ i : Nat, i < 8 → i < xn X := fun i h => hXn.symm ▸ h
  have R0 := fen_rm E
  show G X r0 0 0 μ 0 [(0, .ref (xa X 26 n0)), (1, .int p1), (2, .int p2), (3, .int p3), (4, .int p4), (5, .int p5)] [] (fX13_feed fu n0 p1 p2 p3 p4 p5 μ)
  unfold fX13_feed
  refine s_aload_n C dX13_feed_0 rfl 0 rfl ?_
  refine s_iconst (v := (0 : Int32)) C dX13_feed_1 (by decide) ?_
  refine s_putI C (fpX13_231_26 (Nat.le_trans (by decide) V)) g0 dX13_feed_2 ?_
  refine g_nmM (fun μ1 => ?_)
  refine s_aload_n C dX13_feed_5 rfl 0 rfl ?_
  refine s_getI C (fgX13_466_26 (Nat.le_trans (by decide) V)) g0 dX13_feed_6 ?_
  refine s_bipush (v := (20 : Int32)) C dX13_feed_9 (by decide) ?_
  refine s_iadd C dX13_feed_11 ?_
  refine s_sipush (v := (1000 : Int32)) C dX13_feed_12 (by decide) ?_
  refine s_icmp_le (tgt := 20) C dX13_feed_15 (by decide) (fun c2 => ?_) (fun c2 => ?_)
  ·
    refine g_jl (P := fun j23 => ∀ (μ3 : Mem) (x4 : Int32), G X r0 0 0 μ3 23 [(0, .ref (xa X 26 n0)), (1, .int p1), (2, .int p2), (3, .int p3), (4, .int p4), (5, .int p5), (6, .int x4)] [] (j23 μ3 x4)) (fun _ _ => g_none) (fun j23 hj23 => ?_) (fun j23 hj23 => ?_)
    · intro μ3 x4
      refine s_iload C dX13_feed_23 6 rfl ?_
      refine s_bipush (v := (20 : Int32)) C dX13_feed_25 (by decide) ?_
      refine s_icmp_ge (tgt := 120) C dX13_feed_27 (by decide) (fun c5 => ?_) (fun c5 => ?_)
      ·
        refine s_aload_n C dX13_feed_120 rfl 0 rfl ?_
        refine s_getI C (fgX13_466_26 (Nat.le_trans (by decide) V)) g0 dX13_feed_121 ?_
        exact s_iret C E dX13_feed_124
      ·
        refine g_jn (P := fun j76 => ∀ (μ6 : Mem) (x7 : Int32) (x8 : Int32), G X r0 0 0 μ6 76 [(0, .ref (xa X 26 n0)), (1, .int p1), (2, .int p2), (3, .int p3), (4, .int p4), (5, .int p5), (6, .int x7)] [.int x8] (j76 μ6 x7 x8)) ?_ (fun j76 hj76 => ?_)
        · intro μ6 x7 x8
          refine s_istore (L' := [(7, .int x8), (0, .ref (xa X 26 n0)), (1, .int p1), (2, .int p2), (3, .int p3), (4, .int p4), (5, .int p5), (6, .int x7)]) C dX13_feed_76 (hN 7 (by decide)) rfl ?_
          refine s_aload_n C dX13_feed_78 rfl 1 rfl ?_
          refine s_getF C (fgX13_50_26 (Nat.le_trans (by decide) V)) g0 dX13_feed_79 ?_
          refine s_aload_n C dX13_feed_82 rfl 1 rfl ?_
          refine s_getI C (fgX13_466_26 (Nat.le_trans (by decide) V)) g0 dX13_feed_83 ?_
          refine s_iload C dX13_feed_86 0 rfl ?_
          refine s_bipush (v := (24 : Int32)) C dX13_feed_88 (by decide) ?_
          refine s_bipush (v := (8 : Int32)) C dX13_feed_90 (by decide) ?_
          refine s_iload C dX13_feed_92 7 rfl ?_
          refine s_iconst (v := (4 : Int32)) C dX13_feed_94 (by decide) ?_
          refine s_irem C dX13_feed_95 ?_
          refine s_imul C dX13_feed_96 ?_
          refine s_isub C dX13_feed_97 ?_
          refine s_ishr C dX13_feed_98 ?_
          refine s_sipush (v := (255 : Int32)) C dX13_feed_99 (by decide) ?_
          refine s_iand C dX13_feed_102 ?_
          refine s_iast C (ag28 (Nat.le_trans (by decide) V)) (by decide) dX13_feed_103 ?_
          refine g_nmM (fun μ9 => ?_)
          refine s_aload_n C dX13_feed_104 rfl 1 rfl ?_
          refine s_dup C dX13_feed_105 rfl ?_
          refine s_getI C (fgX13_466_26 (Nat.le_trans (by decide) V)) g0 dX13_feed_106 ?_
          refine s_iconst (v := (1 : Int32)) C dX13_feed_109 (by decide) ?_
          refine s_iadd C dX13_feed_110 ?_
          refine s_putI C (fpX13_466_26 (Nat.le_trans (by decide) V)) g0 dX13_feed_111 ?_
          refine g_nmM (fun μ10 => ?_)
          refine g_nmQ (fun x11 ex11 => ?_)
          refine s_iinc (v := x11) (j := 7) (L' := [(6, .int x11), (7, .int x8), (0, .ref (xa X 26 n0)), (1, .int p1), (2, .int p2), (3, .int p3), (4, .int p4), (5, .int p5)]) C dX13_feed_114 rfl (by rw [ex11]; rfl) (hN 6 (by decide)) rfl ?_
          refine s_goto (tgt := 23) C dX13_feed_117 (by decide) ?_
          exact g_sub [2, 3, 4, 5, 6, 7, 0] rfl (hj23 μ10 x11)
        refine s_iload C dX13_feed_30 6 rfl ?_
        refine s_iconst (v := (4 : Int32)) C dX13_feed_32 (by decide) ?_
        refine s_icmp_ge (tgt := 40) C dX13_feed_33 (by decide) (fun c12 => ?_) (fun c12 => ?_)
        ·
          refine s_iload C dX13_feed_40 6 rfl ?_
          refine s_bipush (v := (8 : Int32)) C dX13_feed_42 (by decide) ?_
          refine s_icmp_ge (tgt := 51) C dX13_feed_44 (by decide) (fun c13 => ?_) (fun c13 => ?_)
          ·
            refine s_iload C dX13_feed_51 6 rfl ?_
            refine s_bipush (v := (12 : Int32)) C dX13_feed_53 (by decide) ?_
            refine s_icmp_ge (tgt := 62) C dX13_feed_55 (by decide) (fun c14 => ?_) (fun c14 => ?_)
            ·
              refine s_iload C dX13_feed_62 6 rfl ?_
              refine s_bipush (v := (16 : Int32)) C dX13_feed_64 (by decide) ?_
              refine s_icmp_ge (tgt := 74) C dX13_feed_66 (by decide) (fun c15 => ?_) (fun c15 => ?_)
              ·
                refine s_iload C dX13_feed_74 5 rfl ?_
                exact g_sub [0, 1, 2, 3, 4, 5, 6] rfl (hj76 μ3 x4 p5)
              ·
                refine s_iload C dX13_feed_69 4 rfl ?_
                refine s_goto (tgt := 76) C dX13_feed_71 (by decide) ?_
                exact g_sub [0, 1, 2, 3, 4, 5, 6] rfl (hj76 μ3 x4 p4)
            ·
              refine s_iload_n C dX13_feed_58 rfl 3 rfl ?_
              refine s_goto (tgt := 76) C dX13_feed_59 (by decide) ?_
              exact g_sub [0, 1, 2, 3, 4, 5, 6] rfl (hj76 μ3 x4 p3)
          ·
            refine s_iload_n C dX13_feed_47 rfl 2 rfl ?_
            refine s_goto (tgt := 76) C dX13_feed_48 (by decide) ?_
            exact g_sub [0, 1, 2, 3, 4, 5, 6] rfl (hj76 μ3 x4 p2)
        ·
          refine s_iload_n C dX13_feed_36 rfl 1 rfl ?_
          refine s_goto (tgt := 76) C dX13_feed_37 (by decide) ?_
          exact g_sub [0, 1, 2, 3, 4, 5, 6] rfl (hj76 μ3 x4 p1)
    refine s_iconst (v := (0 : Int32)) C dX13_feed_20 (by decide) ?_
    refine s_istore (L' := [(6, .int (0 : Int32)), (0, .ref (xa X 26 n0)), (1, .int p1), (2, .int p2), (3, .int p3), (4, .int p4), (5, .int p5)]) C dX13_feed_21 (hN 6 (by decide)) rfl ?_
    exact g_sub [1, 2, 3, 4, 5, 6, 0] rfl (hj23 μ1 (0 : Int32))
  ·
    refine s_iconst (v := (-1 : Int32)) C dX13_feed_18 (by decide) ?_
    exact s_iret C E dX13_feed_19
/-! PinEnginesModel.errorPosition()I -/
def fX13_errorPosition (n0 : Nat) (μ : Mem) : Option (Int32 × Mem) :=
  nm (wI μ 26 n0 6 (0 : Int32)) fun μ1 =>
  some ((μ1.1 26 n0 28), μ1)
set_option maxHeartbeats 4000000 in
set_option maxRecDepth 100000 in
theorem kX13_errorPosition (l : Launch) (n0 : Nat) (g0 : n0 < 1) : Kon 1 l yX13_errorPosition cX13_errorPosition 1 (some .int) 0 0 0 0 (fun ad => [.ref (ad 26 n0)]) rvI (fun μ => fX13_errorPosition n0 μ) := by
  refine kon_of (by decide) (fun _ => Nat.le_of_ble_eq_true rfl) (fun X r0 μ hXl hXn V C E => ?_)
  have hN : ∀ i : Nat, i < 1 → i < xn X := fun i h => hXn.symm ▸ h
  have R0 := fen_rm E
  show G X r0 0 0 μ 0 [(0, .ref (xa X 26 n0))] [] (fX13_errorPosition n0 μ)
  unfold fX13_errorPosition
  refine s_aload_n C dX13_errorPosition_0 rfl 0 rfl ?_
  refine s_iconst (v := (0 : Int32)) C dX13_errorPosition_1 (by decide) ?_
  refine s_putI C (fpX13_231_26 (Nat.le_trans (by decide) V)) g0 dX13_errorPosition_2 ?_
  refine g_nmM (fun μ1 => ?_)
  refine s_aload_n C dX13_errorPosition_5 rfl 0 rfl ?_
  refine s_getI C (fgX13_53_26 (Nat.le_trans (by decide) V)) g0 dX13_errorPosition_6 ?_
  exact s_iret C E dX13_errorPosition_9
/-! PinEnginesModel.byteAt(I)I -/
def fX13_byteAt (n0 : Nat) (p1 : Int32) (μ : Mem) : Option (Int32 × Mem) :=
  jn (fun (μ1 : Mem) (x2 : Int32) =>
    some (x2, μ1)
  ) fun j18 =>
  if (μ.1 26 n0 22) ≤ p1 then (
    j18 μ (-1 : Int32)
  ) else (
    ckI p1 (mil.getD 7 0) <|
    j18 μ (μ.1 28 7 p1.toNatClampNeg)
  )
set_option maxHeartbeats 4000000 in
set_option maxRecDepth 100000 in
theorem kX13_byteAt (l : Launch) (n0 : Nat) (g0 : n0 < 1) (p1 : Int32) : Kon 1 l yX13_byteAt cX13_byteAt 2 (some .int) 0 0 0 0 (fun ad => [.ref (ad 26 n0), .int p1]) rvI (fun μ => fX13_byteAt n0 p1 μ) := by
  refine kon_of (by decide) (fun _ => Nat.le_of_ble_eq_true rfl) (fun X r0 μ hXl hXn V C E => ?_)
  have hN : ∀ i : Nat, i < 2 → i < xn X := fun i h => hXn.symm ▸ h
  have R0 := fen_rm E
  show G X r0 0 0 μ 0 [(0, .ref (xa X 26 n0)), (1, .int p1)] [] (fX13_byteAt n0 p1 μ)
  unfold fX13_byteAt
  refine g_jn (P := fun j18 => ∀ (μ1 : Mem) (x2 : Int32), G X r0 0 0 μ1 18 [] [.int x2] (j18 μ1 x2)) ?_ (fun j18 hj18 => ?_)
  · intro μ1 x2
    exact s_iret C E dX13_byteAt_18
  refine s_iload_n C dX13_byteAt_0 rfl 1 rfl ?_
  refine s_aload_n C dX13_byteAt_1 rfl 0 rfl ?_
  refine s_getI C (fgX13_469_26 (Nat.le_trans (by decide) V)) g0 dX13_byteAt_2 ?_
  refine s_icmp_ge (tgt := 17) C dX13_byteAt_5 (by decide) (fun c3 => ?_) (fun c3 => ?_)
  ·
    refine s_iconst (v := (-1 : Int32)) C dX13_byteAt_17 (by decide) ?_
    exact g_sub [] rfl (hj18 μ (-1 : Int32))
  ·
    refine s_aload_n C dX13_byteAt_8 rfl 0 rfl ?_
    refine s_getF C (fgX13_50_26 (Nat.le_trans (by decide) V)) g0 dX13_byteAt_9 ?_
    refine s_iload_n C dX13_byteAt_12 rfl 1 rfl ?_
    refine s_iald C (ag28 (Nat.le_trans (by decide) V)) (by decide) dX13_byteAt_13 ?_
    refine s_goto (tgt := 18) C dX13_byteAt_14 (by decide) ?_
    exact g_sub [] rfl (hj18 μ (μ.1 28 7 p1.toNatClampNeg))
/-! PinEnginesModel.isLetter(I)Z -/
def fX13_isLetter (n0 : Nat) (p1 : Int32) (μ : Mem) : Option (Int32 × Mem) :=
  jn (fun (μ1 : Mem) (x2 : Int32) =>
    ckZ x2 (some (x2, μ1))
  ) fun j25 =>
  jn (fun (μ3 : Mem) =>
    j25 μ3 (0 : Int32)
  ) fun j24 =>
  bnd (fX13_byteAt n0 p1 μ) fun x5 μ4 =>
  if x5 < (97 : Int32) then (
    j24 μ4
  ) else (
    bnd (fX13_byteAt n0 p1 μ4) fun x8 μ7 =>
    if (122 : Int32) < x8 then (
      j24 μ7
    ) else (
      j25 μ7 (1 : Int32)
    )
  )
set_option maxHeartbeats 4000000 in
set_option maxRecDepth 100000 in
theorem kX13_isLetter (l : Launch) (n0 : Nat) (g0 : n0 < 1) (p1 : Int32) : Kon 1 l yX13_isLetter cX13_isLetter 2 (some .boolean) 1 21 0 0 (fun ad => [.ref (ad 26 n0), .int p1]) rvI (fun μ => fX13_isLetter n0 p1 μ) := by
  refine kon_of (by decide) (fun _ => Nat.le_of_ble_eq_true rfl) (fun X r0 μ hXl hXn V C E => ?_)
  have hN : ∀ i : Nat, i < 2 → i < xn X := fun i h => hXn.symm ▸ h
  have R0 := fen_rm E
  show G X r0 0 0 μ 0 [(0, .ref (xa X 26 n0)), (1, .int p1)] [] (fX13_isLetter n0 p1 μ)
  unfold fX13_isLetter
  refine g_jn (P := fun j25 => ∀ (μ1 : Mem) (x2 : Int32), G X r0 0 0 μ1 25 [] [.int x2] (j25 μ1 x2)) ?_ (fun j25 hj25 => ?_)
  · intro μ1 x2
    exact s_zret C E dX13_isLetter_25
  refine g_jn (P := fun j24 => ∀ (μ3 : Mem), G X r0 0 0 μ3 24 [] [] (j24 μ3)) ?_ (fun j24 hj24 => ?_)
  · intro μ3
    refine s_iconst (v := (0 : Int32)) C dX13_isLetter_24 (by decide) ?_
    exact g_sub [] rfl (hj25 μ3 (0 : Int32))
  refine s_aload_n C dX13_isLetter_0 rfl 0 rfl ?_
  refine s_iload_n C dX13_isLetter_1 rfl 1 rfl ?_
  refine s_callV C R0 (kX13_byteAt (xl X) n0 g0 p1) (Nat.le_trans (by decide) V) mmX13_byteAt miX13_byteAt q2650 (rc26 (Nat.le_trans (by decide) V)) g0 rfl rfl rfl (Nat.le_of_ble_eq_true rfl) ⟨Nat.le_of_ble_eq_true rfl, Nat.le_of_ble_eq_true rfl, Nat.le_of_ble_eq_true rfl, Nat.le_of_ble_eq_true rfl⟩ dX13_isLetter_2 (fun x5 μ4 => ?_)
  refine g_st (st' := [.int x5]) rfl ?_
  refine s_bipush (v := (97 : Int32)) C dX13_isLetter_5 (by decide) ?_
  refine s_icmp_lt (tgt := 24) C dX13_isLetter_7 (by decide) (fun c6 => ?_) (fun c6 => ?_)
  ·
    exact g_sub [] rfl (hj24 μ4)
  ·
    refine s_aload_n C dX13_isLetter_10 rfl 0 rfl ?_
    refine s_iload_n C dX13_isLetter_11 rfl 1 rfl ?_
    refine s_callV C R0 (kX13_byteAt (xl X) n0 g0 p1) (Nat.le_trans (by decide) V) mmX13_byteAt miX13_byteAt q2650 (rc26 (Nat.le_trans (by decide) V)) g0 rfl rfl rfl (Nat.le_of_ble_eq_true rfl) ⟨Nat.le_of_ble_eq_true rfl, Nat.le_of_ble_eq_true rfl, Nat.le_of_ble_eq_true rfl, Nat.le_of_ble_eq_true rfl⟩ dX13_isLetter_12 (fun x8 μ7 => ?_)
    refine g_st (st' := [.int x8]) rfl ?_
    refine s_bipush (v := (122 : Int32)) C dX13_isLetter_15 (by decide) ?_
    refine s_icmp_gt (tgt := 24) C dX13_isLetter_17 (by decide) (fun c9 => ?_) (fun c9 => ?_)
    ·
      exact g_sub [] rfl (hj24 μ7)
    ·
      refine s_iconst (v := (1 : Int32)) C dX13_isLetter_20 (by decide) ?_
      refine s_goto (tgt := 25) C dX13_isLetter_21 (by decide) ?_
      exact g_sub [] rfl (hj25 μ7 (1 : Int32))
/-! PinEnginesModel.isDigit(I)Z -/
def fX13_isDigit (n0 : Nat) (p1 : Int32) (μ : Mem) : Option (Int32 × Mem) :=
  jn (fun (μ1 : Mem) (x2 : Int32) =>
    ckZ x2 (some (x2, μ1))
  ) fun j25 =>
  jn (fun (μ3 : Mem) =>
    j25 μ3 (0 : Int32)
  ) fun j24 =>
  bnd (fX13_byteAt n0 p1 μ) fun x5 μ4 =>
  if x5 < (48 : Int32) then (
    j24 μ4
  ) else (
    bnd (fX13_byteAt n0 p1 μ4) fun x8 μ7 =>
    if (57 : Int32) < x8 then (
      j24 μ7
    ) else (
      j25 μ7 (1 : Int32)
    )
  )
set_option maxHeartbeats 4000000 in
set_option maxRecDepth 100000 in
theorem kX13_isDigit (l : Launch) (n0 : Nat) (g0 : n0 < 1) (p1 : Int32) : Kon 1 l yX13_isDigit cX13_isDigit 2 (some .boolean) 1 21 0 0 (fun ad => [.ref (ad 26 n0), .int p1]) rvI (fun μ => fX13_isDigit n0 p1 μ) := by
  refine kon_of (by decide) (fun _ => Nat.le_of_ble_eq_true rfl) (fun X r0 μ hXl hXn V C E => ?_)
  have hN : ∀ i : Nat, i < 2 → i < xn X := fun i h => hXn.symm ▸ h
  have R0 := fen_rm E
  show G X r0 0 0 μ 0 [(0, .ref (xa X 26 n0)), (1, .int p1)] [] (fX13_isDigit n0 p1 μ)
  unfold fX13_isDigit
  refine g_jn (P := fun j25 => ∀ (μ1 : Mem) (x2 : Int32), G X r0 0 0 μ1 25 [] [.int x2] (j25 μ1 x2)) ?_ (fun j25 hj25 => ?_)
  · intro μ1 x2
    exact s_zret C E dX13_isDigit_25
  refine g_jn (P := fun j24 => ∀ (μ3 : Mem), G X r0 0 0 μ3 24 [] [] (j24 μ3)) ?_ (fun j24 hj24 => ?_)
  · intro μ3
    refine s_iconst (v := (0 : Int32)) C dX13_isDigit_24 (by decide) ?_
    exact g_sub [] rfl (hj25 μ3 (0 : Int32))
  refine s_aload_n C dX13_isDigit_0 rfl 0 rfl ?_
  refine s_iload_n C dX13_isDigit_1 rfl 1 rfl ?_
  refine s_callV C R0 (kX13_byteAt (xl X) n0 g0 p1) (Nat.le_trans (by decide) V) mmX13_byteAt miX13_byteAt q2650 (rc26 (Nat.le_trans (by decide) V)) g0 rfl rfl rfl (Nat.le_of_ble_eq_true rfl) ⟨Nat.le_of_ble_eq_true rfl, Nat.le_of_ble_eq_true rfl, Nat.le_of_ble_eq_true rfl, Nat.le_of_ble_eq_true rfl⟩ dX13_isDigit_2 (fun x5 μ4 => ?_)
  refine g_st (st' := [.int x5]) rfl ?_
  refine s_bipush (v := (48 : Int32)) C dX13_isDigit_5 (by decide) ?_
  refine s_icmp_lt (tgt := 24) C dX13_isDigit_7 (by decide) (fun c6 => ?_) (fun c6 => ?_)
  ·
    exact g_sub [] rfl (hj24 μ4)
  ·
    refine s_aload_n C dX13_isDigit_10 rfl 0 rfl ?_
    refine s_iload_n C dX13_isDigit_11 rfl 1 rfl ?_
    refine s_callV C R0 (kX13_byteAt (xl X) n0 g0 p1) (Nat.le_trans (by decide) V) mmX13_byteAt miX13_byteAt q2650 (rc26 (Nat.le_trans (by decide) V)) g0 rfl rfl rfl (Nat.le_of_ble_eq_true rfl) ⟨Nat.le_of_ble_eq_true rfl, Nat.le_of_ble_eq_true rfl, Nat.le_of_ble_eq_true rfl, Nat.le_of_ble_eq_true rfl⟩ dX13_isDigit_12 (fun x8 μ7 => ?_)
    refine g_st (st' := [.int x8]) rfl ?_
    refine s_bipush (v := (57 : Int32)) C dX13_isDigit_15 (by decide) ?_
    refine s_icmp_gt (tgt := 24) C dX13_isDigit_17 (by decide) (fun c9 => ?_) (fun c9 => ?_)
    ·
      exact g_sub [] rfl (hj24 μ7)
    ·
      refine s_iconst (v := (1 : Int32)) C dX13_isDigit_20 (by decide) ?_
      refine s_goto (tgt := 25) C dX13_isDigit_21 (by decide) ?_
      exact g_sub [] rfl (hj25 μ7 (1 : Int32))
/-! PinEnginesModel.scan()V -/
def fX13_scan (fu : Nat) (n0 : Nat) (μ : Mem) : Option (Unit × Mem) :=
  jn (lp (fun _ => none) fu (fun j0 (μ1 : Mem) =>
    jn (fun (μ2 : Mem) =>
      nm (wI μ2 26 n0 23 ((μ2.1 26 n0 23) + (1 : Int32))) fun μ3 =>
      j0 μ3
    ) fun j26 =>
    bnd (fX13_byteAt n0 (μ1.1 26 n0 23) μ1) fun x5 μ4 =>
    if x5 = (32 : Int32) then (
      j26 μ4
    ) else (
      bnd (fX13_byteAt n0 (μ4.1 26 n0 23) μ4) fun x8 μ7 =>
      if ¬ x8 = (10 : Int32) then (
        jn (fun (μ10 : Mem) =>
          some ((), μ10)
        ) fun j167 =>
        nm (wI μ7 26 n0 24 (μ7.1 26 n0 23)) fun μ11 =>
        if (μ11.1 26 n0 23) < (μ11.1 26 n0 22) then (
          jn (lp (fun _ => none) fu (fun j77 (μ13 : Mem) =>
            bnd (fX13_isLetter n0 (μ13.1 26 n0 23) μ13) fun x15 μ14 =>
            if x15 = 0 then (
              nm (wI μ14 26 n0 25 (1 : Int32)) fun μ17 =>
              j167 μ17
            ) else (
              nm (wI μ14 26 n0 23 ((μ14.1 26 n0 23) + (1 : Int32))) fun μ18 =>
              j77 μ18
            )
          )) fun j77 =>
          bnd (fX13_isLetter n0 (μ11.1 26 n0 23) μ11) fun x20 μ19 =>
          if x20 = 0 then (
            jn (lp (fun _ => none) fu (fun j120 (μ22 : Mem) =>
              bnd (fX13_isDigit n0 (μ22.1 26 n0 23) μ22) fun x24 μ23 =>
              if x24 = 0 then (
                nm (wI μ23 26 n0 25 (2 : Int32)) fun μ26 =>
                j167 μ26
              ) else (
                nm (wI μ23 26 n0 23 ((μ23.1 26 n0 23) + (1 : Int32))) fun μ27 =>
                j120 μ27
              )
            )) fun j120 =>
            bnd (fX13_isDigit n0 (μ19.1 26 n0 23) μ19) fun x29 μ28 =>
            if x29 = 0 then (
              nm (wI μ28 26 n0 23 ((μ28.1 26 n0 23) + (1 : Int32))) fun μ31 =>
              nm (wI μ31 26 n0 25 (3 : Int32)) fun μ32 =>
              j167 μ32
            ) else (
              j120 μ28
            )
          ) else (
            j77 μ19
          )
        ) else (
          nm (wI μ11 26 n0 25 (0 : Int32)) fun μ33 =>
          j167 μ33
        )
      ) else (
        j26 μ7
      )
    )
  )) fun j0 =>
  j0 μ
set_option maxHeartbeats 4000000 in
set_option maxRecDepth 100000 in
theorem kX13_scan (l : Launch) (fu : Nat) (n0 : Nat) (g0 : n0 < 1) : Kon 1 l yX13_scan cX13_scan 1 (none) 2 42 0 0 (fun ad => [.ref (ad 26 n0)]) rvV (fun μ => fX13_scan fu n0 μ) := by
  refine kon_of (by decide) (fun _ => Nat.le_of_ble_eq_true rfl) (fun X r0 μ hXl hXn V C E => ?_)
  have hN : ∀ i : Nat, i < 1 → i < xn X := fun i h => hXn.symm ▸ h
  have R0 := fen_rm E
  show G X r0 0 0 μ 0 [(0, .ref (xa X 26 n0))] [] (fX13_scan fu n0 μ)
  unfold fX13_scan
  refine g_jl (P := fun j0 => ∀ (μ1 : Mem), G X r0 0 0 μ1 0 [(0, .ref (xa X 26 n0))] [] (j0 μ1)) (fun _ => g_none) (fun j0 hj0 => ?_) (fun j0 hj0 => ?_)
  · intro μ1
    refine g_jn (P := fun j26 => ∀ (μ2 : Mem), G X r0 0 0 μ2 26 [(0, .ref (xa X 26 n0))] [] (j26 μ2)) ?_ (fun j26 hj26 => ?_)
    · intro μ2
      refine s_aload_n C dX13_scan_26 rfl 0 rfl ?_
      refine s_dup C dX13_scan_27 rfl ?_
      refine s_getI C (fgX13_475_26 (Nat.le_trans (by decide) V)) g0 dX13_scan_28 ?_
      refine s_iconst (v := (1 : Int32)) C dX13_scan_31 (by decide) ?_
      refine s_iadd C dX13_scan_32 ?_
      refine s_putI C (fpX13_475_26 (Nat.le_trans (by decide) V)) g0 dX13_scan_33 ?_
      refine g_nmM (fun μ3 => ?_)
      refine s_goto (tgt := 0) C dX13_scan_36 (by decide) ?_
      exact g_sub [0] rfl (hj0 μ3)
    refine s_aload_n C dX13_scan_0 rfl 0 rfl ?_
    refine s_aload_n C dX13_scan_1 rfl 0 rfl ?_
    refine s_getI C (fgX13_475_26 (Nat.le_trans (by decide) V)) g0 dX13_scan_2 ?_
    refine s_callV C R0 (kX13_byteAt (xl X) n0 g0 (μ1.1 26 n0 23)) (Nat.le_trans (by decide) V) mmX13_byteAt miX13_byteAt q2650 (rc26 (Nat.le_trans (by decide) V)) g0 rfl rfl rfl (Nat.le_of_ble_eq_true rfl) ⟨Nat.le_of_ble_eq_true rfl, Nat.le_of_ble_eq_true rfl, Nat.le_of_ble_eq_true rfl, Nat.le_of_ble_eq_true rfl⟩ dX13_scan_5 (fun x5 μ4 => ?_)
    refine g_st (st' := [.int x5]) rfl ?_
    refine s_bipush (v := (32 : Int32)) C dX13_scan_8 (by decide) ?_
    refine s_icmp_eq (tgt := 26) C dX13_scan_10 (by decide) (fun c6 => ?_) (fun c6 => ?_)
    ·
      exact g_sub [0] rfl (hj26 μ4)
    ·
      refine s_aload_n C dX13_scan_13 rfl 0 rfl ?_
      refine s_aload_n C dX13_scan_14 rfl 0 rfl ?_
      refine s_getI C (fgX13_475_26 (Nat.le_trans (by decide) V)) g0 dX13_scan_15 ?_
      refine s_callV C R0 (kX13_byteAt (xl X) n0 g0 (μ4.1 26 n0 23)) (Nat.le_trans (by decide) V) mmX13_byteAt miX13_byteAt q2650 (rc26 (Nat.le_trans (by decide) V)) g0 rfl rfl rfl (Nat.le_of_ble_eq_true rfl) ⟨Nat.le_of_ble_eq_true rfl, Nat.le_of_ble_eq_true rfl, Nat.le_of_ble_eq_true rfl, Nat.le_of_ble_eq_true rfl⟩ dX13_scan_18 (fun x8 μ7 => ?_)
      refine g_st (st' := [.int x8]) rfl ?_
      refine s_bipush (v := (10 : Int32)) C dX13_scan_21 (by decide) ?_
      refine s_icmp_ne (tgt := 39) C dX13_scan_23 (by decide) (fun c9 => ?_) (fun c9 => ?_)
      ·
        refine g_jn (P := fun j167 => ∀ (μ10 : Mem), G X r0 0 0 μ10 167 [] [] (j167 μ10)) ?_ (fun j167 hj167 => ?_)
        · intro μ10
          exact s_vret C E dX13_scan_167
        refine s_aload_n C dX13_scan_39 rfl 0 rfl ?_
        refine s_aload_n C dX13_scan_40 rfl 0 rfl ?_
        refine s_getI C (fgX13_475_26 (Nat.le_trans (by decide) V)) g0 dX13_scan_41 ?_
        refine s_putI C (fpX13_478_26 (Nat.le_trans (by decide) V)) g0 dX13_scan_44 ?_
        refine g_nmM (fun μ11 => ?_)
        refine s_aload_n C dX13_scan_47 rfl 0 rfl ?_
        refine s_getI C (fgX13_475_26 (Nat.le_trans (by decide) V)) g0 dX13_scan_48 ?_
        refine s_aload_n C dX13_scan_51 rfl 0 rfl ?_
        refine s_getI C (fgX13_469_26 (Nat.le_trans (by decide) V)) g0 dX13_scan_52 ?_
        refine s_icmp_lt (tgt := 66) C dX13_scan_55 (by decide) (fun c12 => ?_) (fun c12 => ?_)
        ·
          refine g_jl (P := fun j77 => ∀ (μ13 : Mem), G X r0 0 0 μ13 77 [(0, .ref (xa X 26 n0))] [] (j77 μ13)) (fun _ => g_none) (fun j77 hj77 => ?_) (fun j77 hj77 => ?_)
          · intro μ13
            refine s_aload_n C dX13_scan_77 rfl 0 rfl ?_
            refine s_aload_n C dX13_scan_78 rfl 0 rfl ?_
            refine s_getI C (fgX13_475_26 (Nat.le_trans (by decide) V)) g0 dX13_scan_79 ?_
            refine s_callV C R0 (kX13_isLetter (xl X) n0 g0 (μ13.1 26 n0 23)) (Nat.le_trans (by decide) V) mmX13_isLetter miX13_isLetter q2654 (rc26 (Nat.le_trans (by decide) V)) g0 rfl rfl rfl (Nat.le_of_ble_eq_true rfl) ⟨Nat.le_of_ble_eq_true rfl, Nat.le_of_ble_eq_true rfl, Nat.le_of_ble_eq_true rfl, Nat.le_of_ble_eq_true rfl⟩ dX13_scan_82 (fun x15 μ14 => ?_)
            refine g_st (st' := [.int x15]) rfl ?_
            refine s_if_eq (tgt := 101) C dX13_scan_85 (by decide) (fun c16 => ?_) (fun c16 => ?_)
            ·
              refine s_aload_n C dX13_scan_101 rfl 0 rfl ?_
              refine s_iconst (v := (1 : Int32)) C dX13_scan_102 (by decide) ?_
              refine s_putI C (fpX13_481_26 (Nat.le_trans (by decide) V)) g0 dX13_scan_103 ?_
              refine g_nmM (fun μ17 => ?_)
              refine s_goto (tgt := 167) C dX13_scan_106 (by decide) ?_
              exact g_sub [] rfl (hj167 μ17)
            ·
              refine s_aload_n C dX13_scan_88 rfl 0 rfl ?_
              refine s_dup C dX13_scan_89 rfl ?_
              refine s_getI C (fgX13_475_26 (Nat.le_trans (by decide) V)) g0 dX13_scan_90 ?_
              refine s_iconst (v := (1 : Int32)) C dX13_scan_93 (by decide) ?_
              refine s_iadd C dX13_scan_94 ?_
              refine s_putI C (fpX13_475_26 (Nat.le_trans (by decide) V)) g0 dX13_scan_95 ?_
              refine g_nmM (fun μ18 => ?_)
              refine s_goto (tgt := 77) C dX13_scan_98 (by decide) ?_
              exact g_sub [0] rfl (hj77 μ18)
          refine s_aload_n C dX13_scan_66 rfl 0 rfl ?_
          refine s_aload_n C dX13_scan_67 rfl 0 rfl ?_
          refine s_getI C (fgX13_475_26 (Nat.le_trans (by decide) V)) g0 dX13_scan_68 ?_
          refine s_callV C R0 (kX13_isLetter (xl X) n0 g0 (μ11.1 26 n0 23)) (Nat.le_trans (by decide) V) mmX13_isLetter miX13_isLetter q2654 (rc26 (Nat.le_trans (by decide) V)) g0 rfl rfl rfl (Nat.le_of_ble_eq_true rfl) ⟨Nat.le_of_ble_eq_true rfl, Nat.le_of_ble_eq_true rfl, Nat.le_of_ble_eq_true rfl, Nat.le_of_ble_eq_true rfl⟩ dX13_scan_71 (fun x20 μ19 => ?_)
          refine g_st (st' := [.int x20]) rfl ?_
          refine s_if_eq (tgt := 109) C dX13_scan_74 (by decide) (fun c21 => ?_) (fun c21 => ?_)
          ·
            refine g_jl (P := fun j120 => ∀ (μ22 : Mem), G X r0 0 0 μ22 120 [(0, .ref (xa X 26 n0))] [] (j120 μ22)) (fun _ => g_none) (fun j120 hj120 => ?_) (fun j120 hj120 => ?_)
            · intro μ22
              refine s_aload_n C dX13_scan_120 rfl 0 rfl ?_
              refine s_aload_n C dX13_scan_121 rfl 0 rfl ?_
              refine s_getI C (fgX13_475_26 (Nat.le_trans (by decide) V)) g0 dX13_scan_122 ?_
              refine s_callV C R0 (kX13_isDigit (xl X) n0 g0 (μ22.1 26 n0 23)) (Nat.le_trans (by decide) V) mmX13_isDigit miX13_isDigit q2658 (rc26 (Nat.le_trans (by decide) V)) g0 rfl rfl rfl (Nat.le_of_ble_eq_true rfl) ⟨Nat.le_of_ble_eq_true rfl, Nat.le_of_ble_eq_true rfl, Nat.le_of_ble_eq_true rfl, Nat.le_of_ble_eq_true rfl⟩ dX13_scan_125 (fun x24 μ23 => ?_)
              refine g_st (st' := [.int x24]) rfl ?_
              refine s_if_eq (tgt := 144) C dX13_scan_128 (by decide) (fun c25 => ?_) (fun c25 => ?_)
              ·
                refine s_aload_n C dX13_scan_144 rfl 0 rfl ?_
                refine s_iconst (v := (2 : Int32)) C dX13_scan_145 (by decide) ?_
                refine s_putI C (fpX13_481_26 (Nat.le_trans (by decide) V)) g0 dX13_scan_146 ?_
                refine g_nmM (fun μ26 => ?_)
                refine s_goto (tgt := 167) C dX13_scan_149 (by decide) ?_
                exact g_sub [] rfl (hj167 μ26)
              ·
                refine s_aload_n C dX13_scan_131 rfl 0 rfl ?_
                refine s_dup C dX13_scan_132 rfl ?_
                refine s_getI C (fgX13_475_26 (Nat.le_trans (by decide) V)) g0 dX13_scan_133 ?_
                refine s_iconst (v := (1 : Int32)) C dX13_scan_136 (by decide) ?_
                refine s_iadd C dX13_scan_137 ?_
                refine s_putI C (fpX13_475_26 (Nat.le_trans (by decide) V)) g0 dX13_scan_138 ?_
                refine g_nmM (fun μ27 => ?_)
                refine s_goto (tgt := 120) C dX13_scan_141 (by decide) ?_
                exact g_sub [0] rfl (hj120 μ27)
            refine s_aload_n C dX13_scan_109 rfl 0 rfl ?_
            refine s_aload_n C dX13_scan_110 rfl 0 rfl ?_
            refine s_getI C (fgX13_475_26 (Nat.le_trans (by decide) V)) g0 dX13_scan_111 ?_
            refine s_callV C R0 (kX13_isDigit (xl X) n0 g0 (μ19.1 26 n0 23)) (Nat.le_trans (by decide) V) mmX13_isDigit miX13_isDigit q2658 (rc26 (Nat.le_trans (by decide) V)) g0 rfl rfl rfl (Nat.le_of_ble_eq_true rfl) ⟨Nat.le_of_ble_eq_true rfl, Nat.le_of_ble_eq_true rfl, Nat.le_of_ble_eq_true rfl, Nat.le_of_ble_eq_true rfl⟩ dX13_scan_114 (fun x29 μ28 => ?_)
            refine g_st (st' := [.int x29]) rfl ?_
            refine s_if_eq (tgt := 152) C dX13_scan_117 (by decide) (fun c30 => ?_) (fun c30 => ?_)
            ·
              refine s_aload_n C dX13_scan_152 rfl 0 rfl ?_
              refine s_dup C dX13_scan_153 rfl ?_
              refine s_getI C (fgX13_475_26 (Nat.le_trans (by decide) V)) g0 dX13_scan_154 ?_
              refine s_iconst (v := (1 : Int32)) C dX13_scan_157 (by decide) ?_
              refine s_iadd C dX13_scan_158 ?_
              refine s_putI C (fpX13_475_26 (Nat.le_trans (by decide) V)) g0 dX13_scan_159 ?_
              refine g_nmM (fun μ31 => ?_)
              refine s_aload_n C dX13_scan_162 rfl 0 rfl ?_
              refine s_iconst (v := (3 : Int32)) C dX13_scan_163 (by decide) ?_
              refine s_putI C (fpX13_481_26 (Nat.le_trans (by decide) V)) g0 dX13_scan_164 ?_
              refine g_nmM (fun μ32 => ?_)
              exact g_sub [] rfl (hj167 μ32)
            ·
              exact g_sub [0] rfl (hj120 μ28)
          ·
            exact g_sub [0] rfl (hj77 μ19)
        ·
          refine s_aload_n C dX13_scan_58 rfl 0 rfl ?_
          refine s_iconst (v := (0 : Int32)) C dX13_scan_59 (by decide) ?_
          refine s_putI C (fpX13_481_26 (Nat.le_trans (by decide) V)) g0 dX13_scan_60 ?_
          refine g_nmM (fun μ33 => ?_)
          refine s_goto (tgt := 167) C dX13_scan_63 (by decide) ?_
          exact g_sub [] rfl (hj167 μ33)
      ·
        exact g_sub [0] rfl (hj26 μ7)
  exact g_sub [0] rfl (hj0 μ)
/-! PinEnginesModel.startText(I)V -/
def fX13_startText (fu : Nat) (n0 : Nat) (p1 : Int32) (μ : Mem) : Option (Unit × Mem) :=
  nm (wI μ 26 n0 22 p1) fun μ1 =>
  nm (wI μ1 26 n0 23 (0 : Int32)) fun μ2 =>
  nm (wI μ2 26 n0 26 (0 : Int32)) fun μ3 =>
  nm (wI μ3 26 n0 29 (0 : Int32)) fun μ4 =>
  bnd (fX13_scan fu n0 μ4) fun _ μ5 =>
  some ((), μ5)
set_option maxHeartbeats 4000000 in
set_option maxRecDepth 100000 in
theorem kX13_startText (l : Launch) (fu : Nat) (n0 : Nat) (g0 : n0 < 1) (p1 : Int32) : Kon 1 l yX13_startText cX13_startText 2 (none) 3 62 0 0 (fun ad => [.ref (ad 26 n0), .int p1]) rvV (fun μ => fX13_startText fu n0 p1 μ) := by
  refine kon_of (by decide) (fun _ => Nat.le_of_ble_eq_true rfl) (fun X r0 μ hXl hXn V C E => ?_)
  have hN : ∀ i : Nat, i < 2 → i < xn X := fun i h => hXn.symm ▸ h
  have R0 := fen_rm E
  show G X r0 0 0 μ 0 [(0, .ref (xa X 26 n0)), (1, .int p1)] [] (fX13_startText fu n0 p1 μ)
  unfold fX13_startText
  refine s_aload_n C dX13_startText_0 rfl 0 rfl ?_
  refine s_iload_n C dX13_startText_1 rfl 1 rfl ?_
  refine s_putI C (fpX13_469_26 (Nat.le_trans (by decide) V)) g0 dX13_startText_2 ?_
  refine g_nmM (fun μ1 => ?_)
  refine s_aload_n C dX13_startText_5 rfl 0 rfl ?_
  refine s_iconst (v := (0 : Int32)) C dX13_startText_6 (by decide) ?_
  refine s_putI C (fpX13_475_26 (Nat.le_trans (by decide) V)) g0 dX13_startText_7 ?_
  refine g_nmM (fun μ2 => ?_)
  refine s_aload_n C dX13_startText_10 rfl 0 rfl ?_
  refine s_iconst (v := (0 : Int32)) C dX13_startText_11 (by decide) ?_
  refine s_putI C (fpX13_490_26 (Nat.le_trans (by decide) V)) g0 dX13_startText_12 ?_
  refine g_nmM (fun μ3 => ?_)
  refine s_aload_n C dX13_startText_15 rfl 0 rfl ?_
  refine s_iconst (v := (0 : Int32)) C dX13_startText_16 (by decide) ?_
  refine s_putI C (fpX13_493_26 (Nat.le_trans (by decide) V)) g0 dX13_startText_17 ?_
  refine g_nmM (fun μ4 => ?_)
  refine s_aload_n C dX13_startText_20 rfl 0 rfl ?_
  refine s_callV C R0 (kX13_scan (xl X) fu n0 g0) (Nat.le_trans (by decide) V) mmX13_scan miX13_scan q2646 (rc26 (Nat.le_trans (by decide) V)) g0 rfl rfl rfl (Nat.le_of_ble_eq_true rfl) ⟨Nat.le_of_ble_eq_true rfl, Nat.le_of_ble_eq_true rfl, Nat.le_of_ble_eq_true rfl, Nat.le_of_ble_eq_true rfl⟩ dX13_startText_21 (fun _ μ5 => ?_)
  refine g_st (st' := []) rfl ?_
  exact s_vret C E dX13_startText_24
/-! PinEnginesModel.finish()I -/
def fX13_finish (n0 : Nat) (μ : Mem) : Option (Int32 × Mem) :=
  jn (fun (μ1 : Mem) (a2 : Nat) (x4 : Int32) =>
    nm (wI μ1 26 a2 28 x4) fun μ5 =>
    some ((μ5.1 26 n0 26), μ5)
  ) fun j21 =>
  nm (wI μ 26 n0 21 (0 : Int32)) fun μ6 =>
  if ¬ (μ6.1 26 n0 26) = 0 then (
    j21 μ6 n0 (μ6.1 26 n0 27)
  ) else (
    j21 μ6 n0 (-1 : Int32)
  )
set_option maxHeartbeats 4000000 in
set_option maxRecDepth 100000 in
theorem kX13_finish (l : Launch) (n0 : Nat) (g0 : n0 < 1) : Kon 1 l yX13_finish cX13_finish 1 (some .int) 0 0 0 0 (fun ad => [.ref (ad 26 n0)]) rvI (fun μ => fX13_finish n0 μ) := by
  refine kon_of (by decide) (fun _ => Nat.le_of_ble_eq_true rfl) (fun X r0 μ hXl hXn V C E => ?_)
  have hN : ∀ i : Nat, i < 1 → i < xn X := fun i h => hXn.symm ▸ h
  have R0 := fen_rm E
  show G X r0 0 0 μ 0 [(0, .ref (xa X 26 n0))] [] (fX13_finish n0 μ)
  unfold fX13_finish
  refine g_jn (P := fun j21 => ∀ (μ1 : Mem) (a2 : Nat) (x4 : Int32), a2 < 1 → G X r0 0 0 μ1 21 [(0, .ref (xa X 26 n0))] [.int x4, .ref (xa X 26 a2)] (j21 μ1 a2 x4)) ?_ (fun j21 hj21 => ?_)
  · intro μ1 a2 x4 b3
    refine s_putI C (fpX13_53_26 (Nat.le_trans (by decide) V)) b3 dX13_finish_21 ?_
    refine g_nmM (fun μ5 => ?_)
    refine s_aload_n C dX13_finish_24 rfl 0 rfl ?_
    refine s_getI C (fgX13_490_26 (Nat.le_trans (by decide) V)) g0 dX13_finish_25 ?_
    exact s_iret C E dX13_finish_28
  refine s_aload_n C dX13_finish_0 rfl 0 rfl ?_
  refine s_iconst (v := (0 : Int32)) C dX13_finish_1 (by decide) ?_
  refine s_putI C (fpX13_466_26 (Nat.le_trans (by decide) V)) g0 dX13_finish_2 ?_
  refine g_nmM (fun μ6 => ?_)
  refine s_aload_n C dX13_finish_5 rfl 0 rfl ?_
  refine s_aload_n C dX13_finish_6 rfl 0 rfl ?_
  refine s_getI C (fgX13_490_26 (Nat.le_trans (by decide) V)) g0 dX13_finish_7 ?_
  refine s_if_ne (tgt := 17) C dX13_finish_10 (by decide) (fun c7 => ?_) (fun c7 => ?_)
  ·
    refine s_aload_n C dX13_finish_17 rfl 0 rfl ?_
    refine s_getI C (fgX13_499_26 (Nat.le_trans (by decide) V)) g0 dX13_finish_18 ?_
    exact g_sub [0] rfl (hj21 μ6 n0 (μ6.1 26 n0 27) g0)
  ·
    refine s_iconst (v := (-1 : Int32)) C dX13_finish_13 (by decide) ?_
    refine s_goto (tgt := 21) C dX13_finish_14 (by decide) ?_
    exact g_sub [0] rfl (hj21 μ6 n0 (-1 : Int32) g0)
/-! PinEnginesModel.fail(I)V -/
def fX13_fail (n0 : Nat) (p1 : Int32) (μ : Mem) : Option (Unit × Mem) :=
  jn (fun (μ1 : Mem) =>
    some ((), μ1)
  ) fun j20 =>
  if ¬ (μ.1 26 n0 26) = 0 then (
    j20 μ
  ) else (
    nm (wI μ 26 n0 26 p1) fun μ3 =>
    nm (wI μ3 26 n0 27 (μ3.1 26 n0 24)) fun μ4 =>
    j20 μ4
  )
set_option maxHeartbeats 4000000 in
set_option maxRecDepth 100000 in
theorem kX13_fail (l : Launch) (n0 : Nat) (g0 : n0 < 1) (p1 : Int32) : Kon 1 l yX13_fail cX13_fail 2 (none) 0 0 0 0 (fun ad => [.ref (ad 26 n0), .int p1]) rvV (fun μ => fX13_fail n0 p1 μ) := by
  refine kon_of (by decide) (fun _ => Nat.le_of_ble_eq_true rfl) (fun X r0 μ hXl hXn V C E => ?_)
  have hN : ∀ i : Nat, i < 2 → i < xn X := fun i h => hXn.symm ▸ h
  have R0 := fen_rm E
  show G X r0 0 0 μ 0 [(0, .ref (xa X 26 n0)), (1, .int p1)] [] (fX13_fail n0 p1 μ)
  unfold fX13_fail
  refine g_jn (P := fun j20 => ∀ (μ1 : Mem), G X r0 0 0 μ1 20 [] [] (j20 μ1)) ?_ (fun j20 hj20 => ?_)
  · intro μ1
    exact s_vret C E dX13_fail_20
  refine s_aload_n C dX13_fail_0 rfl 0 rfl ?_
  refine s_getI C (fgX13_490_26 (Nat.le_trans (by decide) V)) g0 dX13_fail_1 ?_
  refine s_if_ne (tgt := 20) C dX13_fail_4 (by decide) (fun c2 => ?_) (fun c2 => ?_)
  ·
    exact g_sub [] rfl (hj20 μ)
  ·
    refine s_aload_n C dX13_fail_7 rfl 0 rfl ?_
    refine s_iload_n C dX13_fail_8 rfl 1 rfl ?_
    refine s_putI C (fpX13_490_26 (Nat.le_trans (by decide) V)) g0 dX13_fail_9 ?_
    refine g_nmM (fun μ3 => ?_)
    refine s_aload_n C dX13_fail_12 rfl 0 rfl ?_
    refine s_aload_n C dX13_fail_13 rfl 0 rfl ?_
    refine s_getI C (fgX13_478_26 (Nat.le_trans (by decide) V)) g0 dX13_fail_14 ?_
    refine s_putI C (fpX13_499_26 (Nat.le_trans (by decide) V)) g0 dX13_fail_17 ?_
    refine g_nmM (fun μ4 => ?_)
    exact g_sub [] rfl (hj20 μ4)
/-! PinEnginesModel.check(ZI)V -/
def fX13_check (n0 : Nat) (p1 : Int32) (p2 : Int32) (μ : Mem) : Option (Unit × Mem) :=
  jn (fun (μ1 : Mem) =>
    some ((), μ1)
  ) fun j9 =>
  if ¬ p1 = 0 then (
    j9 μ
  ) else (
    bnd (fX13_fail n0 p2 μ) fun _ μ3 =>
    j9 μ3
  )
set_option maxHeartbeats 4000000 in
set_option maxRecDepth 100000 in
theorem kX13_check (l : Launch) (n0 : Nat) (g0 : n0 < 1) (p1 : Int32) (p2 : Int32) : Kon 1 l yX13_check cX13_check 3 (none) 1 21 0 0 (fun ad => [.ref (ad 26 n0), .int p1, .int p2]) rvV (fun μ => fX13_check n0 p1 p2 μ) := by
  refine kon_of (by decide) (fun _ => Nat.le_of_ble_eq_true rfl) (fun X r0 μ hXl hXn V C E => ?_)
  have hN : ∀ i : Nat, i < 3 → i < xn X := fun i h => hXn.symm ▸ h
  have R0 := fen_rm E
  show G X r0 0 0 μ 0 [(0, .ref (xa X 26 n0)), (1, .int p1), (2, .int p2)] [] (fX13_check n0 p1 p2 μ)
  unfold fX13_check
  refine g_jn (P := fun j9 => ∀ (μ1 : Mem), G X r0 0 0 μ1 9 [] [] (j9 μ1)) ?_ (fun j9 hj9 => ?_)
  · intro μ1
    exact s_vret C E dX13_check_9
  refine s_iload_n C dX13_check_0 rfl 1 rfl ?_
  refine s_if_ne (tgt := 9) C dX13_check_1 (by decide) (fun c2 => ?_) (fun c2 => ?_)
  ·
    exact g_sub [] rfl (hj9 μ)
  ·
    refine s_aload_n C dX13_check_4 rfl 0 rfl ?_
    refine s_iload_n C dX13_check_5 rfl 2 rfl ?_
    refine s_callV C R0 (kX13_fail (xl X) n0 g0 p2) (Nat.le_trans (by decide) V) mmX13_fail miX13_fail q2684 (rc26 (Nat.le_trans (by decide) V)) g0 rfl rfl rfl (Nat.le_of_ble_eq_true rfl) ⟨Nat.le_of_ble_eq_true rfl, Nat.le_of_ble_eq_true rfl, Nat.le_of_ble_eq_true rfl, Nat.le_of_ble_eq_true rfl⟩ dX13_check_6 (fun _ μ3 => ?_)
    refine g_st (st' := []) rfl ?_
    exact g_sub [] rfl (hj9 μ3)
/-! PinEnginesModel.advance()V -/
def fX13_advance (fu : Nat) (n0 : Nat) (μ : Mem) : Option (Unit × Mem) :=
  jn (fun (μ1 : Mem) =>
    some ((), μ1)
  ) fun j11 =>
  if ¬ (μ.1 26 n0 26) = 0 then (
    j11 μ
  ) else (
    bnd (fX13_scan fu n0 μ) fun _ μ3 =>
    j11 μ3
  )
set_option maxHeartbeats 4000000 in
set_option maxRecDepth 100000 in
theorem kX13_advance (l : Launch) (fu : Nat) (n0 : Nat) (g0 : n0 < 1) : Kon 1 l yX13_advance cX13_advance 1 (none) 3 62 0 0 (fun ad => [.ref (ad 26 n0)]) rvV (fun μ => fX13_advance fu n0 μ) := by
  refine kon_of (by decide) (fun _ => Nat.le_of_ble_eq_true rfl) (fun X r0 μ hXl hXn V C E => ?_)
  have hN : ∀ i : Nat, i < 1 → i < xn X := fun i h => hXn.symm ▸ h
  have R0 := fen_rm E
  show G X r0 0 0 μ 0 [(0, .ref (xa X 26 n0))] [] (fX13_advance fu n0 μ)
  unfold fX13_advance
  refine g_jn (P := fun j11 => ∀ (μ1 : Mem), G X r0 0 0 μ1 11 [] [] (j11 μ1)) ?_ (fun j11 hj11 => ?_)
  · intro μ1
    exact s_vret C E dX13_advance_11
  refine s_aload_n C dX13_advance_0 rfl 0 rfl ?_
  refine s_getI C (fgX13_490_26 (Nat.le_trans (by decide) V)) g0 dX13_advance_1 ?_
  refine s_if_ne (tgt := 11) C dX13_advance_4 (by decide) (fun c2 => ?_) (fun c2 => ?_)
  ·
    exact g_sub [] rfl (hj11 μ)
  ·
    refine s_aload_n C dX13_advance_7 rfl 0 rfl ?_
    refine s_callV C R0 (kX13_scan (xl X) fu n0 g0) (Nat.le_trans (by decide) V) mmX13_scan miX13_scan q2646 (rc26 (Nat.le_trans (by decide) V)) g0 rfl rfl rfl (Nat.le_of_ble_eq_true rfl) ⟨Nat.le_of_ble_eq_true rfl, Nat.le_of_ble_eq_true rfl, Nat.le_of_ble_eq_true rfl, Nat.le_of_ble_eq_true rfl⟩ dX13_advance_8 (fun _ μ3 => ?_)
    refine g_st (st' := []) rfl ?_
    exact g_sub [] rfl (hj11 μ3)
/-! PinEnginesModel.isSymbol(I)Z -/
def fX13_isSymbol (n0 : Nat) (p1 : Int32) (μ : Mem) : Option (Int32 × Mem) :=
  jn (fun (μ1 : Mem) (x2 : Int32) =>
    ckZ x2 (some (x2, μ1))
  ) fun j33 =>
  jn (fun (μ3 : Mem) =>
    j33 μ3 (0 : Int32)
  ) fun j32 =>
  if ¬ (μ.1 26 n0 26) = 0 then (
    j32 μ
  ) else (
    if ¬ (μ.1 26 n0 25) = (3 : Int32) then (
      j32 μ
    ) else (
      ckI (μ.1 26 n0 24) (mil.getD 7 0) <|
      if ¬ (μ.1 28 7 (μ.1 26 n0 24).toNatClampNeg) = p1 then (
        j32 μ
      ) else (
        j33 μ (1 : Int32)
      )
    )
  )
set_option maxHeartbeats 4000000 in
set_option maxRecDepth 100000 in
theorem kX13_isSymbol (l : Launch) (n0 : Nat) (g0 : n0 < 1) (p1 : Int32) : Kon 1 l yX13_isSymbol cX13_isSymbol 2 (some .boolean) 0 0 0 0 (fun ad => [.ref (ad 26 n0), .int p1]) rvI (fun μ => fX13_isSymbol n0 p1 μ) := by
  refine kon_of (by decide) (fun _ => Nat.le_of_ble_eq_true rfl) (fun X r0 μ hXl hXn V C E => ?_)
  have hN : ∀ i : Nat, i < 2 → i < xn X := fun i h => hXn.symm ▸ h
  have R0 := fen_rm E
  show G X r0 0 0 μ 0 [(0, .ref (xa X 26 n0)), (1, .int p1)] [] (fX13_isSymbol n0 p1 μ)
  unfold fX13_isSymbol
  refine g_jn (P := fun j33 => ∀ (μ1 : Mem) (x2 : Int32), G X r0 0 0 μ1 33 [] [.int x2] (j33 μ1 x2)) ?_ (fun j33 hj33 => ?_)
  · intro μ1 x2
    exact s_zret C E dX13_isSymbol_33
  refine g_jn (P := fun j32 => ∀ (μ3 : Mem), G X r0 0 0 μ3 32 [] [] (j32 μ3)) ?_ (fun j32 hj32 => ?_)
  · intro μ3
    refine s_iconst (v := (0 : Int32)) C dX13_isSymbol_32 (by decide) ?_
    exact g_sub [] rfl (hj33 μ3 (0 : Int32))
  refine s_aload_n C dX13_isSymbol_0 rfl 0 rfl ?_
  refine s_getI C (fgX13_490_26 (Nat.le_trans (by decide) V)) g0 dX13_isSymbol_1 ?_
  refine s_if_ne (tgt := 32) C dX13_isSymbol_4 (by decide) (fun c4 => ?_) (fun c4 => ?_)
  ·
    exact g_sub [] rfl (hj32 μ)
  ·
    refine s_aload_n C dX13_isSymbol_7 rfl 0 rfl ?_
    refine s_getI C (fgX13_481_26 (Nat.le_trans (by decide) V)) g0 dX13_isSymbol_8 ?_
    refine s_iconst (v := (3 : Int32)) C dX13_isSymbol_11 (by decide) ?_
    refine s_icmp_ne (tgt := 32) C dX13_isSymbol_12 (by decide) (fun c5 => ?_) (fun c5 => ?_)
    ·
      exact g_sub [] rfl (hj32 μ)
    ·
      refine s_aload_n C dX13_isSymbol_15 rfl 0 rfl ?_
      refine s_getF C (fgX13_50_26 (Nat.le_trans (by decide) V)) g0 dX13_isSymbol_16 ?_
      refine s_aload_n C dX13_isSymbol_19 rfl 0 rfl ?_
      refine s_getI C (fgX13_478_26 (Nat.le_trans (by decide) V)) g0 dX13_isSymbol_20 ?_
      refine s_iald C (ag28 (Nat.le_trans (by decide) V)) (by decide) dX13_isSymbol_23 ?_
      refine s_iload_n C dX13_isSymbol_24 rfl 1 rfl ?_
      refine s_icmp_ne (tgt := 32) C dX13_isSymbol_25 (by decide) (fun c6 => ?_) (fun c6 => ?_)
      ·
        exact g_sub [] rfl (hj32 μ)
      ·
        refine s_iconst (v := (1 : Int32)) C dX13_isSymbol_28 (by decide) ?_
        refine s_goto (tgt := 33) C dX13_isSymbol_29 (by decide) ?_
        exact g_sub [] rfl (hj33 μ (1 : Int32))
/-! PinEnginesModel.isWord(Ljava/lang/String;)Z -/
def fX13_isWord (fu : Nat) (n0 : Nat) (n1 : Nat) (μ : Mem) : Option (Int32 × Mem) :=
  jn (fun (μ1 : Mem) (x2 : Int32) =>
    jn (lp (fun _ _ _ => none) fu (fun j39 (μ3 : Mem) (x4 : Int32) (x5 : Int32) =>
      jn (fun (μ6 : Mem) (x7 : Int32) =>
        ckZ x7 (some (x7, μ6))
      ) fun j82 =>
      if x4 = 0 then (
        j82 μ3 x4
      ) else (
        bnd (fJ0_length_8abf5 n1 μ3) fun x10 μ9 =>
        if x10 ≤ x5 then (
          j82 μ9 x4
        ) else (
          jn (fun (μ12 : Mem) (x13 : Int32) (x14 : Int32) =>
            nm (x13 + (1 : Int32)) fun x15 =>
            j39 μ12 x14 x15
          ) fun j75 =>
          bnd (fJ0_charAt_5068e n1 x5 μ9) fun x17 μ16 =>
          ckI ((μ16.1 26 n0 24) + x5) (mil.getD 7 0) <|
          if ¬ x17 = (μ16.1 28 7 ((μ16.1 26 n0 24) + x5).toNatClampNeg) then (
            j75 μ16 x5 (0 : Int32)
          ) else (
            j75 μ16 x5 (1 : Int32)
          )
        )
      )
    )) fun j39 =>
    j39 μ1 x2 (0 : Int32)
  ) fun j36 =>
  jn (fun (μ19 : Mem) =>
    j36 μ19 (0 : Int32)
  ) fun j35 =>
  if ¬ (μ.1 26 n0 26) = 0 then (
    j35 μ
  ) else (
    if ¬ (μ.1 26 n0 25) = (1 : Int32) then (
      j35 μ
    ) else (
      bnd (fJ0_length_8abf5 n1 μ) fun x23 μ22 =>
      if ¬ x23 = ((μ22.1 26 n0 23) - (μ22.1 26 n0 24)) then (
        j35 μ22
      ) else (
        j36 μ22 (1 : Int32)
      )
    )
  )
set_option maxHeartbeats 4000000 in
set_option maxRecDepth 100000 in
theorem kX13_isWord (l : Launch) (fu : Nat) (n0 : Nat) (g0 : n0 < 1) (n1 : Nat) (g1 : n1 < 70) : Kon 1 l yX13_isWord cX13_isWord 4 (some .boolean) 4 85 0 0 (fun ad => [.ref (ad 26 n0), .ref (ad 51 n1)]) rvI (fun μ => fX13_isWord fu n0 n1 μ) := by
  refine kon_of (by decide) (fun _ => Nat.le_of_ble_eq_true rfl) (fun X r0 μ hXl hXn V C E => ?_)
  have hN : ∀ i : Nat, i < 4 → i < xn X := fun i h => hXn.symm ▸ h
  have R0 := fen_rm E
  show G X r0 0 0 μ 0 [(0, .ref (xa X 26 n0)), (1, .ref (xa X 51 n1))] [] (fX13_isWord fu n0 n1 μ)
  unfold fX13_isWord
  refine g_jn (P := fun j36 => ∀ (μ1 : Mem) (x2 : Int32), G X r0 0 0 μ1 36 [(0, .ref (xa X 26 n0)), (1, .ref (xa X 51 n1))] [.int x2] (j36 μ1 x2)) ?_ (fun j36 hj36 => ?_)
  · intro μ1 x2
    refine g_jl (P := fun j39 => ∀ (μ3 : Mem) (x4 : Int32) (x5 : Int32), G X r0 0 0 μ3 39 [(0, .ref (xa X 26 n0)), (1, .ref (xa X 51 n1)), (2, .int x4), (3, .int x5)] [] (j39 μ3 x4 x5)) (fun _ _ _ => g_none) (fun j39 hj39 => ?_) (fun j39 hj39 => ?_)
    · intro μ3 x4 x5
      refine g_jn (P := fun j82 => ∀ (μ6 : Mem) (x7 : Int32), G X r0 0 0 μ6 82 [(2, .int x7)] [] (j82 μ6 x7)) ?_ (fun j82 hj82 => ?_)
      · intro μ6 x7
        refine s_iload_n C dX13_isWord_82 rfl 0 rfl ?_
        exact s_zret C E dX13_isWord_83
      refine s_iload_n C dX13_isWord_39 rfl 2 rfl ?_
      refine s_if_eq (tgt := 82) C dX13_isWord_40 (by decide) (fun c8 => ?_) (fun c8 => ?_)
      ·
        exact g_sub [2] rfl (hj82 μ3 x4)
      ·
        refine s_iload_n C dX13_isWord_43 rfl 3 rfl ?_
        refine s_aload_n C dX13_isWord_44 rfl 1 rfl ?_
        refine s_callT C R0 (kJ0_length_8abf5 (xl X) n1 g1) (Nat.le_trans (by decide) V) mmJ0_length_8abf5 miJ0_length_8abf5 q2674 rfl g1 rfl rfl rfl (Nat.le_of_ble_eq_true rfl) ⟨Nat.le_of_ble_eq_true rfl, Nat.le_of_ble_eq_true rfl, Nat.le_of_ble_eq_true rfl, Nat.le_of_ble_eq_true rfl⟩ dX13_isWord_45 (fun x10 μ9 => ?_)
        refine g_st (st' := [.int x10, .int x5]) rfl ?_
        refine s_icmp_ge (tgt := 82) C dX13_isWord_48 (by decide) (fun c11 => ?_) (fun c11 => ?_)
        ·
          exact g_sub [2] rfl (hj82 μ9 x4)
        ·
          refine g_jn (P := fun j75 => ∀ (μ12 : Mem) (x13 : Int32) (x14 : Int32), G X r0 0 0 μ12 75 [(0, .ref (xa X 26 n0)), (1, .ref (xa X 51 n1)), (3, .int x13)] [.int x14] (j75 μ12 x13 x14)) ?_ (fun j75 hj75 => ?_)
          · intro μ12 x13 x14
            refine s_istore_n (L' := [(2, .int x14), (0, .ref (xa X 26 n0)), (1, .ref (xa X 51 n1)), (3, .int x13)]) C dX13_isWord_75 rfl (hN 2 (by decide)) rfl ?_
            refine g_nmQ (fun x15 ex15 => ?_)
            refine s_iinc (v := x15) (j := 3) (L' := [(3, .int x15), (2, .int x14), (0, .ref (xa X 26 n0)), (1, .ref (xa X 51 n1))]) C dX13_isWord_76 rfl (by rw [ex15]; rfl) (hN 3 (by decide)) rfl ?_
            refine s_goto (tgt := 39) C dX13_isWord_79 (by decide) ?_
            exact g_sub [2, 3, 1, 0] rfl (hj39 μ12 x14 x15)
          refine s_aload_n C dX13_isWord_51 rfl 1 rfl ?_
          refine s_iload_n C dX13_isWord_52 rfl 3 rfl ?_
          refine s_callT C R0 (kJ0_charAt_5068e (xl X) n1 g1 x5) (Nat.le_trans (by decide) V) mmJ0_charAt_5068e miJ0_charAt_5068e q2675 rfl g1 rfl rfl rfl (Nat.le_of_ble_eq_true rfl) ⟨Nat.le_of_ble_eq_true rfl, Nat.le_of_ble_eq_true rfl, Nat.le_of_ble_eq_true rfl, Nat.le_of_ble_eq_true rfl⟩ dX13_isWord_53 (fun x17 μ16 => ?_)
          refine g_st (st' := [.int x17]) rfl ?_
          refine s_aload_n C dX13_isWord_56 rfl 0 rfl ?_
          refine s_getF C (fgX13_50_26 (Nat.le_trans (by decide) V)) g0 dX13_isWord_57 ?_
          refine s_aload_n C dX13_isWord_60 rfl 0 rfl ?_
          refine s_getI C (fgX13_478_26 (Nat.le_trans (by decide) V)) g0 dX13_isWord_61 ?_
          refine s_iload_n C dX13_isWord_64 rfl 3 rfl ?_
          refine s_iadd C dX13_isWord_65 ?_
          refine s_iald C (ag28 (Nat.le_trans (by decide) V)) (by decide) dX13_isWord_66 ?_
          refine s_icmp_ne (tgt := 74) C dX13_isWord_67 (by decide) (fun c18 => ?_) (fun c18 => ?_)
          ·
            refine s_iconst (v := (0 : Int32)) C dX13_isWord_74 (by decide) ?_
            exact g_sub [0, 1, 3] rfl (hj75 μ16 x5 (0 : Int32))
          ·
            refine s_iconst (v := (1 : Int32)) C dX13_isWord_70 (by decide) ?_
            refine s_goto (tgt := 75) C dX13_isWord_71 (by decide) ?_
            exact g_sub [0, 1, 3] rfl (hj75 μ16 x5 (1 : Int32))
    refine s_istore_n (L' := [(2, .int x2), (0, .ref (xa X 26 n0)), (1, .ref (xa X 51 n1))]) C dX13_isWord_36 rfl (hN 2 (by decide)) rfl ?_
    refine s_iconst (v := (0 : Int32)) C dX13_isWord_37 (by decide) ?_
    refine s_istore_n (L' := [(3, .int (0 : Int32)), (2, .int x2), (0, .ref (xa X 26 n0)), (1, .ref (xa X 51 n1))]) C dX13_isWord_38 rfl (hN 3 (by decide)) rfl ?_
    exact g_sub [2, 3, 1, 0] rfl (hj39 μ1 x2 (0 : Int32))
  refine g_jn (P := fun j35 => ∀ (μ19 : Mem), G X r0 0 0 μ19 35 [(0, .ref (xa X 26 n0)), (1, .ref (xa X 51 n1))] [] (j35 μ19)) ?_ (fun j35 hj35 => ?_)
  · intro μ19
    refine s_iconst (v := (0 : Int32)) C dX13_isWord_35 (by decide) ?_
    exact g_sub [0, 1] rfl (hj36 μ19 (0 : Int32))
  refine s_aload_n C dX13_isWord_0 rfl 0 rfl ?_
  refine s_getI C (fgX13_490_26 (Nat.le_trans (by decide) V)) g0 dX13_isWord_1 ?_
  refine s_if_ne (tgt := 35) C dX13_isWord_4 (by decide) (fun c20 => ?_) (fun c20 => ?_)
  ·
    exact g_sub [0, 1] rfl (hj35 μ)
  ·
    refine s_aload_n C dX13_isWord_7 rfl 0 rfl ?_
    refine s_getI C (fgX13_481_26 (Nat.le_trans (by decide) V)) g0 dX13_isWord_8 ?_
    refine s_iconst (v := (1 : Int32)) C dX13_isWord_11 (by decide) ?_
    refine s_icmp_ne (tgt := 35) C dX13_isWord_12 (by decide) (fun c21 => ?_) (fun c21 => ?_)
    ·
      exact g_sub [0, 1] rfl (hj35 μ)
    ·
      refine s_aload_n C dX13_isWord_15 rfl 1 rfl ?_
      refine s_callT C R0 (kJ0_length_8abf5 (xl X) n1 g1) (Nat.le_trans (by decide) V) mmJ0_length_8abf5 miJ0_length_8abf5 q2674 rfl g1 rfl rfl rfl (Nat.le_of_ble_eq_true rfl) ⟨Nat.le_of_ble_eq_true rfl, Nat.le_of_ble_eq_true rfl, Nat.le_of_ble_eq_true rfl, Nat.le_of_ble_eq_true rfl⟩ dX13_isWord_16 (fun x23 μ22 => ?_)
      refine g_st (st' := [.int x23]) rfl ?_
      refine s_aload_n C dX13_isWord_19 rfl 0 rfl ?_
      refine s_getI C (fgX13_475_26 (Nat.le_trans (by decide) V)) g0 dX13_isWord_20 ?_
      refine s_aload_n C dX13_isWord_23 rfl 0 rfl ?_
      refine s_getI C (fgX13_478_26 (Nat.le_trans (by decide) V)) g0 dX13_isWord_24 ?_
      refine s_isub C dX13_isWord_27 ?_
      refine s_icmp_ne (tgt := 35) C dX13_isWord_28 (by decide) (fun c24 => ?_) (fun c24 => ?_)
      ·
        exact g_sub [0, 1] rfl (hj35 μ22)
      ·
        refine s_iconst (v := (1 : Int32)) C dX13_isWord_31 (by decide) ?_
        refine s_goto (tgt := 36) C dX13_isWord_32 (by decide) ?_
        exact g_sub [0, 1] rfl (hj36 μ22 (1 : Int32))
/-! PinEnginesModel.accept(Ljava/lang/String;)Z -/
def fX13_accept (fu : Nat) (n0 : Nat) (n1 : Nat) (μ : Mem) : Option (Int32 × Mem) :=
  jn (fun (μ1 : Mem) (x2 : Int32) =>
    ckZ x2 (some (x2, μ1))
  ) fun j14 =>
  bnd (fX13_isWord fu n0 n1 μ) fun x4 μ3 =>
  if x4 = 0 then (
    j14 μ3 x4
  ) else (
    bnd (fX13_scan fu n0 μ3) fun _ μ6 =>
    j14 μ6 x4
  )
set_option maxHeartbeats 4000000 in
set_option maxRecDepth 100000 in
theorem kX13_accept (l : Launch) (fu : Nat) (n0 : Nat) (g0 : n0 < 1) (n1 : Nat) (g1 : n1 < 70) : Kon 1 l yX13_accept cX13_accept 3 (some .boolean) 5 108 0 0 (fun ad => [.ref (ad 26 n0), .ref (ad 51 n1)]) rvI (fun μ => fX13_accept fu n0 n1 μ) := by
  refine kon_of (by decide) (fun _ => Nat.le_of_ble_eq_true rfl) (fun X r0 μ hXl hXn V C E => ?_)
  have hN : ∀ i : Nat, i < 3 → i < xn X := fun i h => hXn.symm ▸ h
  have R0 := fen_rm E
  show G X r0 0 0 μ 0 [(0, .ref (xa X 26 n0)), (1, .ref (xa X 51 n1))] [] (fX13_accept fu n0 n1 μ)
  unfold fX13_accept
  refine g_jn (P := fun j14 => ∀ (μ1 : Mem) (x2 : Int32), G X r0 0 0 μ1 14 [(2, .int x2)] [] (j14 μ1 x2)) ?_ (fun j14 hj14 => ?_)
  · intro μ1 x2
    refine s_iload_n C dX13_accept_14 rfl 0 rfl ?_
    exact s_zret C E dX13_accept_15
  refine s_aload_n C dX13_accept_0 rfl 0 rfl ?_
  refine s_aload_n C dX13_accept_1 rfl 1 rfl ?_
  refine s_callV C R0 (kX13_isWord (xl X) fu n0 g0 n1 g1) (Nat.le_trans (by decide) V) mmX13_isWord miX13_isWord q2670 (rc26 (Nat.le_trans (by decide) V)) g0 rfl rfl rfl (Nat.le_of_ble_eq_true rfl) ⟨Nat.le_of_ble_eq_true rfl, Nat.le_of_ble_eq_true rfl, Nat.le_of_ble_eq_true rfl, Nat.le_of_ble_eq_true rfl⟩ dX13_accept_2 (fun x4 μ3 => ?_)
  refine g_st (st' := [.int x4]) rfl ?_
  refine s_istore_n (L' := [(2, .int x4), (0, .ref (xa X 26 n0)), (1, .ref (xa X 51 n1))]) C dX13_accept_5 rfl (hN 2 (by decide)) rfl ?_
  refine s_iload_n C dX13_accept_6 rfl 0 rfl ?_
  refine s_if_eq (tgt := 14) C dX13_accept_7 (by decide) (fun c5 => ?_) (fun c5 => ?_)
  ·
    exact g_sub [0] rfl (hj14 μ3 x4)
  ·
    refine s_aload_n C dX13_accept_10 rfl 1 rfl ?_
    refine s_callV C R0 (kX13_scan (xl X) fu n0 g0) (Nat.le_trans (by decide) V) mmX13_scan miX13_scan q2646 (rc26 (Nat.le_trans (by decide) V)) g0 rfl rfl rfl (Nat.le_of_ble_eq_true rfl) ⟨Nat.le_of_ble_eq_true rfl, Nat.le_of_ble_eq_true rfl, Nat.le_of_ble_eq_true rfl, Nat.le_of_ble_eq_true rfl⟩ dX13_accept_11 (fun _ μ6 => ?_)
    refine g_st (st' := []) rfl ?_
    exact g_sub [0] rfl (hj14 μ6 x4)
/-! PinEnginesModel.expectWord(Ljava/lang/String;)V -/
def fX13_expectWord (fu : Nat) (n0 : Nat) (n1 : Nat) (μ : Mem) : Option (Unit × Mem) :=
  bnd (fX13_isWord fu n0 n1 μ) fun x2 μ1 =>
  bnd (fX13_check n0 x2 (1 : Int32) μ1) fun _ μ3 =>
  bnd (fX13_advance fu n0 μ3) fun _ μ4 =>
  some ((), μ4)
set_option maxHeartbeats 4000000 in
set_option maxRecDepth 100000 in
theorem kX13_expectWord (l : Launch) (fu : Nat) (n0 : Nat) (g0 : n0 < 1) (n1 : Nat) (g1 : n1 < 70) : Kon 1 l yX13_expectWord cX13_expectWord 2 (none) 5 108 0 0 (fun ad => [.ref (ad 26 n0), .ref (ad 51 n1)]) rvV (fun μ => fX13_expectWord fu n0 n1 μ) := by
  refine kon_of (by decide) (fun _ => Nat.le_of_ble_eq_true rfl) (fun X r0 μ hXl hXn V C E => ?_)
  have hN : ∀ i : Nat, i < 2 → i < xn X := fun i h => hXn.symm ▸ h
  have R0 := fen_rm E
  show G X r0 0 0 μ 0 [(0, .ref (xa X 26 n0)), (1, .ref (xa X 51 n1))] [] (fX13_expectWord fu n0 n1 μ)
  unfold fX13_expectWord
  refine s_aload_n C dX13_expectWord_0 rfl 0 rfl ?_
  refine s_aload_n C dX13_expectWord_1 rfl 0 rfl ?_
  refine s_aload_n C dX13_expectWord_2 rfl 1 rfl ?_
  refine s_callV C R0 (kX13_isWord (xl X) fu n0 g0 n1 g1) (Nat.le_trans (by decide) V) mmX13_isWord miX13_isWord q2670 (rc26 (Nat.le_trans (by decide) V)) g0 rfl rfl rfl (Nat.le_of_ble_eq_true rfl) ⟨Nat.le_of_ble_eq_true rfl, Nat.le_of_ble_eq_true rfl, Nat.le_of_ble_eq_true rfl, Nat.le_of_ble_eq_true rfl⟩ dX13_expectWord_3 (fun x2 μ1 => ?_)
  refine g_st (st' := [.int x2, .ref (xa X 26 n0)]) rfl ?_
  refine s_iconst (v := (1 : Int32)) C dX13_expectWord_6 (by decide) ?_
  refine s_callV C R0 (kX13_check (xl X) n0 g0 x2 (1 : Int32)) (Nat.le_trans (by decide) V) mmX13_check miX13_check q2680 (rc26 (Nat.le_trans (by decide) V)) g0 rfl rfl rfl (Nat.le_of_ble_eq_true rfl) ⟨Nat.le_of_ble_eq_true rfl, Nat.le_of_ble_eq_true rfl, Nat.le_of_ble_eq_true rfl, Nat.le_of_ble_eq_true rfl⟩ dX13_expectWord_7 (fun _ μ3 => ?_)
  refine g_st (st' := []) rfl ?_
  refine s_aload_n C dX13_expectWord_10 rfl 0 rfl ?_
  refine s_callV C R0 (kX13_advance (xl X) fu n0 g0) (Nat.le_trans (by decide) V) mmX13_advance miX13_advance q2692 (rc26 (Nat.le_trans (by decide) V)) g0 rfl rfl rfl (Nat.le_of_ble_eq_true rfl) ⟨Nat.le_of_ble_eq_true rfl, Nat.le_of_ble_eq_true rfl, Nat.le_of_ble_eq_true rfl, Nat.le_of_ble_eq_true rfl⟩ dX13_expectWord_11 (fun _ μ4 => ?_)
  refine g_st (st' := []) rfl ?_
  exact s_vret C E dX13_expectWord_14
/-! PinEnginesModel.expect(I)V -/
def fX13_expect (fu : Nat) (n0 : Nat) (p1 : Int32) (μ : Mem) : Option (Unit × Mem) :=
  bnd (fX13_isSymbol n0 p1 μ) fun x2 μ1 =>
  bnd (fX13_check n0 x2 (1 : Int32) μ1) fun _ μ3 =>
  bnd (fX13_advance fu n0 μ3) fun _ μ4 =>
  some ((), μ4)
set_option maxHeartbeats 4000000 in
set_option maxRecDepth 100000 in
theorem kX13_expect (l : Launch) (fu : Nat) (n0 : Nat) (g0 : n0 < 1) (p1 : Int32) : Kon 1 l yX13_expect cX13_expect 2 (none) 4 82 0 0 (fun ad => [.ref (ad 26 n0), .int p1]) rvV (fun μ => fX13_expect fu n0 p1 μ) := by
  refine kon_of (by decide) (fun _ => Nat.le_of_ble_eq_true rfl) (fun X r0 μ hXl hXn V C E => ?_)
  have hN : ∀ i : Nat, i < 2 → i < xn X := fun i h => hXn.symm ▸ h
  have R0 := fen_rm E
  show G X r0 0 0 μ 0 [(0, .ref (xa X 26 n0)), (1, .int p1)] [] (fX13_expect fu n0 p1 μ)
  unfold fX13_expect
  refine s_aload_n C dX13_expect_0 rfl 0 rfl ?_
  refine s_aload_n C dX13_expect_1 rfl 0 rfl ?_
  refine s_iload_n C dX13_expect_2 rfl 1 rfl ?_
  refine s_callV C R0 (kX13_isSymbol (xl X) n0 g0 p1) (Nat.le_trans (by decide) V) mmX13_isSymbol miX13_isSymbol q2768 (rc26 (Nat.le_trans (by decide) V)) g0 rfl rfl rfl (Nat.le_of_ble_eq_true rfl) ⟨Nat.le_of_ble_eq_true rfl, Nat.le_of_ble_eq_true rfl, Nat.le_of_ble_eq_true rfl, Nat.le_of_ble_eq_true rfl⟩ dX13_expect_3 (fun x2 μ1 => ?_)
  refine g_st (st' := [.int x2, .ref (xa X 26 n0)]) rfl ?_
  refine s_iconst (v := (1 : Int32)) C dX13_expect_6 (by decide) ?_
  refine s_callV C R0 (kX13_check (xl X) n0 g0 x2 (1 : Int32)) (Nat.le_trans (by decide) V) mmX13_check miX13_check q2680 (rc26 (Nat.le_trans (by decide) V)) g0 rfl rfl rfl (Nat.le_of_ble_eq_true rfl) ⟨Nat.le_of_ble_eq_true rfl, Nat.le_of_ble_eq_true rfl, Nat.le_of_ble_eq_true rfl, Nat.le_of_ble_eq_true rfl⟩ dX13_expect_7 (fun _ μ3 => ?_)
  refine g_st (st' := []) rfl ?_
  refine s_aload_n C dX13_expect_10 rfl 0 rfl ?_
  refine s_callV C R0 (kX13_advance (xl X) fu n0 g0) (Nat.le_trans (by decide) V) mmX13_advance miX13_advance q2692 (rc26 (Nat.le_trans (by decide) V)) g0 rfl rfl rfl (Nat.le_of_ble_eq_true rfl) ⟨Nat.le_of_ble_eq_true rfl, Nat.le_of_ble_eq_true rfl, Nat.le_of_ble_eq_true rfl, Nat.le_of_ble_eq_true rfl⟩ dX13_expect_11 (fun _ μ4 => ?_)
  refine g_st (st' := []) rfl ?_
  exact s_vret C E dX13_expect_14
/-! PinEnginesModel.value()I -/
def fX13_value (fu : Nat) (n0 : Nat) (μ : Mem) : Option (Int32 × Mem) :=
  jn (lp (fun _ _ _ => none) fu (fun j7 (μ1 : Mem) (x2 : Int32) (x3 : Int32) =>
    jn (fun (μ4 : Mem) (x5 : Int32) =>
      some (x5, μ4)
    ) fun j50 =>
    if (μ1.1 26 n0 23) ≤ x3 then (
      j50 μ1 x2
    ) else (
      if ¬ (μ1.1 26 n0 25) = (2 : Int32) then (
        j50 μ1 x2
      ) else (
        ckI x3 (mil.getD 7 0) <|
        nm ((if ((((10 : Int32) * x2) + (μ1.1 28 7 x3.toNatClampNeg)) - (48 : Int32)) < (1000000 : Int32) then ((((10 : Int32) * x2) + (μ1.1 28 7 x3.toNatClampNeg)) - (48 : Int32)) else (1000000 : Int32))) fun x8 =>
        nm (x3 + (1 : Int32)) fun x9 =>
        j7 μ1 x8 x9
      )
    )
  )) fun j7 =>
  nm ((μ.1 26 n0 24)) fun x10 =>
  j7 μ (0 : Int32) x10
set_option maxHeartbeats 4000000 in
set_option maxRecDepth 100000 in
theorem kX13_value (l : Launch) (fu : Nat) (n0 : Nat) (g0 : n0 < 1) : Kon 1 l yX13_value cX13_value 3 (some .int) 1 24 0 0 (fun ad => [.ref (ad 26 n0)]) rvI (fun μ => fX13_value fu n0 μ) := by
  refine kon_of (by decide) (fun _ => Nat.le_of_ble_eq_true rfl) (fun X r0 μ hXl hXn V C E => ?_)
  have hN : ∀ i : Nat, i < 3 → i < xn X := fun i h => hXn.symm ▸ h
  have R0 := fen_rm E
  show G X r0 0 0 μ 0 [(0, .ref (xa X 26 n0))] [] (fX13_value fu n0 μ)
  unfold fX13_value
  refine g_jl (P := fun j7 => ∀ (μ1 : Mem) (x2 : Int32) (x3 : Int32), G X r0 0 0 μ1 7 [(0, .ref (xa X 26 n0)), (1, .int x2), (2, .int x3)] [] (j7 μ1 x2 x3)) (fun _ _ _ => g_none) (fun j7 hj7 => ?_) (fun j7 hj7 => ?_)
  · intro μ1 x2 x3
    refine g_jn (P := fun j50 => ∀ (μ4 : Mem) (x5 : Int32), G X r0 0 0 μ4 50 [(1, .int x5)] [] (j50 μ4 x5)) ?_ (fun j50 hj50 => ?_)
    · intro μ4 x5
      refine s_iload_n C dX13_value_50 rfl 0 rfl ?_
      exact s_iret C E dX13_value_51
    refine s_iload_n C dX13_value_7 rfl 2 rfl ?_
    refine s_aload_n C dX13_value_8 rfl 0 rfl ?_
    refine s_getI C (fgX13_475_26 (Nat.le_trans (by decide) V)) g0 dX13_value_9 ?_
    refine s_icmp_ge (tgt := 50) C dX13_value_12 (by decide) (fun c6 => ?_) (fun c6 => ?_)
    ·
      exact g_sub [1] rfl (hj50 μ1 x2)
    ·
      refine s_aload_n C dX13_value_15 rfl 0 rfl ?_
      refine s_getI C (fgX13_481_26 (Nat.le_trans (by decide) V)) g0 dX13_value_16 ?_
      refine s_iconst (v := (2 : Int32)) C dX13_value_19 (by decide) ?_
      refine s_icmp_ne (tgt := 50) C dX13_value_20 (by decide) (fun c7 => ?_) (fun c7 => ?_)
      ·
        exact g_sub [1] rfl (hj50 μ1 x2)
      ·
        refine s_ldcw (v := (1000000 : Int32)) C q2424 dX13_value_23 ?_
        refine s_bipush (v := (10 : Int32)) C dX13_value_26 (by decide) ?_
        refine s_iload_n C dX13_value_28 rfl 1 rfl ?_
        refine s_imul C dX13_value_29 ?_
        refine s_aload_n C dX13_value_30 rfl 0 rfl ?_
        refine s_getF C (fgX13_50_26 (Nat.le_trans (by decide) V)) g0 dX13_value_31 ?_
        refine s_iload_n C dX13_value_34 rfl 2 rfl ?_
        refine s_iald C (ag28 (Nat.le_trans (by decide) V)) (by decide) dX13_value_35 ?_
        refine s_iadd C dX13_value_36 ?_
        refine s_bipush (v := (48 : Int32)) C dX13_value_37 (by decide) ?_
        refine s_isub C dX13_value_39 ?_
        refine s_mmin C R0 q2512 q726 q172 q727 ⟨Nat.le_of_ble_eq_true rfl, Nat.le_of_ble_eq_true rfl, Nat.le_of_ble_eq_true rfl, Nat.le_of_ble_eq_true rfl⟩ dX13_value_40 ?_
        refine g_nmI (fun x8 => ?_)
        refine s_istore_n (L' := [(1, .int x8), (0, .ref (xa X 26 n0)), (2, .int x3)]) C dX13_value_43 rfl (hN 1 (by decide)) rfl ?_
        refine g_nmQ (fun x9 ex9 => ?_)
        refine s_iinc (v := x9) (j := 2) (L' := [(2, .int x9), (1, .int x8), (0, .ref (xa X 26 n0))]) C dX13_value_44 rfl (by rw [ex9]; rfl) (hN 2 (by decide)) rfl ?_
        refine s_goto (tgt := 7) C dX13_value_47 (by decide) ?_
        exact g_sub [2, 1, 0] rfl (hj7 μ1 x8 x9)
  refine s_iconst (v := (0 : Int32)) C dX13_value_0 (by decide) ?_
  refine s_istore_n (L' := [(1, .int (0 : Int32)), (0, .ref (xa X 26 n0))]) C dX13_value_1 rfl (hN 1 (by decide)) rfl ?_
  refine s_aload_n C dX13_value_2 rfl 1 rfl ?_
  refine s_getI C (fgX13_478_26 (Nat.le_trans (by decide) V)) g0 dX13_value_3 ?_
  refine g_nmI (fun x10 => ?_)
  refine s_istore_n (L' := [(2, .int x10), (1, .int (0 : Int32)), (0, .ref (xa X 26 n0))]) C dX13_value_6 rfl (hN 2 (by decide)) rfl ?_
  exact g_sub [2, 1, 0] rfl (hj7 μ (0 : Int32) x10)
/-! PinEnginesModel.number(II)I -/
def fX13_number (fu : Nat) (n0 : Nat) (p1 : Int32) (p2 : Int32) (μ : Mem) : Option (Int32 × Mem) :=
  jn (fun (μ1 : Mem) (a2 : Nat) (x4 : Int32) =>
    jn (fun (μ5 : Mem) (x6 : Int32) (a7 : Nat) (x9 : Int32) =>
      jn (fun (μ10 : Mem) (x11 : Int32) =>
        some (x11, μ10)
      ) fun j72 =>
      bnd (fX13_check a7 x9 (2 : Int32) μ5) fun _ μ12 =>
      bnd (fX13_advance fu n0 μ12) fun _ μ13 =>
      if ¬ (μ13.1 26 n0 26) = 0 then (
        j72 μ13 p1
      ) else (
        j72 μ13 x6
      )
    ) fun j52 =>
    jn (fun (μ15 : Mem) (x16 : Int32) (a17 : Nat) =>
      j52 μ15 x16 a17 (1 : Int32)
    ) fun j47 =>
    bnd (fX13_check a2 x4 (1 : Int32) μ1) fun _ μ19 =>
    bnd (fX13_value fu n0 μ19) fun x21 μ20 =>
    if ¬ (μ20.1 26 n0 26) = 0 then (
      j47 μ20 x21 n0
    ) else (
      bnd (fX13_inRange x21 p1 p2 μ20) fun x24 μ23 =>
      if x24 = 0 then (
        j52 μ23 x21 n0 (0 : Int32)
      ) else (
        j47 μ23 x21 n0
      )
    )
  ) fun j21 =>
  jn (fun (μ26 : Mem) (a27 : Nat) =>
    j21 μ26 a27 (1 : Int32)
  ) fun j16 =>
  if ¬ (μ.1 26 n0 26) = 0 then (
    j16 μ n0
  ) else (
    if ¬ (μ.1 26 n0 25) = (2 : Int32) then (
      j21 μ n0 (0 : Int32)
    ) else (
      j16 μ n0
    )
  )
set_option maxHeartbeats 4000000 in
set_option maxRecDepth 100000 in
theorem kX13_number (l : Launch) (fu : Nat) (n0 : Nat) (g0 : n0 < 1) (p1 : Int32) (p2 : Int32) : Kon 1 l yX13_number cX13_number 4 (some .int) 4 82 0 0 (fun ad => [.ref (ad 26 n0), .int p1, .int p2]) rvI (fun μ => fX13_number fu n0 p1 p2 μ) := by
  refine kon_of (by decide) (fun _ => Nat.le_of_ble_eq_true rfl) (fun X r0 μ hXl hXn V C E => ?_)
  have hN : ∀ i : Nat, i < 4 → i < xn X := fun i h => hXn.symm ▸ h
  have R0 := fen_rm E
  show G X r0 0 0 μ 0 [(0, .ref (xa X 26 n0)), (1, .int p1), (2, .int p2)] [] (fX13_number fu n0 p1 p2 μ)
  unfold fX13_number
  refine g_jn (P := fun j21 => ∀ (μ1 : Mem) (a2 : Nat) (x4 : Int32), a2 < 1 → G X r0 0 0 μ1 21 [(0, .ref (xa X 26 n0)), (1, .int p1), (2, .int p2)] [.int x4, .ref (xa X 26 a2)] (j21 μ1 a2 x4)) ?_ (fun j21 hj21 => ?_)
  · intro μ1 a2 x4 b3
    refine g_jn (P := fun j52 => ∀ (μ5 : Mem) (x6 : Int32) (a7 : Nat) (x9 : Int32), a7 < 1 → G X r0 0 0 μ5 52 [(0, .ref (xa X 26 n0)), (1, .int p1), (3, .int x6)] [.int x9, .ref (xa X 26 a7)] (j52 μ5 x6 a7 x9)) ?_ (fun j52 hj52 => ?_)
    · intro μ5 x6 a7 x9 b8
      refine g_jn (P := fun j72 => ∀ (μ10 : Mem) (x11 : Int32), G X r0 0 0 μ10 72 [] [.int x11] (j72 μ10 x11)) ?_ (fun j72 hj72 => ?_)
      · intro μ10 x11
        exact s_iret C E dX13_number_72
      refine s_iconst (v := (2 : Int32)) C dX13_number_52 (by decide) ?_
      refine s_callV C R0 (kX13_check (xl X) a7 b8 x9 (2 : Int32)) (Nat.le_trans (by decide) V) mmX13_check miX13_check q2680 (rc26 (Nat.le_trans (by decide) V)) b8 rfl rfl rfl (Nat.le_of_ble_eq_true rfl) ⟨Nat.le_of_ble_eq_true rfl, Nat.le_of_ble_eq_true rfl, Nat.le_of_ble_eq_true rfl, Nat.le_of_ble_eq_true rfl⟩ dX13_number_53 (fun _ μ12 => ?_)
      refine g_st (st' := []) rfl ?_
      refine s_aload_n C dX13_number_56 rfl 0 rfl ?_
      refine s_callV C R0 (kX13_advance (xl X) fu n0 g0) (Nat.le_trans (by decide) V) mmX13_advance miX13_advance q2692 (rc26 (Nat.le_trans (by decide) V)) g0 rfl rfl rfl (Nat.le_of_ble_eq_true rfl) ⟨Nat.le_of_ble_eq_true rfl, Nat.le_of_ble_eq_true rfl, Nat.le_of_ble_eq_true rfl, Nat.le_of_ble_eq_true rfl⟩ dX13_number_57 (fun _ μ13 => ?_)
      refine g_st (st' := []) rfl ?_
      refine s_aload_n C dX13_number_60 rfl 0 rfl ?_
      refine s_getI C (fgX13_490_26 (Nat.le_trans (by decide) V)) g0 dX13_number_61 ?_
      refine s_if_ne (tgt := 71) C dX13_number_64 (by decide) (fun c14 => ?_) (fun c14 => ?_)
      ·
        refine s_iload_n C dX13_number_71 rfl 1 rfl ?_
        exact g_sub [] rfl (hj72 μ13 p1)
      ·
        refine s_iload_n C dX13_number_67 rfl 2 rfl ?_
        refine s_goto (tgt := 72) C dX13_number_68 (by decide) ?_
        exact g_sub [] rfl (hj72 μ13 x6)
    refine g_jn (P := fun j47 => ∀ (μ15 : Mem) (x16 : Int32) (a17 : Nat), a17 < 1 → G X r0 0 0 μ15 47 [(0, .ref (xa X 26 n0)), (1, .int p1), (3, .int x16)] [.ref (xa X 26 a17)] (j47 μ15 x16 a17)) ?_ (fun j47 hj47 => ?_)
    · intro μ15 x16 a17 b18
      refine s_iconst (v := (1 : Int32)) C dX13_number_47 (by decide) ?_
      refine s_goto (tgt := 52) C dX13_number_48 (by decide) ?_
      exact g_sub [0, 1, 2] rfl (hj52 μ15 x16 a17 (1 : Int32) b18)
    refine s_iconst (v := (1 : Int32)) C dX13_number_21 (by decide) ?_
    refine s_callV C R0 (kX13_check (xl X) a2 b3 x4 (1 : Int32)) (Nat.le_trans (by decide) V) mmX13_check miX13_check q2680 (rc26 (Nat.le_trans (by decide) V)) b3 rfl rfl rfl (Nat.le_of_ble_eq_true rfl) ⟨Nat.le_of_ble_eq_true rfl, Nat.le_of_ble_eq_true rfl, Nat.le_of_ble_eq_true rfl, Nat.le_of_ble_eq_true rfl⟩ dX13_number_22 (fun _ μ19 => ?_)
    refine g_st (st' := []) rfl ?_
    refine s_aload_n C dX13_number_25 rfl 0 rfl ?_
    refine s_callV C R0 (kX13_value (xl X) fu n0 g0) (Nat.le_trans (by decide) V) mmX13_value miX13_value q2688 (rc26 (Nat.le_trans (by decide) V)) g0 rfl rfl rfl (Nat.le_of_ble_eq_true rfl) ⟨Nat.le_of_ble_eq_true rfl, Nat.le_of_ble_eq_true rfl, Nat.le_of_ble_eq_true rfl, Nat.le_of_ble_eq_true rfl⟩ dX13_number_26 (fun x21 μ20 => ?_)
    refine g_st (st' := [.int x21]) rfl ?_
    refine s_istore_n (L' := [(3, .int x21), (0, .ref (xa X 26 n0)), (1, .int p1), (2, .int p2)]) C dX13_number_29 rfl (hN 3 (by decide)) rfl ?_
    refine s_aload_n C dX13_number_30 rfl 1 rfl ?_
    refine s_aload_n C dX13_number_31 rfl 1 rfl ?_
    refine s_getI C (fgX13_490_26 (Nat.le_trans (by decide) V)) g0 dX13_number_32 ?_
    refine s_if_ne (tgt := 47) C dX13_number_35 (by decide) (fun c22 => ?_) (fun c22 => ?_)
    ·
      exact g_sub [1, 2, 0] rfl (hj47 μ20 x21 n0 g0)
    ·
      refine s_iload_n C dX13_number_38 rfl 0 rfl ?_
      refine s_iload_n C dX13_number_39 rfl 2 rfl ?_
      refine s_iload_n C dX13_number_40 rfl 3 rfl ?_
      refine s_callS C R0 (kX13_inRange (xl X) x21 p1 p2) (Nat.le_trans (by decide) V) mmX13_inRange q2257 q2256 rfl rfl rfl rfl (Nat.le_of_ble_eq_true rfl) ⟨Nat.le_of_ble_eq_true rfl, Nat.le_of_ble_eq_true rfl, Nat.le_of_ble_eq_true rfl, Nat.le_of_ble_eq_true rfl⟩ dX13_number_41 (fun x24 μ23 => ?_)
      refine g_st (st' := [.int x24, .ref (xa X 26 n0)]) rfl ?_
      refine s_if_eq (tgt := 51) C dX13_number_44 (by decide) (fun c25 => ?_) (fun c25 => ?_)
      ·
        refine s_iconst (v := (0 : Int32)) C dX13_number_51 (by decide) ?_
        exact g_sub [1, 2, 0] rfl (hj52 μ23 x21 n0 (0 : Int32) g0)
      ·
        exact g_sub [1, 2, 0] rfl (hj47 μ23 x21 n0 g0)
  refine g_jn (P := fun j16 => ∀ (μ26 : Mem) (a27 : Nat), a27 < 1 → G X r0 0 0 μ26 16 [(0, .ref (xa X 26 n0)), (1, .int p1), (2, .int p2)] [.ref (xa X 26 a27)] (j16 μ26 a27)) ?_ (fun j16 hj16 => ?_)
  · intro μ26 a27 b28
    refine s_iconst (v := (1 : Int32)) C dX13_number_16 (by decide) ?_
    refine s_goto (tgt := 21) C dX13_number_17 (by decide) ?_
    exact g_sub [0, 1, 2] rfl (hj21 μ26 a27 (1 : Int32) b28)
  refine s_aload_n C dX13_number_0 rfl 0 rfl ?_
  refine s_aload_n C dX13_number_1 rfl 0 rfl ?_
  refine s_getI C (fgX13_490_26 (Nat.le_trans (by decide) V)) g0 dX13_number_2 ?_
  refine s_if_ne (tgt := 16) C dX13_number_5 (by decide) (fun c29 => ?_) (fun c29 => ?_)
  ·
    exact g_sub [0, 1, 2] rfl (hj16 μ n0 g0)
  ·
    refine s_aload_n C dX13_number_8 rfl 0 rfl ?_
    refine s_getI C (fgX13_481_26 (Nat.le_trans (by decide) V)) g0 dX13_number_9 ?_
    refine s_iconst (v := (2 : Int32)) C dX13_number_12 (by decide) ?_
    refine s_icmp_ne (tgt := 20) C dX13_number_13 (by decide) (fun c30 => ?_) (fun c30 => ?_)
    ·
      refine s_iconst (v := (0 : Int32)) C dX13_number_20 (by decide) ?_
      exact g_sub [0, 1, 2] rfl (hj21 μ n0 (0 : Int32) g0)
    ·
      exact g_sub [0, 1, 2] rfl (hj16 μ n0 g0)
/-! PinEnginesModel.indexIn([Ljava/lang/String;)I -/
def fX13_indexIn (fu : Nat) (n0 : Nat) (n1 : Nat) (μ : Mem) : Option (Int32 × Mem) :=
  jn (lp (fun _ _ => none) fu (fun j2 (μ1 : Mem) (x2 : Int32) =>
    if (Int32.ofNat (stl.getD n1 0)) ≤ x2 then (
      some ((-1 : Int32), μ1)
    ) else (
      ckI x2 (stl.getD n1 0) <|
      bnd (fX13_isWord fu n0 (strAt n1 x2.toNatClampNeg) μ1) fun x6 μ5 =>
      if x6 = 0 then (
        nm (x2 + (1 : Int32)) fun x8 =>
        j2 μ5 x8
      ) else (
        some (x2, μ5)
      )
    )
  )) fun j2 =>
  j2 μ (0 : Int32)
set_option maxHeartbeats 4000000 in
set_option maxRecDepth 100000 in
theorem kX13_indexIn (l : Launch) (fu : Nat) (n0 : Nat) (g0 : n0 < 1) (n1 : Nat) (g1 : n1 < 5) : Kon 1 l yX13_indexIn cX13_indexIn 3 (some .int) 5 108 0 0 (fun ad => [.ref (ad 26 n0), .ref (ad 30 n1)]) rvI (fun μ => fX13_indexIn fu n0 n1 μ) := by
  refine kon_of (by decide) (fun _ => Nat.le_of_ble_eq_true rfl) (fun X r0 μ hXl hXn V C E => ?_)
  have hN : ∀ i : Nat, i < 3 → i < xn X := fun i h => hXn.symm ▸ h
  have R0 := fen_rm E
  show G X r0 0 0 μ 0 [(0, .ref (xa X 26 n0)), (1, .ref (xa X 30 n1))] [] (fX13_indexIn fu n0 n1 μ)
  unfold fX13_indexIn
  refine g_jl (P := fun j2 => ∀ (μ1 : Mem) (x2 : Int32), G X r0 0 0 μ1 2 [(0, .ref (xa X 26 n0)), (1, .ref (xa X 30 n1)), (2, .int x2)] [] (j2 μ1 x2)) (fun _ _ => g_none) (fun j2 hj2 => ?_) (fun j2 hj2 => ?_)
  · intro μ1 x2
    refine s_iload_n C dX13_indexIn_2 rfl 2 rfl ?_
    refine s_aload_n C dX13_indexIn_3 rfl 1 rfl ?_
    refine s_alen C (ag30 (Nat.le_trans (by decide) V)) (fun _ => rfl) g1 dX13_indexIn_4 ?_
    refine s_icmp_ge (tgt := 26) C dX13_indexIn_5 (by decide) (fun c3 => ?_) (fun c3 => ?_)
    ·
      refine s_iconst (v := (-1 : Int32)) C dX13_indexIn_26 (by decide) ?_
      exact s_iret C E dX13_indexIn_27
    ·
      refine s_aload_n C dX13_indexIn_8 rfl 0 rfl ?_
      refine s_aload_n C dX13_indexIn_9 rfl 1 rfl ?_
      refine s_iload_n C dX13_indexIn_10 rfl 2 rfl ?_
      refine s_aaldF C (ag30 (Nat.le_trans (by decide) V)) (fun _ => rfl) g1 dX13_indexIn_11 (fun c4 => ?_)
      refine s_callV C R0 (kX13_isWord (xl X) fu n0 g0 (strAt n1 x2.toNatClampNeg) (strAt_lt _ _)) (Nat.le_trans (by decide) V) mmX13_isWord miX13_isWord q2670 (rc26 (Nat.le_trans (by decide) V)) g0 rfl rfl rfl (Nat.le_of_ble_eq_true rfl) ⟨Nat.le_of_ble_eq_true rfl, Nat.le_of_ble_eq_true rfl, Nat.le_of_ble_eq_true rfl, Nat.le_of_ble_eq_true rfl⟩ dX13_indexIn_12 (fun x6 μ5 => ?_)
      refine g_st (st' := [.int x6]) rfl ?_
      refine s_if_eq (tgt := 20) C dX13_indexIn_15 (by decide) (fun c7 => ?_) (fun c7 => ?_)
      ·
        refine g_nmQ (fun x8 ex8 => ?_)
        refine s_iinc (v := x8) (j := 2) (L' := [(2, .int x8), (0, .ref (xa X 26 n0)), (1, .ref (xa X 30 n1))]) C dX13_indexIn_20 rfl (by rw [ex8]; rfl) (hN 2 (by decide)) rfl ?_
        refine s_goto (tgt := 2) C dX13_indexIn_23 (by decide) ?_
        exact g_sub [1, 2, 0] rfl (hj2 μ5 x8)
      ·
        refine s_iload_n C dX13_indexIn_18 rfl 2 rfl ?_
        exact s_iret C E dX13_indexIn_19
  refine s_iconst (v := (0 : Int32)) C dX13_indexIn_0 (by decide) ?_
  refine s_istore_n (L' := [(2, .int (0 : Int32)), (0, .ref (xa X 26 n0)), (1, .ref (xa X 30 n1))]) C dX13_indexIn_1 rfl (hN 2 (by decide)) rfl ?_
  exact g_sub [1, 2, 0] rfl (hj2 μ (0 : Int32))
/-! PinEnginesModel.isName()Z -/
def fX13_isName (fu : Nat) (n0 : Nat) (μ : Mem) : Option (Int32 × Mem) :=
  jn (fun (μ1 : Mem) (x2 : Int32) =>
    ckZ x2 (some (x2, μ1))
  ) fun j68 =>
  jn (fun (μ3 : Mem) =>
    j68 μ3 (0 : Int32)
  ) fun j67 =>
  if ¬ (μ.1 26 n0 26) = 0 then (
    j67 μ
  ) else (
    if ¬ (μ.1 26 n0 25) = (1 : Int32) then (
      j67 μ
    ) else (
      bnd (fX13_indexIn fu n0 0 μ) fun x7 μ6 =>
      if ¬ x7 = (-1 : Int32) then (
        j67 μ6
      ) else (
        bnd (fX13_indexIn fu n0 1 μ6) fun x10 μ9 =>
        if ¬ x10 = (-1 : Int32) then (
          j67 μ9
        ) else (
          bnd (fX13_indexIn fu n0 2 μ9) fun x13 μ12 =>
          if ¬ x13 = (-1 : Int32) then (
            j67 μ12
          ) else (
            bnd (fX13_indexIn fu n0 3 μ12) fun x16 μ15 =>
            if ¬ x16 = (-1 : Int32) then (
              j67 μ15
            ) else (
              j68 μ15 (1 : Int32)
            )
          )
        )
      )
    )
  )
set_option maxHeartbeats 4000000 in
set_option maxRecDepth 100000 in
theorem kX13_isName (l : Launch) (fu : Nat) (n0 : Nat) (g0 : n0 < 1) : Kon 1 l yX13_isName cX13_isName 1 (some .boolean) 6 130 0 0 (fun ad => [.ref (ad 26 n0)]) rvI (fun μ => fX13_isName fu n0 μ) := by
  refine kon_of (by decide) (fun _ => Nat.le_of_ble_eq_true rfl) (fun X r0 μ hXl hXn V C E => ?_)
  have hN : ∀ i : Nat, i < 1 → i < xn X := fun i h => hXn.symm ▸ h
  have R0 := fen_rm E
  show G X r0 0 0 μ 0 [(0, .ref (xa X 26 n0))] [] (fX13_isName fu n0 μ)
  unfold fX13_isName
  refine g_jn (P := fun j68 => ∀ (μ1 : Mem) (x2 : Int32), G X r0 0 0 μ1 68 [] [.int x2] (j68 μ1 x2)) ?_ (fun j68 hj68 => ?_)
  · intro μ1 x2
    exact s_zret C E dX13_isName_68
  refine g_jn (P := fun j67 => ∀ (μ3 : Mem), G X r0 0 0 μ3 67 [] [] (j67 μ3)) ?_ (fun j67 hj67 => ?_)
  · intro μ3
    refine s_iconst (v := (0 : Int32)) C dX13_isName_67 (by decide) ?_
    exact g_sub [] rfl (hj68 μ3 (0 : Int32))
  refine s_aload_n C dX13_isName_0 rfl 0 rfl ?_
  refine s_getI C (fgX13_490_26 (Nat.le_trans (by decide) V)) g0 dX13_isName_1 ?_
  refine s_if_ne (tgt := 67) C dX13_isName_4 (by decide) (fun c4 => ?_) (fun c4 => ?_)
  ·
    exact g_sub [] rfl (hj67 μ)
  ·
    refine s_aload_n C dX13_isName_7 rfl 0 rfl ?_
    refine s_getI C (fgX13_481_26 (Nat.le_trans (by decide) V)) g0 dX13_isName_8 ?_
    refine s_iconst (v := (1 : Int32)) C dX13_isName_11 (by decide) ?_
    refine s_icmp_ne (tgt := 67) C dX13_isName_12 (by decide) (fun c5 => ?_) (fun c5 => ?_)
    ·
      exact g_sub [] rfl (hj67 μ)
    ·
      refine s_aload_n C dX13_isName_15 rfl 0 rfl ?_
      refine s_aload_n C dX13_isName_16 rfl 0 rfl ?_
      refine s_getF C (fgX13_85_26 (Nat.le_trans (by decide) V)) g0 dX13_isName_17 ?_
      refine s_callV C R0 (kX13_indexIn (xl X) fu n0 g0 0 (by decide)) (Nat.le_trans (by decide) V) mmX13_indexIn miX13_indexIn q2708 (rc26 (Nat.le_trans (by decide) V)) g0 rfl rfl rfl (Nat.le_of_ble_eq_true rfl) ⟨Nat.le_of_ble_eq_true rfl, Nat.le_of_ble_eq_true rfl, Nat.le_of_ble_eq_true rfl, Nat.le_of_ble_eq_true rfl⟩ dX13_isName_20 (fun x7 μ6 => ?_)
      refine g_st (st' := [.int x7]) rfl ?_
      refine s_iconst (v := (-1 : Int32)) C dX13_isName_23 (by decide) ?_
      refine s_icmp_ne (tgt := 67) C dX13_isName_24 (by decide) (fun c8 => ?_) (fun c8 => ?_)
      ·
        exact g_sub [] rfl (hj67 μ6)
      ·
        refine s_aload_n C dX13_isName_27 rfl 0 rfl ?_
        refine s_aload_n C dX13_isName_28 rfl 0 rfl ?_
        refine s_getF C (fgX13_105_26 (Nat.le_trans (by decide) V)) g0 dX13_isName_29 ?_
        refine s_callV C R0 (kX13_indexIn (xl X) fu n0 g0 1 (by decide)) (Nat.le_trans (by decide) V) mmX13_indexIn miX13_indexIn q2708 (rc26 (Nat.le_trans (by decide) V)) g0 rfl rfl rfl (Nat.le_of_ble_eq_true rfl) ⟨Nat.le_of_ble_eq_true rfl, Nat.le_of_ble_eq_true rfl, Nat.le_of_ble_eq_true rfl, Nat.le_of_ble_eq_true rfl⟩ dX13_isName_32 (fun x10 μ9 => ?_)
        refine g_st (st' := [.int x10]) rfl ?_
        refine s_iconst (v := (-1 : Int32)) C dX13_isName_35 (by decide) ?_
        refine s_icmp_ne (tgt := 67) C dX13_isName_36 (by decide) (fun c11 => ?_) (fun c11 => ?_)
        ·
          exact g_sub [] rfl (hj67 μ9)
        ·
          refine s_aload_n C dX13_isName_39 rfl 0 rfl ?_
          refine s_aload_n C dX13_isName_40 rfl 0 rfl ?_
          refine s_getF C (fgX13_126_26 (Nat.le_trans (by decide) V)) g0 dX13_isName_41 ?_
          refine s_callV C R0 (kX13_indexIn (xl X) fu n0 g0 2 (by decide)) (Nat.le_trans (by decide) V) mmX13_indexIn miX13_indexIn q2708 (rc26 (Nat.le_trans (by decide) V)) g0 rfl rfl rfl (Nat.le_of_ble_eq_true rfl) ⟨Nat.le_of_ble_eq_true rfl, Nat.le_of_ble_eq_true rfl, Nat.le_of_ble_eq_true rfl, Nat.le_of_ble_eq_true rfl⟩ dX13_isName_44 (fun x13 μ12 => ?_)
          refine g_st (st' := [.int x13]) rfl ?_
          refine s_iconst (v := (-1 : Int32)) C dX13_isName_47 (by decide) ?_
          refine s_icmp_ne (tgt := 67) C dX13_isName_48 (by decide) (fun c14 => ?_) (fun c14 => ?_)
          ·
            exact g_sub [] rfl (hj67 μ12)
          ·
            refine s_aload_n C dX13_isName_51 rfl 0 rfl ?_
            refine s_aload_n C dX13_isName_52 rfl 0 rfl ?_
            refine s_getF C (fgX13_195_26 (Nat.le_trans (by decide) V)) g0 dX13_isName_53 ?_
            refine s_callV C R0 (kX13_indexIn (xl X) fu n0 g0 3 (by decide)) (Nat.le_trans (by decide) V) mmX13_indexIn miX13_indexIn q2708 (rc26 (Nat.le_trans (by decide) V)) g0 rfl rfl rfl (Nat.le_of_ble_eq_true rfl) ⟨Nat.le_of_ble_eq_true rfl, Nat.le_of_ble_eq_true rfl, Nat.le_of_ble_eq_true rfl, Nat.le_of_ble_eq_true rfl⟩ dX13_isName_56 (fun x16 μ15 => ?_)
            refine g_st (st' := [.int x16]) rfl ?_
            refine s_iconst (v := (-1 : Int32)) C dX13_isName_59 (by decide) ?_
            refine s_icmp_ne (tgt := 67) C dX13_isName_60 (by decide) (fun c17 => ?_) (fun c17 => ?_)
            ·
              exact g_sub [] rfl (hj67 μ15)
            ·
              refine s_iconst (v := (1 : Int32)) C dX13_isName_63 (by decide) ?_
              refine s_goto (tgt := 68) C dX13_isName_64 (by decide) ?_
              exact g_sub [] rfl (hj68 μ15 (1 : Int32))
/-! PinEnginesModel.isSame(III)Z -/
def fX13_isSame (fu : Nat) (n0 : Nat) (p1 : Int32) (p2 : Int32) (p3 : Int32) (μ : Mem) : Option (Int32 × Mem) :=
  jn (lp (fun _ _ => none) fu (fun j3 (μ1 : Mem) (x2 : Int32) =>
    if p3 ≤ x2 then (
      ckZ (1 : Int32) (some ((1 : Int32), μ1))
    ) else (
      ckI (p1 + x2) (mil.getD 7 0) <|
      ckI (p2 + x2) (mil.getD 7 0) <|
      if (μ1.1 28 7 (p1 + x2).toNatClampNeg) = (μ1.1 28 7 (p2 + x2).toNatClampNeg) then (
        nm (x2 + (1 : Int32)) fun x5 =>
        j3 μ1 x5
      ) else (
        ckZ (0 : Int32) (some ((0 : Int32), μ1))
      )
    )
  )) fun j3 =>
  j3 μ (0 : Int32)
set_option maxHeartbeats 4000000 in
set_option maxRecDepth 100000 in
theorem kX13_isSame (l : Launch) (fu : Nat) (n0 : Nat) (g0 : n0 < 1) (p1 : Int32) (p2 : Int32) (p3 : Int32) : Kon 1 l yX13_isSame cX13_isSame 5 (some .boolean) 0 0 0 0 (fun ad => [.ref (ad 26 n0), .int p1, .int p2, .int p3]) rvI (fun μ => fX13_isSame fu n0 p1 p2 p3 μ) := by
  refine kon_of (by decide) (fun _ => Nat.le_of_ble_eq_true rfl) (fun X r0 μ hXl hXn V C E => ?_)
  have hN : ∀ i : Nat, i < 5 → i < xn X := fun i h => hXn.symm ▸ h
  have R0 := fen_rm E
  show G X r0 0 0 μ 0 [(0, .ref (xa X 26 n0)), (1, .int p1), (2, .int p2), (3, .int p3)] [] (fX13_isSame fu n0 p1 p2 p3 μ)
  unfold fX13_isSame
  refine g_jl (P := fun j3 => ∀ (μ1 : Mem) (x2 : Int32), G X r0 0 0 μ1 3 [(0, .ref (xa X 26 n0)), (1, .int p1), (2, .int p2), (3, .int p3), (4, .int x2)] [] (j3 μ1 x2)) (fun _ _ => g_none) (fun j3 hj3 => ?_) (fun j3 hj3 => ?_)
  · intro μ1 x2
    refine s_iload C dX13_isSame_3 4 rfl ?_
    refine s_iload_n C dX13_isSame_5 rfl 3 rfl ?_
    refine s_icmp_ge (tgt := 38) C dX13_isSame_6 (by decide) (fun c3 => ?_) (fun c3 => ?_)
    ·
      refine s_iconst (v := (1 : Int32)) C dX13_isSame_38 (by decide) ?_
      exact s_zret C E dX13_isSame_39
    ·
      refine s_aload_n C dX13_isSame_9 rfl 0 rfl ?_
      refine s_getF C (fgX13_50_26 (Nat.le_trans (by decide) V)) g0 dX13_isSame_10 ?_
      refine s_iload_n C dX13_isSame_13 rfl 1 rfl ?_
      refine s_iload C dX13_isSame_14 4 rfl ?_
      refine s_iadd C dX13_isSame_16 ?_
      refine s_iald C (ag28 (Nat.le_trans (by decide) V)) (by decide) dX13_isSame_17 ?_
      refine s_aload_n C dX13_isSame_18 rfl 0 rfl ?_
      refine s_getF C (fgX13_50_26 (Nat.le_trans (by decide) V)) g0 dX13_isSame_19 ?_
      refine s_iload_n C dX13_isSame_22 rfl 2 rfl ?_
      refine s_iload C dX13_isSame_23 4 rfl ?_
      refine s_iadd C dX13_isSame_25 ?_
      refine s_iald C (ag28 (Nat.le_trans (by decide) V)) (by decide) dX13_isSame_26 ?_
      refine s_icmp_eq (tgt := 32) C dX13_isSame_27 (by decide) (fun c4 => ?_) (fun c4 => ?_)
      ·
        refine g_nmQ (fun x5 ex5 => ?_)
        refine s_iinc (v := x5) (j := 4) (L' := [(4, .int x5), (0, .ref (xa X 26 n0)), (1, .int p1), (2, .int p2), (3, .int p3)]) C dX13_isSame_32 rfl (by rw [ex5]; rfl) (hN 4 (by decide)) rfl ?_
        refine s_goto (tgt := 3) C dX13_isSame_35 (by decide) ?_
        exact g_sub [1, 2, 3, 4, 0] rfl (hj3 μ1 x5)
      ·
        refine s_iconst (v := (0 : Int32)) C dX13_isSame_30 (by decide) ?_
        exact s_zret C E dX13_isSame_31
  refine s_iconst (v := (0 : Int32)) C dX13_isSame_0 (by decide) ?_
  refine s_istore (L' := [(4, .int (0 : Int32)), (0, .ref (xa X 26 n0)), (1, .int p1), (2, .int p2), (3, .int p3)]) C dX13_isSame_1 (hN 4 (by decide)) rfl ?_
  exact g_sub [1, 2, 3, 4, 0] rfl (hj3 μ (0 : Int32))
/-! PinEnginesModel.labelled(III)I -/
def fX13_labelled (fu : Nat) (n0 : Nat) (p1 : Int32) (p2 : Int32) (p3 : Int32) (μ : Mem) : Option (Int32 × Mem) :=
  jn (lp (fun _ _ => none) fu (fun j3 (μ1 : Mem) (x2 : Int32) =>
    if p3 ≤ x2 then (
      some ((-1 : Int32), μ1)
    ) else (
      jn (fun (μ4 : Mem) (x5 : Int32) =>
        nm (x5 + (1 : Int32)) fun x6 =>
        j3 μ4 x6
      ) fun j39 =>
      ckI x2 (mil.getD 9 0) <|
      if ¬ (μ1.1 28 9 x2.toNatClampNeg) = p2 then (
        j39 μ1 x2
      ) else (
        ckI x2 (mil.getD 8 0) <|
        bnd (fX13_isSame fu n0 p1 (μ1.1 28 8 x2.toNatClampNeg) p2 μ1) fun x9 μ8 =>
        if x9 = 0 then (
          j39 μ8 x2
        ) else (
          some (x2, μ8)
        )
      )
    )
  )) fun j3 =>
  j3 μ (0 : Int32)
set_option maxHeartbeats 4000000 in
set_option maxRecDepth 100000 in
theorem kX13_labelled (l : Launch) (fu : Nat) (n0 : Nat) (g0 : n0 < 1) (p1 : Int32) (p2 : Int32) (p3 : Int32) : Kon 1 l yX13_labelled cX13_labelled 5 (some .int) 1 24 0 0 (fun ad => [.ref (ad 26 n0), .int p1, .int p2, .int p3]) rvI (fun μ => fX13_labelled fu n0 p1 p2 p3 μ) := by
  refine kon_of (by decide) (fun _ => Nat.le_of_ble_eq_true rfl) (fun X r0 μ hXl hXn V C E => ?_)
  have hN : ∀ i : Nat, i < 5 → i < xn X := fun i h => hXn.symm ▸ h
  have R0 := fen_rm E
  show G X r0 0 0 μ 0 [(0, .ref (xa X 26 n0)), (1, .int p1), (2, .int p2), (3, .int p3)] [] (fX13_labelled fu n0 p1 p2 p3 μ)
  unfold fX13_labelled
  refine g_jl (P := fun j3 => ∀ (μ1 : Mem) (x2 : Int32), G X r0 0 0 μ1 3 [(0, .ref (xa X 26 n0)), (1, .int p1), (2, .int p2), (3, .int p3), (4, .int x2)] [] (j3 μ1 x2)) (fun _ _ => g_none) (fun j3 hj3 => ?_) (fun j3 hj3 => ?_)
  · intro μ1 x2
    refine s_iload C dX13_labelled_3 4 rfl ?_
    refine s_iload_n C dX13_labelled_5 rfl 3 rfl ?_
    refine s_icmp_ge (tgt := 45) C dX13_labelled_6 (by decide) (fun c3 => ?_) (fun c3 => ?_)
    ·
      refine s_iconst (v := (-1 : Int32)) C dX13_labelled_45 (by decide) ?_
      exact s_iret C E dX13_labelled_46
    ·
      refine g_jn (P := fun j39 => ∀ (μ4 : Mem) (x5 : Int32), G X r0 0 0 μ4 39 [(0, .ref (xa X 26 n0)), (1, .int p1), (2, .int p2), (3, .int p3), (4, .int x5)] [] (j39 μ4 x5)) ?_ (fun j39 hj39 => ?_)
      · intro μ4 x5
        refine g_nmQ (fun x6 ex6 => ?_)
        refine s_iinc (v := x6) (j := 4) (L' := [(4, .int x6), (0, .ref (xa X 26 n0)), (1, .int p1), (2, .int p2), (3, .int p3)]) C dX13_labelled_39 rfl (by rw [ex6]; rfl) (hN 4 (by decide)) rfl ?_
        refine s_goto (tgt := 3) C dX13_labelled_42 (by decide) ?_
        exact g_sub [1, 2, 3, 4, 0] rfl (hj3 μ4 x6)
      refine s_aload_n C dX13_labelled_9 rfl 0 rfl ?_
      refine s_getF C (fgX13_201_26 (Nat.le_trans (by decide) V)) g0 dX13_labelled_10 ?_
      refine s_iload C dX13_labelled_13 4 rfl ?_
      refine s_iald C (ag28 (Nat.le_trans (by decide) V)) (by decide) dX13_labelled_15 ?_
      refine s_iload_n C dX13_labelled_16 rfl 2 rfl ?_
      refine s_icmp_ne (tgt := 39) C dX13_labelled_17 (by decide) (fun c7 => ?_) (fun c7 => ?_)
      ·
        exact g_sub [0, 1, 2, 3, 4] rfl (hj39 μ1 x2)
      ·
        refine s_aload_n C dX13_labelled_20 rfl 0 rfl ?_
        refine s_iload_n C dX13_labelled_21 rfl 1 rfl ?_
        refine s_aload_n C dX13_labelled_22 rfl 0 rfl ?_
        refine s_getF C (fgX13_198_26 (Nat.le_trans (by decide) V)) g0 dX13_labelled_23 ?_
        refine s_iload C dX13_labelled_26 4 rfl ?_
        refine s_iald C (ag28 (Nat.le_trans (by decide) V)) (by decide) dX13_labelled_28 ?_
        refine s_iload_n C dX13_labelled_29 rfl 2 rfl ?_
        refine s_callV C R0 (kX13_isSame (xl X) fu n0 g0 p1 (μ1.1 28 8 x2.toNatClampNeg) p2) (Nat.le_trans (by decide) V) mmX13_isSame miX13_isSame q2760 (rc26 (Nat.le_trans (by decide) V)) g0 rfl rfl rfl (Nat.le_of_ble_eq_true rfl) ⟨Nat.le_of_ble_eq_true rfl, Nat.le_of_ble_eq_true rfl, Nat.le_of_ble_eq_true rfl, Nat.le_of_ble_eq_true rfl⟩ dX13_labelled_30 (fun x9 μ8 => ?_)
        refine g_st (st' := [.int x9]) rfl ?_
        refine s_if_eq (tgt := 39) C dX13_labelled_33 (by decide) (fun c10 => ?_) (fun c10 => ?_)
        ·
          exact g_sub [0, 1, 2, 3, 4] rfl (hj39 μ8 x2)
        ·
          refine s_iload C dX13_labelled_36 4 rfl ?_
          exact s_iret C E dX13_labelled_38
  refine s_iconst (v := (0 : Int32)) C dX13_labelled_0 (by decide) ?_
  refine s_istore (L' := [(4, .int (0 : Int32)), (0, .ref (xa X 26 n0)), (1, .int p1), (2, .int p2), (3, .int p3)]) C dX13_labelled_1 (hN 4 (by decide)) rfl ?_
  exact g_sub [1, 2, 3, 4, 0] rfl (hj3 μ (0 : Int32))
/-! PinEnginesModel.readName(I)V -/
def fX13_readName (fu : Nat) (n0 : Nat) (p1 : Int32) (μ : Mem) : Option (Unit × Mem) :=
  jn (fun (μ1 : Mem) (a2 : Nat) (x4 : Int32) =>
    jn (fun (μ5 : Mem) =>
      bnd (fX13_advance fu n0 μ5) fun _ μ6 =>
      some ((), μ6)
    ) fun j82 =>
    bnd (fX13_check a2 x4 (1 : Int32) μ1) fun _ μ7 =>
    if ¬ (μ7.1 26 n0 26) = 0 then (
      j82 μ7
    ) else (
      ckI (μ7.1 26 n0 39) (mil.getD 10 0) <|
      nm (wI μ7 28 10 (μ7.1 26 n0 39).toNatClampNeg (μ7.1 26 n0 24)) fun μ9 =>
      ckI (μ9.1 26 n0 39) (mil.getD 11 0) <|
      nm (wI μ9 28 11 (μ9.1 26 n0 39).toNatClampNeg ((μ9.1 26 n0 23) - (μ9.1 26 n0 24))) fun μ10 =>
      ckI (μ10.1 26 n0 39) (mil.getD 12 0) <|
      nm (wI μ10 28 12 (μ10.1 26 n0 39).toNatClampNeg p1) fun μ11 =>
      nm (wI μ11 26 n0 39 ((μ11.1 26 n0 39) + (1 : Int32))) fun μ12 =>
      j82 μ12
    )
  ) fun j20 =>
  jn (fun (μ13 : Mem) (a14 : Nat) =>
    j20 μ13 a14 (1 : Int32)
  ) fun j15 =>
  if ¬ (μ.1 26 n0 26) = 0 then (
    j15 μ n0
  ) else (
    bnd (fX13_isName fu n0 μ) fun x18 μ17 =>
    if x18 = 0 then (
      j20 μ17 n0 (0 : Int32)
    ) else (
      j15 μ17 n0
    )
  )
set_option maxHeartbeats 4000000 in
set_option maxRecDepth 100000 in
theorem kX13_readName (l : Launch) (fu : Nat) (n0 : Nat) (g0 : n0 < 1) (p1 : Int32) : Kon 1 l yX13_readName cX13_readName 2 (none) 7 150 0 0 (fun ad => [.ref (ad 26 n0), .int p1]) rvV (fun μ => fX13_readName fu n0 p1 μ) := by
  refine kon_of (by decide) (fun _ => Nat.le_of_ble_eq_true rfl) (fun X r0 μ hXl hXn V C E => ?_)
  have hN : ∀ i : Nat, i < 2 → i < xn X := fun i h => hXn.symm ▸ h
  have R0 := fen_rm E
  show G X r0 0 0 μ 0 [(0, .ref (xa X 26 n0)), (1, .int p1)] [] (fX13_readName fu n0 p1 μ)
  unfold fX13_readName
  refine g_jn (P := fun j20 => ∀ (μ1 : Mem) (a2 : Nat) (x4 : Int32), a2 < 1 → G X r0 0 0 μ1 20 [(0, .ref (xa X 26 n0)), (1, .int p1)] [.int x4, .ref (xa X 26 a2)] (j20 μ1 a2 x4)) ?_ (fun j20 hj20 => ?_)
  · intro μ1 a2 x4 b3
    refine g_jn (P := fun j82 => ∀ (μ5 : Mem), G X r0 0 0 μ5 82 [(0, .ref (xa X 26 n0))] [] (j82 μ5)) ?_ (fun j82 hj82 => ?_)
    · intro μ5
      refine s_aload_n C dX13_readName_82 rfl 0 rfl ?_
      refine s_callV C R0 (kX13_advance (xl X) fu n0 g0) (Nat.le_trans (by decide) V) mmX13_advance miX13_advance q2692 (rc26 (Nat.le_trans (by decide) V)) g0 rfl rfl rfl (Nat.le_of_ble_eq_true rfl) ⟨Nat.le_of_ble_eq_true rfl, Nat.le_of_ble_eq_true rfl, Nat.le_of_ble_eq_true rfl, Nat.le_of_ble_eq_true rfl⟩ dX13_readName_83 (fun _ μ6 => ?_)
      refine g_st (st' := []) rfl ?_
      exact s_vret C E dX13_readName_86
    refine s_iconst (v := (1 : Int32)) C dX13_readName_20 (by decide) ?_
    refine s_callV C R0 (kX13_check (xl X) a2 b3 x4 (1 : Int32)) (Nat.le_trans (by decide) V) mmX13_check miX13_check q2680 (rc26 (Nat.le_trans (by decide) V)) b3 rfl rfl rfl (Nat.le_of_ble_eq_true rfl) ⟨Nat.le_of_ble_eq_true rfl, Nat.le_of_ble_eq_true rfl, Nat.le_of_ble_eq_true rfl, Nat.le_of_ble_eq_true rfl⟩ dX13_readName_21 (fun _ μ7 => ?_)
    refine g_st (st' := []) rfl ?_
    refine s_aload_n C dX13_readName_24 rfl 0 rfl ?_
    refine s_getI C (fgX13_490_26 (Nat.le_trans (by decide) V)) g0 dX13_readName_25 ?_
    refine s_if_ne (tgt := 82) C dX13_readName_28 (by decide) (fun c8 => ?_) (fun c8 => ?_)
    ·
      exact g_sub [0] rfl (hj82 μ7)
    ·
      refine s_aload_n C dX13_readName_31 rfl 0 rfl ?_
      refine s_getF C (fgX13_204_26 (Nat.le_trans (by decide) V)) g0 dX13_readName_32 ?_
      refine s_aload_n C dX13_readName_35 rfl 0 rfl ?_
      refine s_getI C (fgX13_540_26 (Nat.le_trans (by decide) V)) g0 dX13_readName_36 ?_
      refine s_aload_n C dX13_readName_39 rfl 0 rfl ?_
      refine s_getI C (fgX13_478_26 (Nat.le_trans (by decide) V)) g0 dX13_readName_40 ?_
      refine s_iast C (ag28 (Nat.le_trans (by decide) V)) (by decide) dX13_readName_43 ?_
      refine g_nmM (fun μ9 => ?_)
      refine s_aload_n C dX13_readName_44 rfl 0 rfl ?_
      refine s_getF C (fgX13_207_26 (Nat.le_trans (by decide) V)) g0 dX13_readName_45 ?_
      refine s_aload_n C dX13_readName_48 rfl 0 rfl ?_
      refine s_getI C (fgX13_540_26 (Nat.le_trans (by decide) V)) g0 dX13_readName_49 ?_
      refine s_aload_n C dX13_readName_52 rfl 0 rfl ?_
      refine s_getI C (fgX13_475_26 (Nat.le_trans (by decide) V)) g0 dX13_readName_53 ?_
      refine s_aload_n C dX13_readName_56 rfl 0 rfl ?_
      refine s_getI C (fgX13_478_26 (Nat.le_trans (by decide) V)) g0 dX13_readName_57 ?_
      refine s_isub C dX13_readName_60 ?_
      refine s_iast C (ag28 (Nat.le_trans (by decide) V)) (by decide) dX13_readName_61 ?_
      refine g_nmM (fun μ10 => ?_)
      refine s_aload_n C dX13_readName_62 rfl 0 rfl ?_
      refine s_getF C (fgX13_210_26 (Nat.le_trans (by decide) V)) g0 dX13_readName_63 ?_
      refine s_aload_n C dX13_readName_66 rfl 0 rfl ?_
      refine s_getI C (fgX13_540_26 (Nat.le_trans (by decide) V)) g0 dX13_readName_67 ?_
      refine s_iload_n C dX13_readName_70 rfl 1 rfl ?_
      refine s_iast C (ag28 (Nat.le_trans (by decide) V)) (by decide) dX13_readName_71 ?_
      refine g_nmM (fun μ11 => ?_)
      refine s_aload_n C dX13_readName_72 rfl 0 rfl ?_
      refine s_dup C dX13_readName_73 rfl ?_
      refine s_getI C (fgX13_540_26 (Nat.le_trans (by decide) V)) g0 dX13_readName_74 ?_
      refine s_iconst (v := (1 : Int32)) C dX13_readName_77 (by decide) ?_
      refine s_iadd C dX13_readName_78 ?_
      refine s_putI C (fpX13_540_26 (Nat.le_trans (by decide) V)) g0 dX13_readName_79 ?_
      refine g_nmM (fun μ12 => ?_)
      exact g_sub [0] rfl (hj82 μ12)
  refine g_jn (P := fun j15 => ∀ (μ13 : Mem) (a14 : Nat), a14 < 1 → G X r0 0 0 μ13 15 [(0, .ref (xa X 26 n0)), (1, .int p1)] [.ref (xa X 26 a14)] (j15 μ13 a14)) ?_ (fun j15 hj15 => ?_)
  · intro μ13 a14 b15
    refine s_iconst (v := (1 : Int32)) C dX13_readName_15 (by decide) ?_
    refine s_goto (tgt := 20) C dX13_readName_16 (by decide) ?_
    exact g_sub [0, 1] rfl (hj20 μ13 a14 (1 : Int32) b15)
  refine s_aload_n C dX13_readName_0 rfl 0 rfl ?_
  refine s_aload_n C dX13_readName_1 rfl 0 rfl ?_
  refine s_getI C (fgX13_490_26 (Nat.le_trans (by decide) V)) g0 dX13_readName_2 ?_
  refine s_if_ne (tgt := 15) C dX13_readName_5 (by decide) (fun c16 => ?_) (fun c16 => ?_)
  ·
    exact g_sub [0, 1] rfl (hj15 μ n0 g0)
  ·
    refine s_aload_n C dX13_readName_8 rfl 0 rfl ?_
    refine s_callV C R0 (kX13_isName (xl X) fu n0 g0) (Nat.le_trans (by decide) V) mmX13_isName miX13_isName q2704 (rc26 (Nat.le_trans (by decide) V)) g0 rfl rfl rfl (Nat.le_of_ble_eq_true rfl) ⟨Nat.le_of_ble_eq_true rfl, Nat.le_of_ble_eq_true rfl, Nat.le_of_ble_eq_true rfl, Nat.le_of_ble_eq_true rfl⟩ dX13_readName_9 (fun x18 μ17 => ?_)
    refine g_st (st' := [.int x18, .ref (xa X 26 n0)]) rfl ?_
    refine s_if_eq (tgt := 19) C dX13_readName_12 (by decide) (fun c19 => ?_) (fun c19 => ?_)
    ·
      refine s_iconst (v := (0 : Int32)) C dX13_readName_19 (by decide) ?_
      exact g_sub [0, 1] rfl (hj20 μ17 n0 (0 : Int32) g0)
    ·
      exact g_sub [0, 1] rfl (hj15 μ17 n0 g0)
/-! PinEnginesModel.layNames()V -/
def fX13_layNames (fu : Nat) (n0 : Nat) (μ : Mem) : Option (Unit × Mem) :=
  jn (lp (fun _ _ => none) fu (fun j2 (μ1 : Mem) (x2 : Int32) =>
    jn (fun (μ3 : Mem) =>
      some ((), μ3)
    ) fun j81 =>
    if (μ1.1 26 n0 39) ≤ x2 then (
      j81 μ1
    ) else (
      if ¬ (μ1.1 26 n0 26) = 0 then (
        j81 μ1
      ) else (
        jn (fun (μ6 : Mem) (x7 : Int32) =>
          nm (x7 + (1 : Int32)) fun x8 =>
          j2 μ6 x8
        ) fun j75 =>
        ckI x2 (mil.getD 10 0) <|
        ckI x2 (mil.getD 11 0) <|
        ckI (0 : Int32) (if 1 = 4 then 7000 else 700) <|
        bnd (fX13_labelled fu n0 (μ1.1 28 10 x2.toNatClampNeg) (μ1.1 28 11 x2.toNatClampNeg) (μ1.1 27 1 (0 : Int32).toNatClampNeg) μ1) fun x10 μ9 =>
        if ¬ x10 = (-1 : Int32) then (
          ckI x2 (mil.getD 12 0) <|
          ckI (μ9.1 28 12 x2.toNatClampNeg) (if 1 = 4 then 7000 else 700) <|
          nm (wI μ9 27 1 (μ9.1 28 12 x2.toNatClampNeg).toNatClampNeg x10) fun μ12 =>
          j75 μ12 x2
        ) else (
          nm (wI μ9 26 n0 26 (5 : Int32)) fun μ13 =>
          ckI x2 (mil.getD 10 0) <|
          nm (wI μ13 26 n0 27 (μ13.1 28 10 x2.toNatClampNeg)) fun μ14 =>
          j75 μ14 x2
        )
      )
    )
  )) fun j2 =>
  j2 μ (0 : Int32)
set_option maxHeartbeats 4000000 in
set_option maxRecDepth 100000 in
theorem kX13_layNames (l : Launch) (fu : Nat) (n0 : Nat) (g0 : n0 < 1) : Kon 1 l yX13_layNames cX13_layNames 3 (none) 2 48 0 0 (fun ad => [.ref (ad 26 n0)]) rvV (fun μ => fX13_layNames fu n0 μ) := by
  refine kon_of (by decide) (fun _ => Nat.le_of_ble_eq_true rfl) (fun X r0 μ hXl hXn V C E => ?_)
  have hN : ∀ i : Nat, i < 3 → i < xn X := fun i h => hXn.symm ▸ h
  have R0 := fen_rm E
  show G X r0 0 0 μ 0 [(0, .ref (xa X 26 n0))] [] (fX13_layNames fu n0 μ)
  unfold fX13_layNames
  refine g_jl (P := fun j2 => ∀ (μ1 : Mem) (x2 : Int32), G X r0 0 0 μ1 2 [(0, .ref (xa X 26 n0)), (1, .int x2)] [] (j2 μ1 x2)) (fun _ _ => g_none) (fun j2 hj2 => ?_) (fun j2 hj2 => ?_)
  · intro μ1 x2
    refine g_jn (P := fun j81 => ∀ (μ3 : Mem), G X r0 0 0 μ3 81 [] [] (j81 μ3)) ?_ (fun j81 hj81 => ?_)
    · intro μ3
      exact s_vret C E dX13_layNames_81
    refine s_iload_n C dX13_layNames_2 rfl 1 rfl ?_
    refine s_aload_n C dX13_layNames_3 rfl 0 rfl ?_
    refine s_getI C (fgX13_540_26 (Nat.le_trans (by decide) V)) g0 dX13_layNames_4 ?_
    refine s_icmp_ge (tgt := 81) C dX13_layNames_7 (by decide) (fun c4 => ?_) (fun c4 => ?_)
    ·
      exact g_sub [] rfl (hj81 μ1)
    ·
      refine s_aload_n C dX13_layNames_10 rfl 0 rfl ?_
      refine s_getI C (fgX13_490_26 (Nat.le_trans (by decide) V)) g0 dX13_layNames_11 ?_
      refine s_if_ne (tgt := 81) C dX13_layNames_14 (by decide) (fun c5 => ?_) (fun c5 => ?_)
      ·
        exact g_sub [] rfl (hj81 μ1)
      ·
        refine g_jn (P := fun j75 => ∀ (μ6 : Mem) (x7 : Int32), G X r0 0 0 μ6 75 [(0, .ref (xa X 26 n0)), (1, .int x7)] [] (j75 μ6 x7)) ?_ (fun j75 hj75 => ?_)
        · intro μ6 x7
          refine g_nmQ (fun x8 ex8 => ?_)
          refine s_iinc (v := x8) (j := 1) (L' := [(1, .int x8), (0, .ref (xa X 26 n0))]) C dX13_layNames_75 rfl (by rw [ex8]; rfl) (hN 1 (by decide)) rfl ?_
          refine s_goto (tgt := 2) C dX13_layNames_78 (by decide) ?_
          exact g_sub [1, 0] rfl (hj2 μ6 x8)
        refine s_aload_n C dX13_layNames_17 rfl 0 rfl ?_
        refine s_aload_n C dX13_layNames_18 rfl 0 rfl ?_
        refine s_getF C (fgX13_204_26 (Nat.le_trans (by decide) V)) g0 dX13_layNames_19 ?_
        refine s_iload_n C dX13_layNames_22 rfl 1 rfl ?_
        refine s_iald C (ag28 (Nat.le_trans (by decide) V)) (by decide) dX13_layNames_23 ?_
        refine s_aload_n C dX13_layNames_24 rfl 0 rfl ?_
        refine s_getF C (fgX13_207_26 (Nat.le_trans (by decide) V)) g0 dX13_layNames_25 ?_
        refine s_iload_n C dX13_layNames_28 rfl 1 rfl ?_
        refine s_iald C (ag28 (Nat.le_trans (by decide) V)) (by decide) dX13_layNames_29 ?_
        refine s_aload_n C dX13_layNames_30 rfl 0 rfl ?_
        refine s_getF C (fgX13_13_26 (Nat.le_trans (by decide) V)) g0 dX13_layNames_31 ?_
        refine s_iconst (v := (0 : Int32)) C dX13_layNames_34 (by decide) ?_
        refine s_iald C (ag27 (Nat.le_trans (by decide) V)) (by decide) dX13_layNames_35 ?_
        refine s_callV C R0 (kX13_labelled (xl X) fu n0 g0 (μ1.1 28 10 x2.toNatClampNeg) (μ1.1 28 11 x2.toNatClampNeg) (μ1.1 27 1 (0 : Int32).toNatClampNeg)) (Nat.le_trans (by decide) V) mmX13_labelled miX13_labelled q2756 (rc26 (Nat.le_trans (by decide) V)) g0 rfl rfl rfl (Nat.le_of_ble_eq_true rfl) ⟨Nat.le_of_ble_eq_true rfl, Nat.le_of_ble_eq_true rfl, Nat.le_of_ble_eq_true rfl, Nat.le_of_ble_eq_true rfl⟩ dX13_layNames_36 (fun x10 μ9 => ?_)
        refine g_st (st' := [.int x10]) rfl ?_
        refine s_istore_n (L' := [(2, .int x10), (0, .ref (xa X 26 n0)), (1, .int x2)]) C dX13_layNames_39 rfl (hN 2 (by decide)) rfl ?_
        refine s_iload_n C dX13_layNames_40 rfl 0 rfl ?_
        refine s_iconst (v := (-1 : Int32)) C dX13_layNames_41 (by decide) ?_
        refine s_icmp_ne (tgt := 63) C dX13_layNames_42 (by decide) (fun c11 => ?_) (fun c11 => ?_)
        ·
          refine s_aload_n C dX13_layNames_63 rfl 1 rfl ?_
          refine s_getF C (fgX13_13_26 (Nat.le_trans (by decide) V)) g0 dX13_layNames_64 ?_
          refine s_aload_n C dX13_layNames_67 rfl 1 rfl ?_
          refine s_getF C (fgX13_210_26 (Nat.le_trans (by decide) V)) g0 dX13_layNames_68 ?_
          refine s_iload_n C dX13_layNames_71 rfl 2 rfl ?_
          refine s_iald C (ag28 (Nat.le_trans (by decide) V)) (by decide) dX13_layNames_72 ?_
          refine s_iload_n C dX13_layNames_73 rfl 0 rfl ?_
          refine s_iast C (ag27 (Nat.le_trans (by decide) V)) (by decide) dX13_layNames_74 ?_
          refine g_nmM (fun μ12 => ?_)
          exact g_sub [1, 2] rfl (hj75 μ12 x2)
        ·
          refine s_aload_n C dX13_layNames_45 rfl 1 rfl ?_
          refine s_iconst (v := (5 : Int32)) C dX13_layNames_46 (by decide) ?_
          refine s_putI C (fpX13_490_26 (Nat.le_trans (by decide) V)) g0 dX13_layNames_47 ?_
          refine g_nmM (fun μ13 => ?_)
          refine s_aload_n C dX13_layNames_50 rfl 1 rfl ?_
          refine s_aload_n C dX13_layNames_51 rfl 1 rfl ?_
          refine s_getF C (fgX13_204_26 (Nat.le_trans (by decide) V)) g0 dX13_layNames_52 ?_
          refine s_iload_n C dX13_layNames_55 rfl 2 rfl ?_
          refine s_iald C (ag28 (Nat.le_trans (by decide) V)) (by decide) dX13_layNames_56 ?_
          refine s_putI C (fpX13_499_26 (Nat.le_trans (by decide) V)) g0 dX13_layNames_57 ?_
          refine g_nmM (fun μ14 => ?_)
          refine s_goto (tgt := 75) C dX13_layNames_60 (by decide) ?_
          exact g_sub [1, 2] rfl (hj75 μ14 x2)
  refine s_iconst (v := (0 : Int32)) C dX13_layNames_0 (by decide) ?_
  refine s_istore_n (L' := [(1, .int (0 : Int32)), (0, .ref (xa X 26 n0))]) C dX13_layNames_1 rfl (hN 1 (by decide)) rfl ?_
  exact g_sub [1, 0] rfl (hj2 μ (0 : Int32))
