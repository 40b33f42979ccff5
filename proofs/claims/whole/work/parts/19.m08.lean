/-! PinEngines$Program.addressAfter(ILPinEngines$Setup;)I -/
def fX4_addressAfter (n0 : Nat) (p1 : Int32) (n2 : Nat) (μ : Mem) : Option (Int32 × Mem) :=
  if ¬ p1 = (μ.1 8 n2 3) then (
    jn (fun (μ2 : Mem) (x3 : Int32) =>
      some (x3, μ2)
    ) fun j30 =>
    if (μ.1 5 n0 0) ≤ (p1 + (1 : Int32)) then (
      j30 μ (0 : Int32)
    ) else (
      j30 μ (p1 + (1 : Int32))
    )
  ) else (
    some ((μ.1 8 n2 2), μ)
  )
set_option maxHeartbeats 4000000 in
set_option maxRecDepth 100000 in
theorem kX4_addressAfter (l : Launch) (n0 : Nat) (g0 : n0 < 2) (p1 : Int32) (n2 : Nat) (g2 : n2 < 8) : Kon 0 l yX4_addressAfter cX4_addressAfter 3 (some .int) 0 0 0 0 (fun ad => [.ref (ad 5 n0), .int p1, .ref (ad 8 n2)]) rvI (fun μ => fX4_addressAfter n0 p1 n2 μ) := by
  refine kon_of (by decide) (fun _ => Nat.le_of_ble_eq_true rfl) (fun X r0 μ hXl hXn V C E => ?_)
  have hN : ∀ i : Nat, i < 3 → i < xn X := fun i h => hXn.symm ▸ h
  have R0 := fen_rm E
  show G X r0 0 0 μ 0 [(0, .ref (xa X 5 n0)), (1, .int p1), (2, .ref (xa X 8 n2))] [] (fX4_addressAfter n0 p1 n2 μ)
  unfold fX4_addressAfter
  refine s_iload_n C dX4_addressAfter_0 rfl 1 rfl ?_
  refine s_aload_n C dX4_addressAfter_1 rfl 2 rfl ?_
  refine s_getI C (fgX4_51_8 _) g2 dX4_addressAfter_2 ?_
  refine s_icmp_ne (tgt := 13) C dX4_addressAfter_5 (by decide) (fun c1 => ?_) (fun c1 => ?_)
  ·
    refine g_jn (P := fun j30 => ∀ (μ2 : Mem) (x3 : Int32), G X r0 0 0 μ2 30 [] [.int x3] (j30 μ2 x3)) ?_ (fun j30 hj30 => ?_)
    · intro μ2 x3
      exact s_iret C E dX4_addressAfter_30
    refine s_iload_n C dX4_addressAfter_13 rfl 1 rfl ?_
    refine s_iconst (v := (1 : Int32)) C dX4_addressAfter_14 (by decide) ?_
    refine s_iadd C dX4_addressAfter_15 ?_
    refine s_aload_n C dX4_addressAfter_16 rfl 0 rfl ?_
    refine s_getI C (fgX4_9_5 _) g0 dX4_addressAfter_17 ?_
    refine s_icmp_ge (tgt := 29) C dX4_addressAfter_20 (by decide) (fun c4 => ?_) (fun c4 => ?_)
    ·
      refine s_iconst (v := (0 : Int32)) C dX4_addressAfter_29 (by decide) ?_
      exact g_sub [] rfl (hj30 μ (0 : Int32))
    ·
      refine s_iload_n C dX4_addressAfter_23 rfl 1 rfl ?_
      refine s_iconst (v := (1 : Int32)) C dX4_addressAfter_24 (by decide) ?_
      refine s_iadd C dX4_addressAfter_25 ?_
      refine s_goto (tgt := 30) C dX4_addressAfter_26 (by decide) ?_
      exact g_sub [] rfl (hj30 μ (p1 + (1 : Int32)))
  ·
    refine s_aload_n C dX4_addressAfter_8 rfl 2 rfl ?_
    refine s_getI C (fgX4_54_8 _) g2 dX4_addressAfter_9 ?_
    exact s_iret C E dX4_addressAfter_12
/-! PinEngines$Program.addressOf(I)I -/
def fX4_addressOf (n0 : Nat) (p1 : Int32) (μ : Mem) : Option (Int32 × Mem) :=
  jn (fun (μ1 : Mem) (x2 : Int32) =>
    some (x2, μ1)
  ) fun j22 =>
  if ¬ (μ.1 5 n0 0) = 0 then (
    bnd (fX12_unsigned p1 μ) fun y5 μ4 =>
    ckL ((μ4.1 5 n0 0).toInt64) <|
    j22 μ4 ((y5 - y5 / ((μ4.1 5 n0 0).toInt64) * ((μ4.1 5 n0 0).toInt64)).toInt32)
  ) else (
    j22 μ (0 : Int32)
  )
set_option maxHeartbeats 4000000 in
set_option maxRecDepth 100000 in
theorem kX4_addressOf (l : Launch) (n0 : Nat) (g0 : n0 < 2) (p1 : Int32) : Kon 0 l yX4_addressOf cX4_addressOf 2 (some .int) 1 20 0 0 (fun ad => [.ref (ad 5 n0), .int p1]) rvI (fun μ => fX4_addressOf n0 p1 μ) := by
  refine kon_of (by decide) (fun _ => Nat.le_of_ble_eq_true rfl) (fun X r0 μ hXl hXn V C E => ?_)
  have hN : ∀ i : Nat, i < 2 → i < xn X := fun i h => hXn.symm ▸ h
  have R0 := fen_rm E
  show G X r0 0 0 μ 0 [(0, .ref (xa X 5 n0)), (1, .int p1)] [] (fX4_addressOf n0 p1 μ)
  unfold fX4_addressOf
  refine g_jn (P := fun j22 => ∀ (μ1 : Mem) (x2 : Int32), G X r0 0 0 μ1 22 [] [.int x2] (j22 μ1 x2)) ?_ (fun j22 hj22 => ?_)
  · intro μ1 x2
    exact s_iret C E dX4_addressOf_22
  refine s_aload_n C dX4_addressOf_0 rfl 0 rfl ?_
  refine s_getI C (fgX4_9_5 _) g0 dX4_addressOf_1 ?_
  refine s_if_ne (tgt := 11) C dX4_addressOf_4 (by decide) (fun c3 => ?_) (fun c3 => ?_)
  ·
    refine s_iload_n C dX4_addressOf_11 rfl 1 rfl ?_
    refine s_callSN (host := "PinEngines") C R0 (kX12_unsigned (xl X) p1) (Nat.le_trans (by decide) V) mmX12_unsigned q1344 qn1599 rfl rfl rfl (Nat.le_of_ble_eq_true rfl) ⟨Nat.le_of_ble_eq_true rfl, Nat.le_of_ble_eq_true rfl, Nat.le_of_ble_eq_true rfl, Nat.le_of_ble_eq_true rfl⟩ dX4_addressOf_12 (fun y5 μ4 => ?_)
    refine g_st (st' := [.long y5]) rfl ?_
    refine s_aload_n C dX4_addressOf_15 rfl 0 rfl ?_
    refine s_getI C (fgX4_9_5 _) g0 dX4_addressOf_16 ?_
    refine s_i2l C dX4_addressOf_19 ?_
    refine s_lrem C dX4_addressOf_20 ?_
    refine s_l2i C dX4_addressOf_21 ?_
    exact g_sub [] rfl (hj22 μ4 ((y5 - y5 / ((μ4.1 5 n0 0).toInt64) * ((μ4.1 5 n0 0).toInt64)).toInt32))
  ·
    refine s_iconst (v := (0 : Int32)) C dX4_addressOf_7 (by decide) ?_
    refine s_goto (tgt := 22) C dX4_addressOf_8 (by decide) ?_
    exact g_sub [] rfl (hj22 μ (0 : Int32))
/-! PinEngines$QueryReader.compares(ILPinEngines$Symbol;I)Z -/
def fX6_compares (p0 : Int32) (n1 : Nat) (p2 : Int32) (μ : Mem) : Option (Int32 × Mem) :=
  if ¬ n1 = 9 then (
    jn (fun (μ2 : Mem) (x3 : Int32) =>
      ckZ x3 (some (x3, μ2))
    ) fun j48 =>
    if ¬ n1 = 11 then (
      if ¬ p0 = p2 then (
        j48 μ (0 : Int32)
      ) else (
        j48 μ (1 : Int32)
      )
    ) else (
      if p0 ≤ p2 then (
        j48 μ (0 : Int32)
      ) else (
        j48 μ (1 : Int32)
      )
    )
  ) else (
    jn (fun (μ7 : Mem) (x8 : Int32) =>
      ckZ x8 (some (x8, μ7))
    ) fun j17 =>
    if p2 ≤ p0 then (
      j17 μ (0 : Int32)
    ) else (
      j17 μ (1 : Int32)
    )
  )
set_option maxHeartbeats 4000000 in
set_option maxRecDepth 100000 in
theorem kX6_compares (l : Launch) (p0 : Int32) (n1 : Nat) (g1 : n1 < 74) (p2 : Int32) : Kon 0 l yX6_compares cX6_compares 3 (some .boolean) 0 0 0 0 (fun ad => [.int p0, .ref (ad 50 n1), .int p2]) rvI (fun μ => fX6_compares p0 n1 p2 μ) := by
  refine kon_of (by decide) (fun _ => Nat.le_of_ble_eq_true rfl) (fun X r0 μ hXl hXn V C E => ?_)
  have hN : ∀ i : Nat, i < 3 → i < xn X := fun i h => hXn.symm ▸ h
  have R0 := fen_rm E
  show G X r0 0 0 μ 0 [(0, .int p0), (1, .ref (xa X 50 n1)), (2, .int p2)] [] (fX6_compares p0 n1 p2 μ)
  unfold fX6_compares
  refine s_aload_n C dX6_compares_0 rfl 1 rfl ?_
  refine s_gsym (i := 9) C (by decide) rfl q1985 dX6_compares_1 ?_
  refine s_acmp_ne (tgt := 18) C g1 (by decide) dX6_compares_4 (by decide) (fun c1 => ?_) (fun c1 => ?_)
  ·
    refine g_jn (P := fun j48 => ∀ (μ2 : Mem) (x3 : Int32), G X r0 0 0 μ2 48 [] [.int x3] (j48 μ2 x3)) ?_ (fun j48 hj48 => ?_)
    · intro μ2 x3
      exact s_zret C E dX6_compares_48
    refine s_aload_n C dX6_compares_18 rfl 1 rfl ?_
    refine s_gsym (i := 11) C (by decide) rfl q1987 dX6_compares_19 ?_
    refine s_acmp_ne (tgt := 38) C g1 (by decide) dX6_compares_22 (by decide) (fun c4 => ?_) (fun c4 => ?_)
    ·
      refine s_iload_n C dX6_compares_38 rfl 0 rfl ?_
      refine s_iload_n C dX6_compares_39 rfl 2 rfl ?_
      refine s_icmp_ne (tgt := 47) C dX6_compares_40 (by decide) (fun c5 => ?_) (fun c5 => ?_)
      ·
        refine s_iconst (v := (0 : Int32)) C dX6_compares_47 (by decide) ?_
        exact g_sub [] rfl (hj48 μ (0 : Int32))
      ·
        refine s_iconst (v := (1 : Int32)) C dX6_compares_43 (by decide) ?_
        refine s_goto (tgt := 48) C dX6_compares_44 (by decide) ?_
        exact g_sub [] rfl (hj48 μ (1 : Int32))
    ·
      refine s_iload_n C dX6_compares_25 rfl 0 rfl ?_
      refine s_iload_n C dX6_compares_26 rfl 2 rfl ?_
      refine s_icmp_le (tgt := 34) C dX6_compares_27 (by decide) (fun c6 => ?_) (fun c6 => ?_)
      ·
        refine s_iconst (v := (0 : Int32)) C dX6_compares_34 (by decide) ?_
        refine s_goto (tgt := 48) C dX6_compares_35 (by decide) ?_
        exact g_sub [] rfl (hj48 μ (0 : Int32))
      ·
        refine s_iconst (v := (1 : Int32)) C dX6_compares_30 (by decide) ?_
        refine s_goto (tgt := 48) C dX6_compares_31 (by decide) ?_
        exact g_sub [] rfl (hj48 μ (1 : Int32))
  ·
    refine g_jn (P := fun j17 => ∀ (μ7 : Mem) (x8 : Int32), G X r0 0 0 μ7 17 [] [.int x8] (j17 μ7 x8)) ?_ (fun j17 hj17 => ?_)
    · intro μ7 x8
      exact s_zret C E dX6_compares_17
    refine s_iload_n C dX6_compares_7 rfl 0 rfl ?_
    refine s_iload_n C dX6_compares_8 rfl 2 rfl ?_
    refine s_icmp_ge (tgt := 16) C dX6_compares_9 (by decide) (fun c9 => ?_) (fun c9 => ?_)
    ·
      refine s_iconst (v := (0 : Int32)) C dX6_compares_16 (by decide) ?_
      exact g_sub [] rfl (hj17 μ (0 : Int32))
    ·
      refine s_iconst (v := (1 : Int32)) C dX6_compares_12 (by decide) ?_
      refine s_goto (tgt := 17) C dX6_compares_13 (by decide) ?_
      exact g_sub [] rfl (hj17 μ (1 : Int32))
/-! PinEngines$QueryReader.propertyOf(ILPinEngines$Symbol;)I -/
def fX6_propertyOf (n0 : Nat) (p1 : Int32) (n2 : Nat) (μ : Mem) : Option (Int32 × Mem) :=
  jn (fun (μ1 : Mem) (a2 : Nat) =>
    some ((μ1.1 19 (2 * a2 + 1) 0), μ1)
  ) fun j199 =>
  ckI p1 (4) <|
  ckI (syO.getD n2 0) 74 <|
  nm ((smL.getD (syO.getD n2 0).toNatClampNeg 0)) fun x7 =>
  if x7 = (20 : Int32) then (
    some ((μ.1 18 (4 * 0 + p1.toNatClampNeg) 1), μ)
  ) else (
  if x7 = (21 : Int32) then (
    some ((μ.1 18 (4 * 0 + p1.toNatClampNeg) 2), μ)
  ) else (
  if x7 = (22 : Int32) then (
    some ((μ.1 18 (4 * 0 + p1.toNatClampNeg) 3), μ)
  ) else (
  if x7 = (23 : Int32) then (
    some ((μ.1 18 (4 * 0 + p1.toNatClampNeg) 4), μ)
  ) else (
  if x7 = (24 : Int32) then (
    j199 μ (4 * 0 + p1.toNatClampNeg)
  ) else (
  if x7 = (25 : Int32) then (
    j199 μ (4 * 0 + p1.toNatClampNeg)
  ) else (
  if x7 = (26 : Int32) then (
    some ((μ.1 18 (4 * 0 + p1.toNatClampNeg) 0), μ)
  ) else (
  if x7 = (27 : Int32) then (
    j199 μ (4 * 0 + p1.toNatClampNeg)
  ) else (
  if x7 = (28 : Int32) then (
    j199 μ (4 * 0 + p1.toNatClampNeg)
  ) else (
  if x7 = (29 : Int32) then (
    j199 μ (4 * 0 + p1.toNatClampNeg)
  ) else (
  if x7 = (30 : Int32) then (
    j199 μ (4 * 0 + p1.toNatClampNeg)
  ) else (
  if x7 = (31 : Int32) then (
    j199 μ (4 * 0 + p1.toNatClampNeg)
  ) else (
  if x7 = (32 : Int32) then (
    j199 μ (4 * 0 + p1.toNatClampNeg)
  ) else (
  if x7 = (33 : Int32) then (
    j199 μ (4 * 0 + p1.toNatClampNeg)
  ) else (
  if x7 = (34 : Int32) then (
    j199 μ (4 * 0 + p1.toNatClampNeg)
  ) else (
  if x7 = (35 : Int32) then (
    j199 μ (4 * 0 + p1.toNatClampNeg)
  ) else (
  if x7 = (36 : Int32) then (
    j199 μ (4 * 0 + p1.toNatClampNeg)
  ) else (
  if x7 = (37 : Int32) then (
    j199 μ (4 * 0 + p1.toNatClampNeg)
  ) else (
  if x7 = (38 : Int32) then (
    j199 μ (4 * 0 + p1.toNatClampNeg)
  ) else (
  if x7 = (39 : Int32) then (
    j199 μ (4 * 0 + p1.toNatClampNeg)
  ) else (
  if x7 = (40 : Int32) then (
    j199 μ (4 * 0 + p1.toNatClampNeg)
  ) else (
  if x7 = (41 : Int32) then (
    j199 μ (4 * 0 + p1.toNatClampNeg)
  ) else (
  if x7 = (42 : Int32) then (
    some (p1, μ)
  ) else (
  if x7 = (43 : Int32) then (
    some ((μ.1 18 (4 * 0 + p1.toNatClampNeg) 5), μ)
  ) else (
  if x7 = (44 : Int32) then (
    some ((μ.1 18 (4 * 0 + p1.toNatClampNeg) 6), μ)
  ) else (
  if x7 = (45 : Int32) then (
    some ((μ.1 18 (4 * 0 + p1.toNatClampNeg) 7), μ)
  ) else (
  if x7 = (46 : Int32) then (
    some ((μ.1 18 (4 * 0 + p1.toNatClampNeg) 8), μ)
  ) else (
  if x7 = (47 : Int32) then (
    some ((μ.1 19 (2 * (4 * 0 + p1.toNatClampNeg)) 0), μ)
  ) else (
  j199 μ (4 * 0 + p1.toNatClampNeg)
  ))))))))))))))))))))))))))))
set_option maxHeartbeats 4000000 in
set_option maxRecDepth 100000 in
theorem kX6_propertyOf (l : Launch) (n0 : Nat) (g0 : n0 < 1) (p1 : Int32) (n2 : Nat) (g2 : n2 < 74) : Kon 0 l yX6_propertyOf cX6_propertyOf 4 (some .int) 1 20 0 0 (fun ad => [.ref (ad 23 n0), .int p1, .ref (ad 50 n2)]) rvI (fun μ => fX6_propertyOf n0 p1 n2 μ) := by
  refine kon_of (by decide) (fun _ => Nat.le_of_ble_eq_true rfl) (fun X r0 μ hXl hXn V C E => ?_)
  have hN : ∀ i : Nat, i < 4 → i < xn X := fun i h => hXn.symm ▸ h
  have R0 := fen_rm E
  show G X r0 0 0 μ 0 [(0, .ref (xa X 23 n0)), (1, .int p1), (2, .ref (xa X 50 n2))] [] (fX6_propertyOf n0 p1 n2 μ)
  unfold fX6_propertyOf
  refine g_jn (P := fun j199 => ∀ (μ1 : Mem) (a2 : Nat), a2 < 52 → G X r0 0 0 μ1 199 [(3, .ref (xa X 18 a2))] [] (j199 μ1 a2)) ?_ (fun j199 hj199 => ?_)
  · intro μ1 a2 b3
    refine s_aload_n C dX6_propertyOf_199 rfl 0 rfl ?_
    refine s_getF C (fgX6_162_18 _) b3 dX6_propertyOf_200 ?_
    have b4 : 2 * a2 + 1 < 104 := by omega
    refine s_getI C (fgX6_157_19 _) b4 dX6_propertyOf_203 ?_
    exact s_iret C E dX6_propertyOf_206
  refine s_aload_n C dX6_propertyOf_0 rfl 0 rfl ?_
  refine s_getF C (fgX6_22_23 _) g0 dX6_propertyOf_1 ?_
  refine s_getF C (fgX6_109_12 _) (by decide) dX6_propertyOf_4 ?_
  refine s_iload_n C dX6_propertyOf_7 rfl 1 rfl ?_
  refine s_aaldF C (ag14 _) (fun _ => rfl) (by decide) dX6_propertyOf_8 (fun c5 => ?_)
  have b6 : 4 * 0 + p1.toNatClampNeg < 52 := by have := c5; omega
  refine s_astore_n (L' := [(3, .ref (xa X 18 (4 * 0 + p1.toNatClampNeg))), (0, .ref (xa X 23 n0)), (1, .int p1), (2, .ref (xa X 50 n2))]) C dX6_propertyOf_9 rfl (hN 3 (by decide)) rfl ?_
  refine s_gmap C q1978 dX6_propertyOf_10 ?_
  refine s_aload_n C dX6_propertyOf_13 rfl 3 rfl ?_
  refine s_ordn C R0 g2 q1979 ⟨Nat.le_of_ble_eq_true rfl, Nat.le_of_ble_eq_true rfl, Nat.le_of_ble_eq_true rfl, Nat.le_of_ble_eq_true rfl⟩ (Nat.le_of_ble_eq_true rfl) dX6_propertyOf_14 ?_
  refine s_mapld C dX6_propertyOf_17 ?_
  refine g_nmI (fun x7 => ?_)
  refine g_cases (v := (20 : Int32)) (fun c8 => ?_) (fun c8 => ?_)
  ·
    refine s_tin (tgt := 151) C dX6_propertyOf_18 c8 (by decide) (by decide) rfl (by decide) ?_
    refine s_aload_n C dX6_propertyOf_151 rfl 0 rfl ?_
    refine s_getI C (fgX6_129_18 _) b6 dX6_propertyOf_152 ?_
    exact s_iret C E dX6_propertyOf_155
  ·
    refine g_cases (v := (21 : Int32)) (fun c9 => ?_) (fun c9 => ?_)
    ·
      refine s_tin (tgt := 156) C dX6_propertyOf_18 c9 (by decide) (by decide) rfl (by decide) ?_
      refine s_aload_n C dX6_propertyOf_156 rfl 0 rfl ?_
      refine s_getI C (fgX6_132_18 _) b6 dX6_propertyOf_157 ?_
      exact s_iret C E dX6_propertyOf_160
    ·
      refine g_cases (v := (22 : Int32)) (fun c10 => ?_) (fun c10 => ?_)
      ·
        refine s_tin (tgt := 161) C dX6_propertyOf_18 c10 (by decide) (by decide) rfl (by decide) ?_
        refine s_aload_n C dX6_propertyOf_161 rfl 0 rfl ?_
        refine s_getI C (fgX6_135_18 _) b6 dX6_propertyOf_162 ?_
        exact s_iret C E dX6_propertyOf_165
      ·
        refine g_cases (v := (23 : Int32)) (fun c11 => ?_) (fun c11 => ?_)
        ·
          refine s_tin (tgt := 166) C dX6_propertyOf_18 c11 (by decide) (by decide) rfl (by decide) ?_
          refine s_aload_n C dX6_propertyOf_166 rfl 0 rfl ?_
          refine s_getI C (fgX6_138_18 _) b6 dX6_propertyOf_167 ?_
          exact s_iret C E dX6_propertyOf_170
        ·
          refine g_cases (v := (24 : Int32)) (fun c12 => ?_) (fun c12 => ?_)
          ·
            refine s_tin (tgt := 199) C dX6_propertyOf_18 c12 (by decide) (by decide) rfl (by decide) ?_
            exact g_sub [0] rfl (hj199 μ (4 * 0 + p1.toNatClampNeg) b6)
          ·
            refine g_cases (v := (25 : Int32)) (fun c13 => ?_) (fun c13 => ?_)
            ·
              refine s_tin (tgt := 199) C dX6_propertyOf_18 c13 (by decide) (by decide) rfl (by decide) ?_
              exact g_sub [0] rfl (hj199 μ (4 * 0 + p1.toNatClampNeg) b6)
            ·
              refine g_cases (v := (26 : Int32)) (fun c14 => ?_) (fun c14 => ?_)
              ·
                refine s_tin (tgt := 146) C dX6_propertyOf_18 c14 (by decide) (by decide) rfl (by decide) ?_
                refine s_aload_n C dX6_propertyOf_146 rfl 0 rfl ?_
                refine s_getI C (fgX6_123_18 _) b6 dX6_propertyOf_147 ?_
                exact s_iret C E dX6_propertyOf_150
              ·
                refine g_cases (v := (27 : Int32)) (fun c15 => ?_) (fun c15 => ?_)
                ·
                  refine s_tin (tgt := 199) C dX6_propertyOf_18 c15 (by decide) (by decide) rfl (by decide) ?_
                  exact g_sub [0] rfl (hj199 μ (4 * 0 + p1.toNatClampNeg) b6)
                ·
                  refine g_cases (v := (28 : Int32)) (fun c16 => ?_) (fun c16 => ?_)
                  ·
                    refine s_tin (tgt := 199) C dX6_propertyOf_18 c16 (by decide) (by decide) rfl (by decide) ?_
                    exact g_sub [0] rfl (hj199 μ (4 * 0 + p1.toNatClampNeg) b6)
                  ·
                    refine g_cases (v := (29 : Int32)) (fun c17 => ?_) (fun c17 => ?_)
                    ·
                      refine s_tin (tgt := 199) C dX6_propertyOf_18 c17 (by decide) (by decide) rfl (by decide) ?_
                      exact g_sub [0] rfl (hj199 μ (4 * 0 + p1.toNatClampNeg) b6)
                    ·
                      refine g_cases (v := (30 : Int32)) (fun c18 => ?_) (fun c18 => ?_)
                      ·
                        refine s_tin (tgt := 199) C dX6_propertyOf_18 c18 (by decide) (by decide) rfl (by decide) ?_
                        exact g_sub [0] rfl (hj199 μ (4 * 0 + p1.toNatClampNeg) b6)
                      ·
                        refine g_cases (v := (31 : Int32)) (fun c19 => ?_) (fun c19 => ?_)
                        ·
                          refine s_tin (tgt := 199) C dX6_propertyOf_18 c19 (by decide) (by decide) rfl (by decide) ?_
                          exact g_sub [0] rfl (hj199 μ (4 * 0 + p1.toNatClampNeg) b6)
                        ·
                          refine g_cases (v := (32 : Int32)) (fun c20 => ?_) (fun c20 => ?_)
                          ·
                            refine s_tin (tgt := 199) C dX6_propertyOf_18 c20 (by decide) (by decide) rfl (by decide) ?_
                            exact g_sub [0] rfl (hj199 μ (4 * 0 + p1.toNatClampNeg) b6)
                          ·
                            refine g_cases (v := (33 : Int32)) (fun c21 => ?_) (fun c21 => ?_)
                            ·
                              refine s_tin (tgt := 199) C dX6_propertyOf_18 c21 (by decide) (by decide) rfl (by decide) ?_
                              exact g_sub [0] rfl (hj199 μ (4 * 0 + p1.toNatClampNeg) b6)
                            ·
                              refine g_cases (v := (34 : Int32)) (fun c22 => ?_) (fun c22 => ?_)
                              ·
                                refine s_tin (tgt := 199) C dX6_propertyOf_18 c22 (by decide) (by decide) rfl (by decide) ?_
                                exact g_sub [0] rfl (hj199 μ (4 * 0 + p1.toNatClampNeg) b6)
                              ·
                                refine g_cases (v := (35 : Int32)) (fun c23 => ?_) (fun c23 => ?_)
                                ·
                                  refine s_tin (tgt := 199) C dX6_propertyOf_18 c23 (by decide) (by decide) rfl (by decide) ?_
                                  exact g_sub [0] rfl (hj199 μ (4 * 0 + p1.toNatClampNeg) b6)
                                ·
                                  refine g_cases (v := (36 : Int32)) (fun c24 => ?_) (fun c24 => ?_)
                                  ·
                                    refine s_tin (tgt := 199) C dX6_propertyOf_18 c24 (by decide) (by decide) rfl (by decide) ?_
                                    exact g_sub [0] rfl (hj199 μ (4 * 0 + p1.toNatClampNeg) b6)
                                  ·
                                    refine g_cases (v := (37 : Int32)) (fun c25 => ?_) (fun c25 => ?_)
                                    ·
                                      refine s_tin (tgt := 199) C dX6_propertyOf_18 c25 (by decide) (by decide) rfl (by decide) ?_
                                      exact g_sub [0] rfl (hj199 μ (4 * 0 + p1.toNatClampNeg) b6)
                                    ·
                                      refine g_cases (v := (38 : Int32)) (fun c26 => ?_) (fun c26 => ?_)
                                      ·
                                        refine s_tin (tgt := 199) C dX6_propertyOf_18 c26 (by decide) (by decide) rfl (by decide) ?_
                                        exact g_sub [0] rfl (hj199 μ (4 * 0 + p1.toNatClampNeg) b6)
                                      ·
                                        refine g_cases (v := (39 : Int32)) (fun c27 => ?_) (fun c27 => ?_)
                                        ·
                                          refine s_tin (tgt := 199) C dX6_propertyOf_18 c27 (by decide) (by decide) rfl (by decide) ?_
                                          exact g_sub [0] rfl (hj199 μ (4 * 0 + p1.toNatClampNeg) b6)
                                        ·
                                          refine g_cases (v := (40 : Int32)) (fun c28 => ?_) (fun c28 => ?_)
                                          ·
                                            refine s_tin (tgt := 199) C dX6_propertyOf_18 c28 (by decide) (by decide) rfl (by decide) ?_
                                            exact g_sub [0] rfl (hj199 μ (4 * 0 + p1.toNatClampNeg) b6)
                                          ·
                                            refine g_cases (v := (41 : Int32)) (fun c29 => ?_) (fun c29 => ?_)
                                            ·
                                              refine s_tin (tgt := 199) C dX6_propertyOf_18 c29 (by decide) (by decide) rfl (by decide) ?_
                                              exact g_sub [0] rfl (hj199 μ (4 * 0 + p1.toNatClampNeg) b6)
                                            ·
                                              refine g_cases (v := (42 : Int32)) (fun c30 => ?_) (fun c30 => ?_)
                                              ·
                                                refine s_tin (tgt := 144) C dX6_propertyOf_18 c30 (by decide) (by decide) rfl (by decide) ?_
                                                refine s_iload_n C dX6_propertyOf_144 rfl 2 rfl ?_
                                                exact s_iret C E dX6_propertyOf_145
                                              ·
                                                refine g_cases (v := (43 : Int32)) (fun c31 => ?_) (fun c31 => ?_)
                                                ·
                                                  refine s_tin (tgt := 171) C dX6_propertyOf_18 c31 (by decide) (by decide) rfl (by decide) ?_
                                                  refine s_aload_n C dX6_propertyOf_171 rfl 0 rfl ?_
                                                  refine s_getI C (fgX6_141_18 _) b6 dX6_propertyOf_172 ?_
                                                  exact s_iret C E dX6_propertyOf_175
                                                ·
                                                  refine g_cases (v := (44 : Int32)) (fun c32 => ?_) (fun c32 => ?_)
                                                  ·
                                                    refine s_tin (tgt := 176) C dX6_propertyOf_18 c32 (by decide) (by decide) rfl (by decide) ?_
                                                    refine s_aload_n C dX6_propertyOf_176 rfl 0 rfl ?_
                                                    refine s_getI C (fgX6_144_18 _) b6 dX6_propertyOf_177 ?_
                                                    exact s_iret C E dX6_propertyOf_180
                                                  ·
                                                    refine g_cases (v := (45 : Int32)) (fun c33 => ?_) (fun c33 => ?_)
                                                    ·
                                                      refine s_tin (tgt := 181) C dX6_propertyOf_18 c33 (by decide) (by decide) rfl (by decide) ?_
                                                      refine s_aload_n C dX6_propertyOf_181 rfl 0 rfl ?_
                                                      refine s_getI C (fgX6_147_18 _) b6 dX6_propertyOf_182 ?_
                                                      exact s_iret C E dX6_propertyOf_185
                                                    ·
                                                      refine g_cases (v := (46 : Int32)) (fun c34 => ?_) (fun c34 => ?_)
                                                      ·
                                                        refine s_tin (tgt := 186) C dX6_propertyOf_18 c34 (by decide) (by decide) rfl (by decide) ?_
                                                        refine s_aload_n C dX6_propertyOf_186 rfl 0 rfl ?_
                                                        refine s_getI C (fgX6_150_18 _) b6 dX6_propertyOf_187 ?_
                                                        exact s_iret C E dX6_propertyOf_190
                                                      ·
                                                        refine g_cases (v := (47 : Int32)) (fun c35 => ?_) (fun c35 => ?_)
                                                        ·
                                                          refine s_tin (tgt := 191) C dX6_propertyOf_18 c35 (by decide) (by decide) rfl (by decide) ?_
                                                          refine s_aload_n C dX6_propertyOf_191 rfl 0 rfl ?_
                                                          refine s_getF C (fgX6_153_18 _) b6 dX6_propertyOf_192 ?_
                                                          have b36 : 2 * (4 * 0 + p1.toNatClampNeg) < 104 := by omega
                                                          refine s_getI C (fgX6_157_19 _) b36 dX6_propertyOf_195 ?_
                                                          exact s_iret C E dX6_propertyOf_198
                                                        ·
                                                          refine s_tout (tgt := 199) C dX6_propertyOf_18 (by have := ine (i := 20) (by decide) c8; have := ine (i := 21) (by decide) c9; have := ine (i := 22) (by decide) c10; have := ine (i := 23) (by decide) c11; have := ine (i := 24) (by decide) c12; have := ine (i := 25) (by decide) c13; have := ine (i := 26) (by decide) c14; have := ine (i := 27) (by decide) c15; have := ine (i := 28) (by decide) c16; have := ine (i := 29) (by decide) c17; have := ine (i := 30) (by decide) c18; have := ine (i := 31) (by decide) c19; have := ine (i := 32) (by decide) c20; have := ine (i := 33) (by decide) c21; have := ine (i := 34) (by decide) c22; have := ine (i := 35) (by decide) c23; have := ine (i := 36) (by decide) c24; have := ine (i := 37) (by decide) c25; have := ine (i := 38) (by decide) c26; have := ine (i := 39) (by decide) c27; have := ine (i := 40) (by decide) c28; have := ine (i := 41) (by decide) c29; have := ine (i := 42) (by decide) c30; have := ine (i := 43) (by decide) c31; have := ine (i := 44) (by decide) c32; have := ine (i := 45) (by decide) c33; have := ine (i := 46) (by decide) c34; have := ine (i := 47) (by decide) c35; omega) (by decide) ?_
                                                          exact g_sub [0] rfl (hj199 μ (4 * 0 + p1.toNatClampNeg) b6)
/-! PinEngines$Queue.clear(I)V -/
def fX7_clear (n0 : Nat) (p1 : Int32) (μ : Mem) : Option (Unit × Mem) :=
  nm (wI μ 19 n0 0 (0 : Int32)) fun μ1 =>
  nm (wI μ1 19 n0 2 (0 : Int32)) fun μ2 =>
  nm (wI μ2 19 n0 1 (if (0 : Int32) < (if (8 : Int32) < p1 then (8 : Int32) else p1) then (if (8 : Int32) < p1 then (8 : Int32) else p1) else (0 : Int32))) fun μ3 =>
  some ((), μ3)
set_option maxHeartbeats 4000000 in
set_option maxRecDepth 100000 in
theorem kX7_clear (l : Launch) (n0 : Nat) (g0 : n0 < 104) (p1 : Int32) : Kon 0 l yX7_clear cX7_clear 2 (none) 1 24 0 0 (fun ad => [.ref (ad 19 n0), .int p1]) rvV (fun μ => fX7_clear n0 p1 μ) := by
  refine kon_of (by decide) (fun _ => Nat.le_of_ble_eq_true rfl) (fun X r0 μ hXl hXn V C E => ?_)
  have hN : ∀ i : Nat, i < 2 → i < xn X := fun i h => hXn.symm ▸ h
  have R0 := fen_rm E
  show G X r0 0 0 μ 0 [(0, .ref (xa X 19 n0)), (1, .int p1)] [] (fX7_clear n0 p1 μ)
  unfold fX7_clear
  refine s_aload_n C dX7_clear_0 rfl 0 rfl ?_
  refine s_iconst (v := (0 : Int32)) C dX7_clear_1 (by decide) ?_
  refine s_putI C (fpX7_9_19 _) g0 dX7_clear_2 ?_
  refine g_nmM (fun μ1 => ?_)
  refine s_aload_n C dX7_clear_5 rfl 0 rfl ?_
  refine s_iconst (v := (0 : Int32)) C dX7_clear_6 (by decide) ?_
  refine s_putI C (fpX7_18_19 _) g0 dX7_clear_7 ?_
  refine g_nmM (fun μ2 => ?_)
  refine s_aload_n C dX7_clear_10 rfl 0 rfl ?_
  refine s_iconst (v := (0 : Int32)) C dX7_clear_11 (by decide) ?_
  refine s_iload_n C dX7_clear_12 rfl 1 rfl ?_
  refine s_bipush (v := (8 : Int32)) C dX7_clear_13 (by decide) ?_
  refine s_mmin C R0 q725 q726 q172 q727 ⟨Nat.le_of_ble_eq_true rfl, Nat.le_of_ble_eq_true rfl, Nat.le_of_ble_eq_true rfl, Nat.le_of_ble_eq_true rfl⟩ dX7_clear_15 ?_
  refine s_mmax C R0 q728 q729 q172 q730 ⟨Nat.le_of_ble_eq_true rfl, Nat.le_of_ble_eq_true rfl, Nat.le_of_ble_eq_true rfl, Nat.le_of_ble_eq_true rfl⟩ dX7_clear_18 ?_
  refine s_putI C (fpX7_15_19 _) g0 dX7_clear_21 ?_
  refine g_nmM (fun μ3 => ?_)
  exact s_vret C E dX7_clear_24
/-! PinEngines$Queue.copyFrom(LPinEngines$Queue;)V -/
def fX7_copyFrom (n0 : Nat) (n1 : Nat) (μ : Mem) : Option (Unit × Mem) :=
  nm (wI μ 19 n0 0 (μ.1 19 n1 0)) fun μ1 =>
  nm (wI μ1 19 n0 1 (μ1.1 19 n1 1)) fun μ2 =>
  nm (wI μ2 19 n0 2 (μ2.1 19 n1 2)) fun μ3 =>
  ckC (0 : Int32) (0 : Int32) (8 : Int32) (8) (8) <|
  nm (wC μ3 20 n1 (0 : Int32) 20 n0 (0 : Int32) (8 : Int32)) fun μ4 =>
  some ((), μ4)
set_option maxHeartbeats 4000000 in
set_option maxRecDepth 100000 in
theorem kX7_copyFrom (l : Launch) (n0 : Nat) (g0 : n0 < 104) (n1 : Nat) (g1 : n1 < 104) : Kon 0 l yX7_copyFrom cX7_copyFrom 2 (none) 1 40 0 0 (fun ad => [.ref (ad 19 n0), .ref (ad 19 n1)]) rvV (fun μ => fX7_copyFrom n0 n1 μ) := by
  refine kon_of (by decide) (fun _ => Nat.le_of_ble_eq_true rfl) (fun X r0 μ hXl hXn V C E => ?_)
  have hN : ∀ i : Nat, i < 2 → i < xn X := fun i h => hXn.symm ▸ h
  have R0 := fen_rm E
  show G X r0 0 0 μ 0 [(0, .ref (xa X 19 n0)), (1, .ref (xa X 19 n1))] [] (fX7_copyFrom n0 n1 μ)
  unfold fX7_copyFrom
  refine s_aload_n C dX7_copyFrom_0 rfl 0 rfl ?_
  refine s_aload_n C dX7_copyFrom_1 rfl 1 rfl ?_
  refine s_getI C (fgX7_9_19 _) g1 dX7_copyFrom_2 ?_
  refine s_putI C (fpX7_9_19 _) g0 dX7_copyFrom_5 ?_
  refine g_nmM (fun μ1 => ?_)
  refine s_aload_n C dX7_copyFrom_8 rfl 0 rfl ?_
  refine s_aload_n C dX7_copyFrom_9 rfl 1 rfl ?_
  refine s_getI C (fgX7_15_19 _) g1 dX7_copyFrom_10 ?_
  refine s_putI C (fpX7_15_19 _) g0 dX7_copyFrom_13 ?_
  refine g_nmM (fun μ2 => ?_)
  refine s_aload_n C dX7_copyFrom_16 rfl 0 rfl ?_
  refine s_aload_n C dX7_copyFrom_17 rfl 1 rfl ?_
  refine s_getI C (fgX7_18_19 _) g1 dX7_copyFrom_18 ?_
  refine s_putI C (fpX7_18_19 _) g0 dX7_copyFrom_21 ?_
  refine g_nmM (fun μ3 => ?_)
  refine s_aload_n C dX7_copyFrom_24 rfl 1 rfl ?_
  refine s_getF C (fgX7_21_19 _) g1 dX7_copyFrom_25 ?_
  refine s_iconst (v := (0 : Int32)) C dX7_copyFrom_28 (by decide) ?_
  refine s_aload_n C dX7_copyFrom_29 rfl 0 rfl ?_
  refine s_getF C (fgX7_21_19 _) g0 dX7_copyFrom_30 ?_
  refine s_iconst (v := (0 : Int32)) C dX7_copyFrom_33 (by decide) ?_
  refine s_bipush (v := (8 : Int32)) C dX7_copyFrom_34 (by decide) ?_
  refine s_acopy C R0 q885 q876 q875 q182 (ag20 _) (ag20 _) g1 g0 ⟨Nat.le_of_ble_eq_true rfl, by decide⟩ dX7_copyFrom_36 ?_
  refine g_nmM (fun μ4 => ?_)
  exact s_vret C E dX7_copyFrom_39
/-! PinEngines$Queue.isFull()Z -/
def fX7_isFull (n0 : Nat) (μ : Mem) : Option (Int32 × Mem) :=
  jn (fun (μ1 : Mem) (x2 : Int32) =>
    ckZ x2 (some (x2, μ1))
  ) fun j16 =>
  if (μ.1 19 n0 0) < (μ.1 19 n0 1) then (
    j16 μ (0 : Int32)
  ) else (
    j16 μ (1 : Int32)
  )
set_option maxHeartbeats 4000000 in
set_option maxRecDepth 100000 in
theorem kX7_isFull (l : Launch) (n0 : Nat) (g0 : n0 < 104) : Kon 0 l yX7_isFull cX7_isFull 1 (some .boolean) 0 0 0 0 (fun ad => [.ref (ad 19 n0)]) rvI (fun μ => fX7_isFull n0 μ) := by
  refine kon_of (by decide) (fun _ => Nat.le_of_ble_eq_true rfl) (fun X r0 μ hXl hXn V C E => ?_)
  have hN : ∀ i : Nat, i < 1 → i < xn X := fun i h => hXn.symm ▸ h
  have R0 := fen_rm E
  show G X r0 0 0 μ 0 [(0, .ref (xa X 19 n0))] [] (fX7_isFull n0 μ)
  unfold fX7_isFull
  refine g_jn (P := fun j16 => ∀ (μ1 : Mem) (x2 : Int32), G X r0 0 0 μ1 16 [] [.int x2] (j16 μ1 x2)) ?_ (fun j16 hj16 => ?_)
  · intro μ1 x2
    exact s_zret C E dX7_isFull_16
  refine s_aload_n C dX7_isFull_0 rfl 0 rfl ?_
  refine s_getI C (fgX7_9_19 _) g0 dX7_isFull_1 ?_
  refine s_aload_n C dX7_isFull_4 rfl 0 rfl ?_
  refine s_getI C (fgX7_15_19 _) g0 dX7_isFull_5 ?_
  refine s_icmp_lt (tgt := 15) C dX7_isFull_8 (by decide) (fun c3 => ?_) (fun c3 => ?_)
  ·
    refine s_iconst (v := (0 : Int32)) C dX7_isFull_15 (by decide) ?_
    exact g_sub [] rfl (hj16 μ (0 : Int32))
  ·
    refine s_iconst (v := (1 : Int32)) C dX7_isFull_11 (by decide) ?_
    refine s_goto (tgt := 16) C dX7_isFull_12 (by decide) ?_
    exact g_sub [] rfl (hj16 μ (1 : Int32))
/-! PinEngines$Queue.append(I)V -/
def fX7_append (n0 : Nat) (p1 : Int32) (μ : Mem) : Option (Unit × Mem) :=
  jn (fun (μ1 : Mem) =>
    some ((), μ1)
  ) fun j35 =>
  bnd (fX7_isFull n0 μ) fun x3 μ2 =>
  if ¬ x3 = 0 then (
    j35 μ2
  ) else (
    ckD (8 : Int32) <|
    ckI (((μ2.1 19 n0 2) + (μ2.1 19 n0 0)) - ((μ2.1 19 n0 2) + (μ2.1 19 n0 0)) / (8 : Int32) * (8 : Int32)) (8) <|
    nm (wI μ2 20 n0 (((μ2.1 19 n0 2) + (μ2.1 19 n0 0)) - ((μ2.1 19 n0 2) + (μ2.1 19 n0 0)) / (8 : Int32) * (8 : Int32)).toNatClampNeg p1) fun μ5 =>
    nm (wI μ5 19 n0 0 ((μ5.1 19 n0 0) + (1 : Int32))) fun μ6 =>
    j35 μ6
  )
set_option maxHeartbeats 4000000 in
set_option maxRecDepth 100000 in
theorem kX7_append (l : Launch) (n0 : Nat) (g0 : n0 < 104) (p1 : Int32) : Kon 0 l yX7_append cX7_append 2 (none) 1 20 0 0 (fun ad => [.ref (ad 19 n0), .int p1]) rvV (fun μ => fX7_append n0 p1 μ) := by
  refine kon_of (by decide) (fun _ => Nat.le_of_ble_eq_true rfl) (fun X r0 μ hXl hXn V C E => ?_)
  have hN : ∀ i : Nat, i < 2 → i < xn X := fun i h => hXn.symm ▸ h
  have R0 := fen_rm E
  show G X r0 0 0 μ 0 [(0, .ref (xa X 19 n0)), (1, .int p1)] [] (fX7_append n0 p1 μ)
  unfold fX7_append
  refine g_jn (P := fun j35 => ∀ (μ1 : Mem), G X r0 0 0 μ1 35 [] [] (j35 μ1)) ?_ (fun j35 hj35 => ?_)
  · intro μ1
    exact s_vret C E dX7_append_35
  refine s_aload_n C dX7_append_0 rfl 0 rfl ?_
  refine s_callV C R0 (kX7_isFull (xl X) n0 g0) (Nat.le_trans (by decide) V) mmX7_isFull miX7_isFull q1404 (rc19 _) g0 rfl rfl rfl (Nat.le_of_ble_eq_true rfl) ⟨Nat.le_of_ble_eq_true rfl, Nat.le_of_ble_eq_true rfl, Nat.le_of_ble_eq_true rfl, Nat.le_of_ble_eq_true rfl⟩ dX7_append_1 (fun x3 μ2 => ?_)
  refine g_st (st' := [.int x3]) rfl ?_
  refine s_if_ne (tgt := 35) C dX7_append_4 (by decide) (fun c4 => ?_) (fun c4 => ?_)
  ·
    exact g_sub [] rfl (hj35 μ2)
  ·
    refine s_aload_n C dX7_append_7 rfl 0 rfl ?_
    refine s_getF C (fgX7_21_19 _) g0 dX7_append_8 ?_
    refine s_aload_n C dX7_append_11 rfl 0 rfl ?_
    refine s_getI C (fgX7_18_19 _) g0 dX7_append_12 ?_
    refine s_aload_n C dX7_append_15 rfl 0 rfl ?_
    refine s_getI C (fgX7_9_19 _) g0 dX7_append_16 ?_
    refine s_iadd C dX7_append_19 ?_
    refine s_bipush (v := (8 : Int32)) C dX7_append_20 (by decide) ?_
    refine s_irem C dX7_append_22 ?_
    refine s_iload_n C dX7_append_23 rfl 1 rfl ?_
    refine s_iast C (ag20 _) g0 dX7_append_24 ?_
    refine g_nmM (fun μ5 => ?_)
    refine s_aload_n C dX7_append_25 rfl 0 rfl ?_
    refine s_dup C dX7_append_26 rfl ?_
    refine s_getI C (fgX7_9_19 _) g0 dX7_append_27 ?_
    refine s_iconst (v := (1 : Int32)) C dX7_append_30 (by decide) ?_
    refine s_iadd C dX7_append_31 ?_
    refine s_putI C (fpX7_9_19 _) g0 dX7_append_32 ?_
    refine g_nmM (fun μ6 => ?_)
    exact g_sub [] rfl (hj35 μ6)
/-! PinEngines$Queue.removeFirst()I -/
def fX7_removeFirst (n0 : Nat) (μ : Mem) : Option (Int32 × Mem) :=
  if ¬ (μ.1 19 n0 0) = 0 then (
    ckI (μ.1 19 n0 2) (8) <|
    nm ((μ.1 20 n0 (μ.1 19 n0 2).toNatClampNeg)) fun x2 =>
    ckD (8 : Int32) <|
    nm (wI μ 19 n0 2 (((μ.1 19 n0 2) + (1 : Int32)) - ((μ.1 19 n0 2) + (1 : Int32)) / (8 : Int32) * (8 : Int32))) fun μ3 =>
    nm (wI μ3 19 n0 0 ((μ3.1 19 n0 0) - (1 : Int32))) fun μ4 =>
    some (x2, μ4)
  ) else (
    some ((0 : Int32), μ)
  )
set_option maxHeartbeats 4000000 in
set_option maxRecDepth 100000 in
theorem kX7_removeFirst (l : Launch) (n0 : Nat) (g0 : n0 < 104) : Kon 0 l yX7_removeFirst cX7_removeFirst 2 (some .int) 0 0 0 0 (fun ad => [.ref (ad 19 n0)]) rvI (fun μ => fX7_removeFirst n0 μ) := by
  refine kon_of (by decide) (fun _ => Nat.le_of_ble_eq_true rfl) (fun X r0 μ hXl hXn V C E => ?_)
  have hN : ∀ i : Nat, i < 2 → i < xn X := fun i h => hXn.symm ▸ h
  have R0 := fen_rm E
  show G X r0 0 0 μ 0 [(0, .ref (xa X 19 n0))] [] (fX7_removeFirst n0 μ)
  unfold fX7_removeFirst
  refine s_aload_n C dX7_removeFirst_0 rfl 0 rfl ?_
  refine s_getI C (fgX7_9_19 _) g0 dX7_removeFirst_1 ?_
  refine s_if_ne (tgt := 9) C dX7_removeFirst_4 (by decide) (fun c1 => ?_) (fun c1 => ?_)
  ·
    refine s_aload_n C dX7_removeFirst_9 rfl 0 rfl ?_
    refine s_getF C (fgX7_21_19 _) g0 dX7_removeFirst_10 ?_
    refine s_aload_n C dX7_removeFirst_13 rfl 0 rfl ?_
    refine s_getI C (fgX7_18_19 _) g0 dX7_removeFirst_14 ?_
    refine s_iald C (ag20 _) g0 dX7_removeFirst_17 ?_
    refine g_nmI (fun x2 => ?_)
    refine s_istore_n (L' := [(1, .int x2), (0, .ref (xa X 19 n0))]) C dX7_removeFirst_18 rfl (hN 1 (by decide)) rfl ?_
    refine s_aload_n C dX7_removeFirst_19 rfl 1 rfl ?_
    refine s_aload_n C dX7_removeFirst_20 rfl 1 rfl ?_
    refine s_getI C (fgX7_18_19 _) g0 dX7_removeFirst_21 ?_
    refine s_iconst (v := (1 : Int32)) C dX7_removeFirst_24 (by decide) ?_
    refine s_iadd C dX7_removeFirst_25 ?_
    refine s_bipush (v := (8 : Int32)) C dX7_removeFirst_26 (by decide) ?_
    refine s_irem C dX7_removeFirst_28 ?_
    refine s_putI C (fpX7_18_19 _) g0 dX7_removeFirst_29 ?_
    refine g_nmM (fun μ3 => ?_)
    refine s_aload_n C dX7_removeFirst_32 rfl 1 rfl ?_
    refine s_dup C dX7_removeFirst_33 rfl ?_
    refine s_getI C (fgX7_9_19 _) g0 dX7_removeFirst_34 ?_
    refine s_iconst (v := (1 : Int32)) C dX7_removeFirst_37 (by decide) ?_
    refine s_isub C dX7_removeFirst_38 ?_
    refine s_putI C (fpX7_9_19 _) g0 dX7_removeFirst_39 ?_
    refine g_nmM (fun μ4 => ?_)
    refine s_iload_n C dX7_removeFirst_42 rfl 0 rfl ?_
    exact s_iret C E dX7_removeFirst_43
  ·
    refine s_iconst (v := (0 : Int32)) C dX7_removeFirst_7 (by decide) ?_
    exact s_iret C E dX7_removeFirst_8
/-! PinEngines$Queue.wordAt(I)I -/
def fX7_wordAt (n0 : Nat) (p1 : Int32) (μ : Mem) : Option (Int32 × Mem) :=
  jn (fun (μ1 : Mem) (x2 : Int32) =>
    some (x2, μ1)
  ) fun j30 =>
  jn (fun (μ3 : Mem) =>
    j30 μ3 (0 : Int32)
  ) fun j12 =>
  if p1 < 0 then (
    j12 μ
  ) else (
    if p1 < (μ.1 19 n0 0) then (
      ckD (8 : Int32) <|
      ckI (((μ.1 19 n0 2) + p1) - ((μ.1 19 n0 2) + p1) / (8 : Int32) * (8 : Int32)) (8) <|
      j30 μ (μ.1 20 n0 (((μ.1 19 n0 2) + p1) - ((μ.1 19 n0 2) + p1) / (8 : Int32) * (8 : Int32)).toNatClampNeg)
    ) else (
      j12 μ
    )
  )
set_option maxHeartbeats 4000000 in
set_option maxRecDepth 100000 in
theorem kX7_wordAt (l : Launch) (n0 : Nat) (g0 : n0 < 104) (p1 : Int32) : Kon 0 l yX7_wordAt cX7_wordAt 2 (some .int) 0 0 0 0 (fun ad => [.ref (ad 19 n0), .int p1]) rvI (fun μ => fX7_wordAt n0 p1 μ) := by
  refine kon_of (by decide) (fun _ => Nat.le_of_ble_eq_true rfl) (fun X r0 μ hXl hXn V C E => ?_)
  have hN : ∀ i : Nat, i < 2 → i < xn X := fun i h => hXn.symm ▸ h
  have R0 := fen_rm E
  show G X r0 0 0 μ 0 [(0, .ref (xa X 19 n0)), (1, .int p1)] [] (fX7_wordAt n0 p1 μ)
  unfold fX7_wordAt
  refine g_jn (P := fun j30 => ∀ (μ1 : Mem) (x2 : Int32), G X r0 0 0 μ1 30 [] [.int x2] (j30 μ1 x2)) ?_ (fun j30 hj30 => ?_)
  · intro μ1 x2
    exact s_iret C E dX7_wordAt_30
  refine g_jn (P := fun j12 => ∀ (μ3 : Mem), G X r0 0 0 μ3 12 [] [] (j12 μ3)) ?_ (fun j12 hj12 => ?_)
  · intro μ3
    refine s_iconst (v := (0 : Int32)) C dX7_wordAt_12 (by decide) ?_
    refine s_goto (tgt := 30) C dX7_wordAt_13 (by decide) ?_
    exact g_sub [] rfl (hj30 μ3 (0 : Int32))
  refine s_iload_n C dX7_wordAt_0 rfl 1 rfl ?_
  refine s_if_lt (tgt := 12) C dX7_wordAt_1 (by decide) (fun c4 => ?_) (fun c4 => ?_)
  ·
    exact g_sub [] rfl (hj12 μ)
  ·
    refine s_iload_n C dX7_wordAt_4 rfl 1 rfl ?_
    refine s_aload_n C dX7_wordAt_5 rfl 0 rfl ?_
    refine s_getI C (fgX7_9_19 _) g0 dX7_wordAt_6 ?_
    refine s_icmp_lt (tgt := 16) C dX7_wordAt_9 (by decide) (fun c5 => ?_) (fun c5 => ?_)
    ·
      refine s_aload_n C dX7_wordAt_16 rfl 0 rfl ?_
      refine s_getF C (fgX7_21_19 _) g0 dX7_wordAt_17 ?_
      refine s_aload_n C dX7_wordAt_20 rfl 0 rfl ?_
      refine s_getI C (fgX7_18_19 _) g0 dX7_wordAt_21 ?_
      refine s_iload_n C dX7_wordAt_24 rfl 1 rfl ?_
      refine s_iadd C dX7_wordAt_25 ?_
      refine s_bipush (v := (8 : Int32)) C dX7_wordAt_26 (by decide) ?_
      refine s_irem C dX7_wordAt_28 ?_
      refine s_iald C (ag20 _) g0 dX7_wordAt_29 ?_
      exact g_sub [] rfl (hj30 μ (μ.1 20 n0 (((μ.1 19 n0 2) + p1) - ((μ.1 19 n0 2) + p1) / (8 : Int32) * (8 : Int32)).toNatClampNeg))
    ·
      exact g_sub [] rfl (hj12 μ)
/-! PinEngines$Setup.clear()V -/
def fX8_clear (n0 : Nat) (μ : Mem) : Option (Unit × Mem) :=
  ckZ (0 : Int32) <|
  nm (wI μ 8 n0 0 (0 : Int32)) fun μ1 =>
  nm (wI μ1 8 n0 1 (0 : Int32)) fun μ2 =>
  nm (wI μ2 8 n0 2 (0 : Int32)) fun μ3 =>
  nm (wI μ3 8 n0 3 (-1 : Int32)) fun μ4 =>
  nm (wI μ4 8 n0 4 (256 : Int32)) fun μ5 =>
  nm (wI μ5 8 n0 5 (0 : Int32)) fun μ6 =>
  nm (wI μ6 8 n0 6 (0 : Int32)) fun μ7 =>
  nm (wI μ7 8 n0 7 (0 : Int32)) fun μ8 =>
  nm (wI μ8 8 n0 8 (0 : Int32)) fun μ9 =>
  nm (wI μ9 8 n0 9 (0 : Int32)) fun μ10 =>
  nm (wI μ10 8 n0 10 (0 : Int32)) fun μ11 =>
  nm (wI μ11 8 n0 11 (0 : Int32)) fun μ12 =>
  nm (wI μ12 8 n0 12 (0 : Int32)) fun μ13 =>
  ckZ (0 : Int32) <|
  nm (wI μ13 8 n0 13 (0 : Int32)) fun μ14 =>
  ckZ (0 : Int32) <|
  nm (wI μ14 8 n0 14 (0 : Int32)) fun μ15 =>
  ckZ (0 : Int32) <|
  nm (wI μ15 8 n0 15 (0 : Int32)) fun μ16 =>
  ckZ (0 : Int32) <|
  nm (wI μ16 8 n0 16 (0 : Int32)) fun μ17 =>
  nm (wI μ17 8 n0 17 (32 : Int32)) fun μ18 =>
  nm (wI μ18 8 n0 18 (32 : Int32)) fun μ19 =>
  nm (wI μ19 8 n0 19 (4 : Int32)) fun μ20 =>
  some ((), μ20)
set_option maxHeartbeats 4000000 in
set_option maxRecDepth 100000 in
theorem kX8_clear (l : Launch) (n0 : Nat) (g0 : n0 < 8) : Kon 0 l yX8_clear cX8_clear 1 (none) 0 0 0 0 (fun ad => [.ref (ad 8 n0)]) rvV (fun μ => fX8_clear n0 μ) := by
  refine kon_of (by decide) (fun _ => Nat.le_of_ble_eq_true rfl) (fun X r0 μ hXl hXn V C E => ?_)
  have hN : ∀ i : Nat, i < 1 → i < xn X := fun i h => hXn.symm ▸ h
  have R0 := fen_rm E
  show G X r0 0 0 μ 0 [(0, .ref (xa X 8 n0))] [] (fX8_clear n0 μ)
  unfold fX8_clear
  refine s_aload_n C dX8_clear_0 rfl 0 rfl ?_
  refine s_iconst (v := (0 : Int32)) C dX8_clear_1 (by decide) ?_
  refine s_putZ C (fpX8_14_8 _) g0 dX8_clear_2 ?_
  refine g_nmM (fun μ1 => ?_)
  refine s_aload_n C dX8_clear_5 rfl 0 rfl ?_
  refine s_iconst (v := (0 : Int32)) C dX8_clear_6 (by decide) ?_
  refine s_putI C (fpX8_18_8 _) g0 dX8_clear_7 ?_
  refine g_nmM (fun μ2 => ?_)
  refine s_aload_n C dX8_clear_10 rfl 0 rfl ?_
  refine s_iconst (v := (0 : Int32)) C dX8_clear_11 (by decide) ?_
  refine s_putI C (fpX8_22_8 _) g0 dX8_clear_12 ?_
  refine g_nmM (fun μ3 => ?_)
  refine s_aload_n C dX8_clear_15 rfl 0 rfl ?_
  refine s_iconst (v := (-1 : Int32)) C dX8_clear_16 (by decide) ?_
  refine s_putI C (fpX8_25_8 _) g0 dX8_clear_17 ?_
  refine g_nmM (fun μ4 => ?_)
  refine s_aload_n C dX8_clear_20 rfl 0 rfl ?_
  refine s_sipush (v := (256 : Int32)) C dX8_clear_21 (by decide) ?_
  refine s_putI C (fpX8_28_8 _) g0 dX8_clear_24 ?_
  refine g_nmM (fun μ5 => ?_)
  refine s_aload_n C dX8_clear_27 rfl 0 rfl ?_
  refine s_iconst (v := (0 : Int32)) C dX8_clear_28 (by decide) ?_
  refine s_putI C (fpX8_31_8 _) g0 dX8_clear_29 ?_
  refine g_nmM (fun μ6 => ?_)
  refine s_aload_n C dX8_clear_32 rfl 0 rfl ?_
  refine s_iconst (v := (0 : Int32)) C dX8_clear_33 (by decide) ?_
  refine s_putI C (fpX8_34_8 _) g0 dX8_clear_34 ?_
  refine g_nmM (fun μ7 => ?_)
  refine s_aload_n C dX8_clear_37 rfl 0 rfl ?_
  refine s_iconst (v := (0 : Int32)) C dX8_clear_38 (by decide) ?_
  refine s_putI C (fpX8_37_8 _) g0 dX8_clear_39 ?_
  refine g_nmM (fun μ8 => ?_)
  refine s_aload_n C dX8_clear_42 rfl 0 rfl ?_
  refine s_iconst (v := (0 : Int32)) C dX8_clear_43 (by decide) ?_
  refine s_putI C (fpX8_40_8 _) g0 dX8_clear_44 ?_
  refine g_nmM (fun μ9 => ?_)
  refine s_aload_n C dX8_clear_47 rfl 0 rfl ?_
  refine s_iconst (v := (0 : Int32)) C dX8_clear_48 (by decide) ?_
  refine s_putI C (fpX8_43_8 _) g0 dX8_clear_49 ?_
  refine g_nmM (fun μ10 => ?_)
  refine s_aload_n C dX8_clear_52 rfl 0 rfl ?_
  refine s_iconst (v := (0 : Int32)) C dX8_clear_53 (by decide) ?_
  refine s_putI C (fpX8_46_8 _) g0 dX8_clear_54 ?_
  refine g_nmM (fun μ11 => ?_)
  refine s_aload_n C dX8_clear_57 rfl 0 rfl ?_
  refine s_iconst (v := (0 : Int32)) C dX8_clear_58 (by decide) ?_
  refine s_putI C (fpX8_49_8 _) g0 dX8_clear_59 ?_
  refine g_nmM (fun μ12 => ?_)
  refine s_aload_n C dX8_clear_62 rfl 0 rfl ?_
  refine s_iconst (v := (0 : Int32)) C dX8_clear_63 (by decide) ?_
  refine s_putI C (fpX8_52_8 _) g0 dX8_clear_64 ?_
  refine g_nmM (fun μ13 => ?_)
  refine s_aload_n C dX8_clear_67 rfl 0 rfl ?_
  refine s_iconst (v := (0 : Int32)) C dX8_clear_68 (by decide) ?_
  refine s_putZ C (fpX8_55_8 _) g0 dX8_clear_69 ?_
  refine g_nmM (fun μ14 => ?_)
  refine s_aload_n C dX8_clear_72 rfl 0 rfl ?_
  refine s_iconst (v := (0 : Int32)) C dX8_clear_73 (by decide) ?_
  refine s_putZ C (fpX8_58_8 _) g0 dX8_clear_74 ?_
  refine g_nmM (fun μ15 => ?_)
  refine s_aload_n C dX8_clear_77 rfl 0 rfl ?_
  refine s_iconst (v := (0 : Int32)) C dX8_clear_78 (by decide) ?_
  refine s_putZ C (fpX8_61_8 _) g0 dX8_clear_79 ?_
  refine g_nmM (fun μ16 => ?_)
  refine s_aload_n C dX8_clear_82 rfl 0 rfl ?_
  refine s_iconst (v := (0 : Int32)) C dX8_clear_83 (by decide) ?_
  refine s_putZ C (fpX8_64_8 _) g0 dX8_clear_84 ?_
  refine g_nmM (fun μ17 => ?_)
  refine s_aload_n C dX8_clear_87 rfl 0 rfl ?_
  refine s_bipush (v := (32 : Int32)) C dX8_clear_88 (by decide) ?_
  refine s_putI C (fpX8_67_8 _) g0 dX8_clear_90 ?_
  refine g_nmM (fun μ18 => ?_)
  refine s_aload_n C dX8_clear_93 rfl 0 rfl ?_
  refine s_bipush (v := (32 : Int32)) C dX8_clear_94 (by decide) ?_
  refine s_putI C (fpX8_70_8 _) g0 dX8_clear_96 ?_
  refine g_nmM (fun μ19 => ?_)
  refine s_aload_n C dX8_clear_99 rfl 0 rfl ?_
  refine s_iconst (v := (4 : Int32)) C dX8_clear_100 (by decide) ?_
  refine s_putI C (fpX8_73_8 _) g0 dX8_clear_101 ?_
  refine g_nmM (fun μ20 => ?_)
  exact s_vret C E dX8_clear_104
/-! PinEngines$Setup.outputRoom()I -/
def fX8_outputRoom (n0 : Nat) (μ : Mem) : Option (Int32 × Mem) :=
  some (((8 : Int32) - (μ.1 8 n0 19)), μ)
set_option maxHeartbeats 4000000 in
set_option maxRecDepth 100000 in
theorem kX8_outputRoom (l : Launch) (n0 : Nat) (g0 : n0 < 8) : Kon 0 l yX8_outputRoom cX8_outputRoom 1 (some .int) 0 0 0 0 (fun ad => [.ref (ad 8 n0)]) rvI (fun μ => fX8_outputRoom n0 μ) := by
  refine kon_of (by decide) (fun _ => Nat.le_of_ble_eq_true rfl) (fun X r0 μ hXl hXn V C E => ?_)
  have hN : ∀ i : Nat, i < 1 → i < xn X := fun i h => hXn.symm ▸ h
  have R0 := fen_rm E
  show G X r0 0 0 μ 0 [(0, .ref (xa X 8 n0))] [] (fX8_outputRoom n0 μ)
  unfold fX8_outputRoom
  refine s_bipush (v := (8 : Int32)) C dX8_outputRoom_0 (by decide) ?_
  refine s_aload_n C dX8_outputRoom_2 rfl 0 rfl ?_
  refine s_getI C (fgX8_73_8 _) g0 dX8_outputRoom_3 ?_
  refine s_isub C dX8_outputRoom_6 ?_
  exact s_iret C E dX8_outputRoom_7
/-! PinEngines$Simulator.tickingEngines()I -/
def fX9_tickingEngines (fu : Nat) (n0 : Nat) (μ : Mem) : Option (Int32 × Mem) :=
  jn (lp (fun _ _ _ => none) fu (fun j4 (μ1 : Mem) (x2 : Int32) (x3 : Int32) =>
    if (4 : Int32) ≤ x3 then (
      some (x2, μ1)
    ) else (
      jn (fun (μ5 : Mem) (x6 : Int32) (x7 : Int32) =>
        nm (x7 + (1 : Int32)) fun x8 =>
        j4 μ5 x6 x8
      ) fun j48 =>
      nm (μ1.2.1 22 n0 0) fun a9 =>
      ckB a9 2 <|
      ckI x3 (4) <|
      if (μ1.1 8 (4 * a9 + x3.toNatClampNeg) 0) = 0 then (
        j48 μ1 x2 x3
      ) else (
        nm (μ1.2.1 22 n0 1) fun a14 =>
        ckB a14 13 <|
        ckI x3 (4) <|
        bnd (fX1_countCycle (4 * a14 + x3.toNatClampNeg) (4 * a9 + x3.toNatClampNeg) μ1) fun x19 μ18 =>
        if x19 = 0 then (
          j48 μ18 x2 x3
        ) else (
          nm ((x2 ||| ((1 : Int32) <<< (x3 &&& 31)))) fun x21 =>
          j48 μ18 x21 x3
        )
      )
    )
  )) fun j4 =>
  j4 μ (0 : Int32) (0 : Int32)
set_option maxHeartbeats 4000000 in
set_option maxRecDepth 100000 in
theorem kX9_tickingEngines (l : Launch) (fu : Nat) (n0 : Nat) (g0 : n0 < 1) : Kon 0 l yX9_tickingEngines cX9_tickingEngines 4 (some .int) 1 21 0 0 (fun ad => [.ref (ad 22 n0)]) rvI (fun μ => fX9_tickingEngines fu n0 μ) := by
  refine kon_of (by decide) (fun _ => Nat.le_of_ble_eq_true rfl) (fun X r0 μ hXl hXn V C E => ?_)
  have hN : ∀ i : Nat, i < 4 → i < xn X := fun i h => hXn.symm ▸ h
  have R0 := fen_rm E
  show G X r0 0 0 μ 0 [(0, .ref (xa X 22 n0))] [] (fX9_tickingEngines fu n0 μ)
  unfold fX9_tickingEngines
  refine g_jl (P := fun j4 => ∀ (μ1 : Mem) (x2 : Int32) (x3 : Int32), G X r0 0 0 μ1 4 [(0, .ref (xa X 22 n0)), (1, .int x2), (2, .int x3)] [] (j4 μ1 x2 x3)) (fun _ _ _ => g_none) (fun j4 hj4 => ?_) (fun j4 hj4 => ?_)
  · intro μ1 x2 x3
    refine s_iload_n C dX9_tickingEngines_4 rfl 2 rfl ?_
    refine s_iconst (v := (4 : Int32)) C dX9_tickingEngines_5 (by decide) ?_
    refine s_icmp_ge (tgt := 54) C dX9_tickingEngines_6 (by decide) (fun c4 => ?_) (fun c4 => ?_)
    ·
      refine s_iload_n C dX9_tickingEngines_54 rfl 1 rfl ?_
      exact s_iret C E dX9_tickingEngines_55
    ·
      refine g_jn (P := fun j48 => ∀ (μ5 : Mem) (x6 : Int32) (x7 : Int32), G X r0 0 0 μ5 48 [(0, .ref (xa X 22 n0)), (1, .int x6), (2, .int x7)] [] (j48 μ5 x6 x7)) ?_ (fun j48 hj48 => ?_)
      · intro μ5 x6 x7
        refine g_nmQ (fun x8 ex8 => ?_)
        refine s_iinc (v := x8) (j := 2) (L' := [(2, .int x8), (0, .ref (xa X 22 n0)), (1, .int x6)]) C dX9_tickingEngines_48 rfl (by rw [ex8]; rfl) (hN 2 (by decide)) rfl ?_
        refine s_goto (tgt := 4) C dX9_tickingEngines_51 (by decide) ?_
        exact g_sub [1, 2, 0] rfl (hj4 μ5 x6 x8)
      refine s_aload_n C dX9_tickingEngines_9 rfl 0 rfl ?_
      refine s_getM C (fgX9_9_22 _) g0 dX9_tickingEngines_10 ?_
      refine g_nmA (fun a9 => ?_)
      refine g_ckB (fun b10 => ?_)
      refine s_getF C (fgX9_52_5 _) b10 dX9_tickingEngines_13 ?_
      refine s_iload_n C dX9_tickingEngines_16 rfl 2 rfl ?_
      refine s_aaldF C (ag6 _) (fun _ => rfl) b10 dX9_tickingEngines_17 (fun c11 => ?_)
      have b12 : 4 * a9 + x3.toNatClampNeg < 8 := by have := c11; omega
      refine s_astore_n (L' := [(3, .ref (xa X 8 (4 * a9 + x3.toNatClampNeg))), (0, .ref (xa X 22 n0)), (1, .int x2), (2, .int x3)]) C dX9_tickingEngines_18 rfl (hN 3 (by decide)) rfl ?_
      refine s_aload_n C dX9_tickingEngines_19 rfl 0 rfl ?_
      refine s_getI C (fgX9_65_8 _) b12 dX9_tickingEngines_20 ?_
      refine s_if_eq (tgt := 48) C dX9_tickingEngines_23 (by decide) (fun c13 => ?_) (fun c13 => ?_)
      ·
        exact g_sub [1, 2, 3] rfl (hj48 μ1 x2 x3)
      ·
        refine s_aload_n C dX9_tickingEngines_26 rfl 1 rfl ?_
        refine s_getM C (fgX9_15_22 _) g0 dX9_tickingEngines_27 ?_
        refine g_nmA (fun a14 => ?_)
        refine g_ckB (fun b15 => ?_)
        refine s_getF C (fgX9_48_12 _) b15 dX9_tickingEngines_30 ?_
        refine s_iload_n C dX9_tickingEngines_33 rfl 3 rfl ?_
        refine s_aaldF C (ag14 _) (fun _ => rfl) b15 dX9_tickingEngines_34 (fun c16 => ?_)
        have b17 : 4 * a14 + x3.toNatClampNeg < 52 := by have := c16; omega
        refine s_aload_n C dX9_tickingEngines_35 rfl 0 rfl ?_
        refine s_callV C R0 (kX1_countCycle (xl X) (4 * a14 + x3.toNatClampNeg) b17 (4 * a9 + x3.toNatClampNeg) b12) (Nat.le_trans (by decide) V) mmX1_countCycle miX1_countCycle q1486 (rc18 _) b17 rfl rfl rfl (Nat.le_of_ble_eq_true rfl) ⟨Nat.le_of_ble_eq_true rfl, Nat.le_of_ble_eq_true rfl, Nat.le_of_ble_eq_true rfl, Nat.le_of_ble_eq_true rfl⟩ dX9_tickingEngines_36 (fun x19 μ18 => ?_)
        refine g_st (st' := [.int x19]) rfl ?_
        refine s_if_eq (tgt := 48) C dX9_tickingEngines_39 (by decide) (fun c20 => ?_) (fun c20 => ?_)
        ·
          exact g_sub [1, 2, 3] rfl (hj48 μ18 x2 x3)
        ·
          refine s_iload_n C dX9_tickingEngines_42 rfl 2 rfl ?_
          refine s_iconst (v := (1 : Int32)) C dX9_tickingEngines_43 (by decide) ?_
          refine s_iload_n C dX9_tickingEngines_44 rfl 3 rfl ?_
          refine s_ishl C dX9_tickingEngines_45 ?_
          refine s_ior C dX9_tickingEngines_46 ?_
          refine g_nmI (fun x21 => ?_)
          refine s_istore_n (L' := [(1, .int x21), (3, .ref (xa X 8 (4 * a9 + x3.toNatClampNeg))), (0, .ref (xa X 22 n0)), (2, .int x3)]) C dX9_tickingEngines_47 rfl (hN 1 (by decide)) rfl ?_
          exact g_sub [2, 0, 3] rfl (hj48 μ18 x21 x3)
  refine s_iconst (v := (0 : Int32)) C dX9_tickingEngines_0 (by decide) ?_
  refine s_istore_n (L' := [(1, .int (0 : Int32)), (0, .ref (xa X 22 n0))]) C dX9_tickingEngines_1 rfl (hN 1 (by decide)) rfl ?_
  refine s_iconst (v := (0 : Int32)) C dX9_tickingEngines_2 (by decide) ?_
  refine s_istore_n (L' := [(2, .int (0 : Int32)), (1, .int (0 : Int32)), (0, .ref (xa X 22 n0))]) C dX9_tickingEngines_3 rfl (hN 2 (by decide)) rfl ?_
  exact g_sub [2, 1, 0] rfl (hj4 μ (0 : Int32) (0 : Int32))
/-! PinEngines$Simulator.wantsPort(LPinEngines$Engine;)Z -/
def fX9_wantsPort (n0 : Nat) (n1 : Nat) (μ : Mem) : Option (Int32 × Mem) :=
  jn (fun (μ1 : Mem) (x2 : Int32) =>
    ckZ x2 (some (x2, μ1))
  ) fun j29 =>
  jn (fun (μ3 : Mem) =>
    j29 μ3 (0 : Int32)
  ) fun j28 =>
  if ¬ (μ.1 18 n1 7) = 0 then (
    j28 μ
  ) else (
    nm (μ.2.1 22 n0 0) fun a5 =>
    ckB a5 2 <|
    bnd (fX4_instructionAt a5 (μ.1 18 n1 0) μ) fun a8 μ7 =>
    ckB a8 66 <|
    bnd (fX2_usesPort a8 μ7) fun x11 μ10 =>
    if x11 = 0 then (
      j28 μ10
    ) else (
      j29 μ10 (1 : Int32)
    )
  )
set_option maxHeartbeats 4000000 in
set_option maxRecDepth 100000 in
theorem kX9_wantsPort (l : Launch) (n0 : Nat) (g0 : n0 < 1) (n1 : Nat) (g1 : n1 < 52) : Kon 0 l yX9_wantsPort cX9_wantsPort 2 (some .boolean) 1 21 0 0 (fun ad => [.ref (ad 22 n0), .ref (ad 18 n1)]) rvI (fun μ => fX9_wantsPort n0 n1 μ) := by
  refine kon_of (by decide) (fun _ => Nat.le_of_ble_eq_true rfl) (fun X r0 μ hXl hXn V C E => ?_)
  have hN : ∀ i : Nat, i < 2 → i < xn X := fun i h => hXn.symm ▸ h
  have R0 := fen_rm E
  show G X r0 0 0 μ 0 [(0, .ref (xa X 22 n0)), (1, .ref (xa X 18 n1))] [] (fX9_wantsPort n0 n1 μ)
  unfold fX9_wantsPort
  refine g_jn (P := fun j29 => ∀ (μ1 : Mem) (x2 : Int32), G X r0 0 0 μ1 29 [] [.int x2] (j29 μ1 x2)) ?_ (fun j29 hj29 => ?_)
  · intro μ1 x2
    exact s_zret C E dX9_wantsPort_29
  refine g_jn (P := fun j28 => ∀ (μ3 : Mem), G X r0 0 0 μ3 28 [] [] (j28 μ3)) ?_ (fun j28 hj28 => ?_)
  · intro μ3
    refine s_iconst (v := (0 : Int32)) C dX9_wantsPort_28 (by decide) ?_
    exact g_sub [] rfl (hj29 μ3 (0 : Int32))
  refine s_aload_n C dX9_wantsPort_0 rfl 1 rfl ?_
  refine s_getI C (fgX9_84_18 _) g1 dX9_wantsPort_1 ?_
  refine s_if_ne (tgt := 28) C dX9_wantsPort_4 (by decide) (fun c4 => ?_) (fun c4 => ?_)
  ·
    exact g_sub [] rfl (hj28 μ)
  ·
    refine s_aload_n C dX9_wantsPort_7 rfl 0 rfl ?_
    refine s_getM C (fgX9_9_22 _) g0 dX9_wantsPort_8 ?_
    refine g_nmA (fun a5 => ?_)
    refine g_ckB (fun b6 => ?_)
    refine s_aload_n C dX9_wantsPort_11 rfl 1 rfl ?_
    refine s_getI C (fgX9_87_18 _) g1 dX9_wantsPort_12 ?_
    refine s_callV C R0 (kX4_instructionAt (xl X) a5 b6 (μ.1 18 n1 0)) (Nat.le_trans (by decide) V) mmX4_instructionAt miX4_instructionAt q1498 (rc5 _) b6 rfl rfl rfl (Nat.le_of_ble_eq_true rfl) ⟨Nat.le_of_ble_eq_true rfl, Nat.le_of_ble_eq_true rfl, Nat.le_of_ble_eq_true rfl, Nat.le_of_ble_eq_true rfl⟩ dX9_wantsPort_15 (fun a8 μ7 => ?_)
    refine g_st (st' := [.ref (xa X 9 a8)]) rfl ?_
    refine g_ckB (fun b9 => ?_)
    refine s_callV C R0 (kX2_usesPort (xl X) a8 b9) (Nat.le_trans (by decide) V) mmX2_usesPort miX2_usesPort q1502 (rc9 _) b9 rfl rfl rfl (Nat.le_of_ble_eq_true rfl) ⟨Nat.le_of_ble_eq_true rfl, Nat.le_of_ble_eq_true rfl, Nat.le_of_ble_eq_true rfl, Nat.le_of_ble_eq_true rfl⟩ dX9_wantsPort_18 (fun x11 μ10 => ?_)
    refine g_st (st' := [.int x11]) rfl ?_
    refine s_if_eq (tgt := 28) C dX9_wantsPort_21 (by decide) (fun c12 => ?_) (fun c12 => ?_)
    ·
      exact g_sub [] rfl (hj28 μ10)
    ·
      refine s_iconst (v := (1 : Int32)) C dX9_wantsPort_24 (by decide) ?_
      refine s_goto (tgt := 29) C dX9_wantsPort_25 (by decide) ?_
      exact g_sub [] rfl (hj29 μ10 (1 : Int32))
/-! PinEngines$Simulator.holds(LPinEngines$Symbol;LPinEngines$Engine;LPinEngines$Setup;)Z -/
def fX9_holds (n0 : Nat) (n1 : Nat) (n2 : Nat) (n3 : Nat) (μ : Mem) : Option (Int32 × Mem) :=
  ckI (syO.getD n1 0) 74 <|
  nm ((smL.getD (syO.getD n1 0).toNatClampNeg 0)) fun x1 =>
  if x1 = (12 : Int32) then (
    jn (fun (μ3 : Mem) (x4 : Int32) =>
      ckZ x4 (some (x4, μ3))
    ) fun j64 =>
    if ¬ (μ.1 18 n2 1) = 0 then (
      j64 μ (0 : Int32)
    ) else (
      j64 μ (1 : Int32)
    )
  ) else (
  if x1 = (13 : Int32) then (
    jn (fun (μ7 : Mem) (x8 : Int32) =>
      ckZ x8 (some (x8, μ7))
    ) fun j77 =>
    if ¬ (μ.1 18 n2 2) = 0 then (
      j77 μ (0 : Int32)
    ) else (
      j77 μ (1 : Int32)
    )
  ) else (
  if x1 = (14 : Int32) then (
    jn (fun (μ11 : Mem) (x12 : Int32) =>
      ckZ x12 (some (x12, μ11))
    ) fun j101 =>
    nm (wI μ 18 n2 1 ((μ.1 18 n2 1) - (1 : Int32))) fun μ13 =>
    if (μ13.1 18 n2 1) = (-1 : Int32) then (
      j101 μ13 (0 : Int32)
    ) else (
      j101 μ13 (1 : Int32)
    )
  ) else (
  if x1 = (15 : Int32) then (
    jn (fun (μ16 : Mem) (x17 : Int32) =>
      ckZ x17 (some (x17, μ16))
    ) fun j125 =>
    nm (wI μ 18 n2 2 ((μ.1 18 n2 2) - (1 : Int32))) fun μ18 =>
    if (μ18.1 18 n2 2) = (-1 : Int32) then (
      j125 μ18 (0 : Int32)
    ) else (
      j125 μ18 (1 : Int32)
    )
  ) else (
  if x1 = (16 : Int32) then (
    jn (fun (μ21 : Mem) (x22 : Int32) =>
      ckZ x22 (some (x22, μ21))
    ) fun j142 =>
    if (μ.1 18 n2 1) = (μ.1 18 n2 2) then (
      j142 μ (0 : Int32)
    ) else (
      j142 μ (1 : Int32)
    )
  ) else (
  if x1 = (17 : Int32) then (
    jn (fun (μ25 : Mem) (x26 : Int32) =>
      ckZ x26 (some (x26, μ25))
    ) fun j163 =>
    if ¬ (((μ.1 22 n0 2) >>> ((μ.1 8 n3 12) &&& 31)) &&& (1 : Int32)) = (1 : Int32) then (
      j163 μ (0 : Int32)
    ) else (
      j163 μ (1 : Int32)
    )
  ) else (
  if x1 = (18 : Int32) then (
    jn (fun (μ29 : Mem) (x30 : Int32) =>
      ckZ x30 (some (x30, μ29))
    ) fun j180 =>
    if (μ.1 8 n3 18) ≤ (μ.1 18 n2 6) then (
      j180 μ (0 : Int32)
    ) else (
      j180 μ (1 : Int32)
    )
  ) else (
  ckZ (1 : Int32) (some ((1 : Int32), μ))
  )))))))
set_option maxHeartbeats 4000000 in
set_option maxRecDepth 100000 in
theorem kX9_holds (l : Launch) (n0 : Nat) (g0 : n0 < 1) (n1 : Nat) (g1 : n1 < 74) (n2 : Nat) (g2 : n2 < 52) (n3 : Nat) (g3 : n3 < 8) : Kon 0 l yX9_holds cX9_holds 4 (some .boolean) 1 20 0 0 (fun ad => [.ref (ad 22 n0), .ref (ad 50 n1), .ref (ad 18 n2), .ref (ad 8 n3)]) rvI (fun μ => fX9_holds n0 n1 n2 n3 μ) := by
  refine kon_of (by decide) (fun _ => Nat.le_of_ble_eq_true rfl) (fun X r0 μ hXl hXn V C E => ?_)
  have hN : ∀ i : Nat, i < 4 → i < xn X := fun i h => hXn.symm ▸ h
  have R0 := fen_rm E
  show G X r0 0 0 μ 0 [(0, .ref (xa X 22 n0)), (1, .ref (xa X 50 n1)), (2, .ref (xa X 18 n2)), (3, .ref (xa X 8 n3))] [] (fX9_holds n0 n1 n2 n3 μ)
  unfold fX9_holds
  refine s_gmap C q1541 dX9_holds_0 ?_
  refine s_aload_n C dX9_holds_3 rfl 1 rfl ?_
  refine s_ordn C R0 g1 q1542 ⟨Nat.le_of_ble_eq_true rfl, Nat.le_of_ble_eq_true rfl, Nat.le_of_ble_eq_true rfl, Nat.le_of_ble_eq_true rfl⟩ (Nat.le_of_ble_eq_true rfl) dX9_holds_4 ?_
  refine s_mapld C dX9_holds_7 ?_
  refine g_nmI (fun x1 => ?_)
  refine g_cases (v := (12 : Int32)) (fun c2 => ?_) (fun c2 => ?_)
  ·
    refine s_tin (tgt := 52) C dX9_holds_8 c2 (by decide) (by decide) rfl (by decide) ?_
    refine g_jn (P := fun j64 => ∀ (μ3 : Mem) (x4 : Int32), G X r0 0 0 μ3 64 [] [.int x4] (j64 μ3 x4)) ?_ (fun j64 hj64 => ?_)
    · intro μ3 x4
      exact s_zret C E dX9_holds_64
    refine s_aload_n C dX9_holds_52 rfl 2 rfl ?_
    refine s_getI C (fgX9_195_18 _) g2 dX9_holds_53 ?_
    refine s_if_ne (tgt := 63) C dX9_holds_56 (by decide) (fun c5 => ?_) (fun c5 => ?_)
    ·
      refine s_iconst (v := (0 : Int32)) C dX9_holds_63 (by decide) ?_
      exact g_sub [] rfl (hj64 μ (0 : Int32))
    ·
      refine s_iconst (v := (1 : Int32)) C dX9_holds_59 (by decide) ?_
      refine s_goto (tgt := 64) C dX9_holds_60 (by decide) ?_
      exact g_sub [] rfl (hj64 μ (1 : Int32))
  ·
    refine g_cases (v := (13 : Int32)) (fun c6 => ?_) (fun c6 => ?_)
    ·
      refine s_tin (tgt := 65) C dX9_holds_8 c6 (by decide) (by decide) rfl (by decide) ?_
      refine g_jn (P := fun j77 => ∀ (μ7 : Mem) (x8 : Int32), G X r0 0 0 μ7 77 [] [.int x8] (j77 μ7 x8)) ?_ (fun j77 hj77 => ?_)
      · intro μ7 x8
        exact s_zret C E dX9_holds_77
      refine s_aload_n C dX9_holds_65 rfl 2 rfl ?_
      refine s_getI C (fgX9_198_18 _) g2 dX9_holds_66 ?_
      refine s_if_ne (tgt := 76) C dX9_holds_69 (by decide) (fun c9 => ?_) (fun c9 => ?_)
      ·
        refine s_iconst (v := (0 : Int32)) C dX9_holds_76 (by decide) ?_
        exact g_sub [] rfl (hj77 μ (0 : Int32))
      ·
        refine s_iconst (v := (1 : Int32)) C dX9_holds_72 (by decide) ?_
        refine s_goto (tgt := 77) C dX9_holds_73 (by decide) ?_
        exact g_sub [] rfl (hj77 μ (1 : Int32))
    ·
      refine g_cases (v := (14 : Int32)) (fun c10 => ?_) (fun c10 => ?_)
      ·
        refine s_tin (tgt := 78) C dX9_holds_8 c10 (by decide) (by decide) rfl (by decide) ?_
        refine g_jn (P := fun j101 => ∀ (μ11 : Mem) (x12 : Int32), G X r0 0 0 μ11 101 [] [.int x12] (j101 μ11 x12)) ?_ (fun j101 hj101 => ?_)
        · intro μ11 x12
          exact s_zret C E dX9_holds_101
        refine s_aload_n C dX9_holds_78 rfl 2 rfl ?_
        refine s_dup C dX9_holds_79 rfl ?_
        refine s_getI C (fgX9_195_18 _) g2 dX9_holds_80 ?_
        refine s_iconst (v := (1 : Int32)) C dX9_holds_83 (by decide) ?_
        refine s_isub C dX9_holds_84 ?_
        refine s_putI C (fpX9_195_18 _) g2 dX9_holds_85 ?_
        refine g_nmM (fun μ13 => ?_)
        refine s_aload_n C dX9_holds_88 rfl 2 rfl ?_
        refine s_getI C (fgX9_195_18 _) g2 dX9_holds_89 ?_
        refine s_iconst (v := (-1 : Int32)) C dX9_holds_92 (by decide) ?_
        refine s_icmp_eq (tgt := 100) C dX9_holds_93 (by decide) (fun c14 => ?_) (fun c14 => ?_)
        ·
          refine s_iconst (v := (0 : Int32)) C dX9_holds_100 (by decide) ?_
          exact g_sub [] rfl (hj101 μ13 (0 : Int32))
        ·
          refine s_iconst (v := (1 : Int32)) C dX9_holds_96 (by decide) ?_
          refine s_goto (tgt := 101) C dX9_holds_97 (by decide) ?_
          exact g_sub [] rfl (hj101 μ13 (1 : Int32))
      ·
        refine g_cases (v := (15 : Int32)) (fun c15 => ?_) (fun c15 => ?_)
        ·
          refine s_tin (tgt := 102) C dX9_holds_8 c15 (by decide) (by decide) rfl (by decide) ?_
          refine g_jn (P := fun j125 => ∀ (μ16 : Mem) (x17 : Int32), G X r0 0 0 μ16 125 [] [.int x17] (j125 μ16 x17)) ?_ (fun j125 hj125 => ?_)
          · intro μ16 x17
            exact s_zret C E dX9_holds_125
          refine s_aload_n C dX9_holds_102 rfl 2 rfl ?_
          refine s_dup C dX9_holds_103 rfl ?_
          refine s_getI C (fgX9_198_18 _) g2 dX9_holds_104 ?_
          refine s_iconst (v := (1 : Int32)) C dX9_holds_107 (by decide) ?_
          refine s_isub C dX9_holds_108 ?_
          refine s_putI C (fpX9_198_18 _) g2 dX9_holds_109 ?_
          refine g_nmM (fun μ18 => ?_)
          refine s_aload_n C dX9_holds_112 rfl 2 rfl ?_
          refine s_getI C (fgX9_198_18 _) g2 dX9_holds_113 ?_
          refine s_iconst (v := (-1 : Int32)) C dX9_holds_116 (by decide) ?_
          refine s_icmp_eq (tgt := 124) C dX9_holds_117 (by decide) (fun c19 => ?_) (fun c19 => ?_)
          ·
            refine s_iconst (v := (0 : Int32)) C dX9_holds_124 (by decide) ?_
            exact g_sub [] rfl (hj125 μ18 (0 : Int32))
          ·
            refine s_iconst (v := (1 : Int32)) C dX9_holds_120 (by decide) ?_
            refine s_goto (tgt := 125) C dX9_holds_121 (by decide) ?_
            exact g_sub [] rfl (hj125 μ18 (1 : Int32))
        ·
          refine g_cases (v := (16 : Int32)) (fun c20 => ?_) (fun c20 => ?_)
          ·
            refine s_tin (tgt := 126) C dX9_holds_8 c20 (by decide) (by decide) rfl (by decide) ?_
            refine g_jn (P := fun j142 => ∀ (μ21 : Mem) (x22 : Int32), G X r0 0 0 μ21 142 [] [.int x22] (j142 μ21 x22)) ?_ (fun j142 hj142 => ?_)
            · intro μ21 x22
              exact s_zret C E dX9_holds_142
            refine s_aload_n C dX9_holds_126 rfl 2 rfl ?_
            refine s_getI C (fgX9_195_18 _) g2 dX9_holds_127 ?_
            refine s_aload_n C dX9_holds_130 rfl 2 rfl ?_
            refine s_getI C (fgX9_198_18 _) g2 dX9_holds_131 ?_
            refine s_icmp_eq (tgt := 141) C dX9_holds_134 (by decide) (fun c23 => ?_) (fun c23 => ?_)
            ·
              refine s_iconst (v := (0 : Int32)) C dX9_holds_141 (by decide) ?_
              exact g_sub [] rfl (hj142 μ (0 : Int32))
            ·
              refine s_iconst (v := (1 : Int32)) C dX9_holds_137 (by decide) ?_
              refine s_goto (tgt := 142) C dX9_holds_138 (by decide) ?_
              exact g_sub [] rfl (hj142 μ (1 : Int32))
          ·
            refine g_cases (v := (17 : Int32)) (fun c24 => ?_) (fun c24 => ?_)
            ·
              refine s_tin (tgt := 143) C dX9_holds_8 c24 (by decide) (by decide) rfl (by decide) ?_
              refine g_jn (P := fun j163 => ∀ (μ25 : Mem) (x26 : Int32), G X r0 0 0 μ25 163 [] [.int x26] (j163 μ25 x26)) ?_ (fun j163 hj163 => ?_)
              · intro μ25 x26
                exact s_zret C E dX9_holds_163
              refine s_aload_n C dX9_holds_143 rfl 0 rfl ?_
              refine s_getI C (fgX9_28_22 _) g0 dX9_holds_144 ?_
              refine s_aload_n C dX9_holds_147 rfl 3 rfl ?_
              refine s_getI C (fgX9_201_8 _) g3 dX9_holds_148 ?_
              refine s_ishr C dX9_holds_151 ?_
              refine s_iconst (v := (1 : Int32)) C dX9_holds_152 (by decide) ?_
              refine s_iand C dX9_holds_153 ?_
              refine s_iconst (v := (1 : Int32)) C dX9_holds_154 (by decide) ?_
              refine s_icmp_ne (tgt := 162) C dX9_holds_155 (by decide) (fun c27 => ?_) (fun c27 => ?_)
              ·
                refine s_iconst (v := (0 : Int32)) C dX9_holds_162 (by decide) ?_
                exact g_sub [] rfl (hj163 μ (0 : Int32))
              ·
                refine s_iconst (v := (1 : Int32)) C dX9_holds_158 (by decide) ?_
                refine s_goto (tgt := 163) C dX9_holds_159 (by decide) ?_
                exact g_sub [] rfl (hj163 μ (1 : Int32))
            ·
              refine g_cases (v := (18 : Int32)) (fun c28 => ?_) (fun c28 => ?_)
              ·
                refine s_tin (tgt := 164) C dX9_holds_8 c28 (by decide) (by decide) rfl (by decide) ?_
                refine g_jn (P := fun j180 => ∀ (μ29 : Mem) (x30 : Int32), G X r0 0 0 μ29 180 [] [.int x30] (j180 μ29 x30)) ?_ (fun j180 hj180 => ?_)
                · intro μ29 x30
                  exact s_zret C E dX9_holds_180
                refine s_aload_n C dX9_holds_164 rfl 2 rfl ?_
                refine s_getI C (fgX9_204_18 _) g2 dX9_holds_165 ?_
                refine s_aload_n C dX9_holds_168 rfl 3 rfl ?_
                refine s_getI C (fgX9_207_8 _) g3 dX9_holds_169 ?_
                refine s_icmp_ge (tgt := 179) C dX9_holds_172 (by decide) (fun c31 => ?_) (fun c31 => ?_)
                ·
                  refine s_iconst (v := (0 : Int32)) C dX9_holds_179 (by decide) ?_
                  exact g_sub [] rfl (hj180 μ (0 : Int32))
                ·
                  refine s_iconst (v := (1 : Int32)) C dX9_holds_175 (by decide) ?_
                  refine s_goto (tgt := 180) C dX9_holds_176 (by decide) ?_
                  exact g_sub [] rfl (hj180 μ (1 : Int32))
              ·
                refine s_tout (tgt := 181) C dX9_holds_8 (by have := ine (i := 12) (by decide) c2; have := ine (i := 13) (by decide) c6; have := ine (i := 14) (by decide) c10; have := ine (i := 15) (by decide) c15; have := ine (i := 16) (by decide) c20; have := ine (i := 17) (by decide) c24; have := ine (i := 18) (by decide) c28; omega) (by decide) ?_
                refine s_iconst (v := (1 : Int32)) C dX9_holds_181 (by decide) ?_
                exact s_zret C E dX9_holds_182
/-! PinEngines$Simulator.awaitLevel(LPinEngines$Instruction;LPinEngines$Setup;)I -/
def fX9_awaitLevel (n0 : Nat) (n1 : Nat) (n2 : Nat) (μ : Mem) : Option (Int32 × Mem) :=
  nm (μ.2.1 9 n1 2) fun a1 =>
  ckB a1 74 <|
  if ¬ a1 = 48 then (
    if (((μ.1 22 n0 3) >>> ((μ.1 9 n1 5) &&& 31)) &&& (1 : Int32)) = (μ.1 9 n1 1) then (
      jn (fun (μ5 : Mem) =>
        some ((0 : Int32), μ5)
      ) fun j87 =>
      if ¬ (μ.1 9 n1 1) = (1 : Int32) then (
        j87 μ
      ) else (
        nm (wI μ 22 n0 5 ((μ.1 22 n0 5) ||| ((1 : Int32) <<< ((μ.1 9 n1 5) &&& 31)))) fun μ7 =>
        j87 μ7
      )
    ) else (
      some ((1 : Int32), μ)
    )
  ) else (
    jn (fun (μ8 : Mem) (x9 : Int32) =>
      some (x9, μ8)
    ) fun j43 =>
    ckD (16 : Int32) <|
    nm ((((μ.1 8 n2 11) + (μ.1 9 n1 5)) - ((μ.1 8 n2 11) + (μ.1 9 n1 5)) / (16 : Int32) * (16 : Int32))) fun x10 =>
    if ¬ (((μ.1 22 n0 2) >>> (x10 &&& 31)) &&& (1 : Int32)) = (μ.1 9 n1 1) then (
      j43 μ (1 : Int32)
    ) else (
      j43 μ (0 : Int32)
    )
  )
set_option maxHeartbeats 4000000 in
set_option maxRecDepth 100000 in
theorem kX9_awaitLevel (l : Launch) (n0 : Nat) (g0 : n0 < 1) (n1 : Nat) (g1 : n1 < 66) (n2 : Nat) (g2 : n2 < 8) : Kon 0 l yX9_awaitLevel cX9_awaitLevel 4 (some .int) 0 0 0 0 (fun ad => [.ref (ad 22 n0), .ref (ad 9 n1), .ref (ad 8 n2)]) rvI (fun μ => fX9_awaitLevel n0 n1 n2 μ) := by
  refine kon_of (by decide) (fun _ => Nat.le_of_ble_eq_true rfl) (fun X r0 μ hXl hXn V C E => ?_)
  have hN : ∀ i : Nat, i < 4 → i < xn X := fun i h => hXn.symm ▸ h
  have R0 := fen_rm E
  show G X r0 0 0 μ 0 [(0, .ref (xa X 22 n0)), (1, .ref (xa X 9 n1)), (2, .ref (xa X 8 n2))] [] (fX9_awaitLevel n0 n1 n2 μ)
  unfold fX9_awaitLevel
  refine s_aload_n C dX9_awaitLevel_0 rfl 1 rfl ?_
  refine s_getM C (fgX9_154_9 _) g1 dX9_awaitLevel_1 ?_
  refine g_nmA (fun a1 => ?_)
  refine g_ckB (fun b2 => ?_)
  refine s_gsym (i := 48) C (by decide) rfl q1551 dX9_awaitLevel_4 ?_
  refine s_acmp_ne (tgt := 44) C b2 (by decide) dX9_awaitLevel_7 (by decide) (fun c3 => ?_) (fun c3 => ?_)
  ·
    refine s_aload_n C dX9_awaitLevel_44 rfl 0 rfl ?_
    refine s_getI C (fgX9_34_22 _) g0 dX9_awaitLevel_45 ?_
    refine s_aload_n C dX9_awaitLevel_48 rfl 1 rfl ?_
    refine s_getI C (fgX9_161_9 _) g1 dX9_awaitLevel_49 ?_
    refine s_ishr C dX9_awaitLevel_52 ?_
    refine s_iconst (v := (1 : Int32)) C dX9_awaitLevel_53 (by decide) ?_
    refine s_iand C dX9_awaitLevel_54 ?_
    refine s_aload_n C dX9_awaitLevel_55 rfl 1 rfl ?_
    refine s_getI C (fgX9_216_9 _) g1 dX9_awaitLevel_56 ?_
    refine s_icmp_eq (tgt := 64) C dX9_awaitLevel_59 (by decide) (fun c4 => ?_) (fun c4 => ?_)
    ·
      refine g_jn (P := fun j87 => ∀ (μ5 : Mem), G X r0 0 0 μ5 87 [] [] (j87 μ5)) ?_ (fun j87 hj87 => ?_)
      · intro μ5
        refine s_iconst (v := (0 : Int32)) C dX9_awaitLevel_87 (by decide) ?_
        exact s_iret C E dX9_awaitLevel_88
      refine s_aload_n C dX9_awaitLevel_64 rfl 1 rfl ?_
      refine s_getI C (fgX9_216_9 _) g1 dX9_awaitLevel_65 ?_
      refine s_iconst (v := (1 : Int32)) C dX9_awaitLevel_68 (by decide) ?_
      refine s_icmp_ne (tgt := 87) C dX9_awaitLevel_69 (by decide) (fun c6 => ?_) (fun c6 => ?_)
      ·
        exact g_sub [] rfl (hj87 μ)
      ·
        refine s_aload_n C dX9_awaitLevel_72 rfl 0 rfl ?_
        refine s_dup C dX9_awaitLevel_73 rfl ?_
        refine s_getI C (fgX9_38_22 _) g0 dX9_awaitLevel_74 ?_
        refine s_iconst (v := (1 : Int32)) C dX9_awaitLevel_77 (by decide) ?_
        refine s_aload_n C dX9_awaitLevel_78 rfl 1 rfl ?_
        refine s_getI C (fgX9_161_9 _) g1 dX9_awaitLevel_79 ?_
        refine s_ishl C dX9_awaitLevel_82 ?_
        refine s_ior C dX9_awaitLevel_83 ?_
        refine s_putI C (fpX9_38_22 _) g0 dX9_awaitLevel_84 ?_
        refine g_nmM (fun μ7 => ?_)
        exact g_sub [] rfl (hj87 μ7)
    ·
      refine s_iconst (v := (1 : Int32)) C dX9_awaitLevel_62 (by decide) ?_
      exact s_iret C E dX9_awaitLevel_63
  ·
    refine g_jn (P := fun j43 => ∀ (μ8 : Mem) (x9 : Int32), G X r0 0 0 μ8 43 [] [.int x9] (j43 μ8 x9)) ?_ (fun j43 hj43 => ?_)
    · intro μ8 x9
      exact s_iret C E dX9_awaitLevel_43
    refine s_aload_n C dX9_awaitLevel_10 rfl 2 rfl ?_
    refine s_getI C (fgX9_213_8 _) g2 dX9_awaitLevel_11 ?_
    refine s_aload_n C dX9_awaitLevel_14 rfl 1 rfl ?_
    refine s_getI C (fgX9_161_9 _) g1 dX9_awaitLevel_15 ?_
    refine s_iadd C dX9_awaitLevel_18 ?_
    refine s_bipush (v := (16 : Int32)) C dX9_awaitLevel_19 (by decide) ?_
    refine s_irem C dX9_awaitLevel_21 ?_
    refine g_nmI (fun x10 => ?_)
    refine s_istore_n (L' := [(3, .int x10), (0, .ref (xa X 22 n0)), (1, .ref (xa X 9 n1)), (2, .ref (xa X 8 n2))]) C dX9_awaitLevel_22 rfl (hN 3 (by decide)) rfl ?_
    refine s_aload_n C dX9_awaitLevel_23 rfl 1 rfl ?_
    refine s_getI C (fgX9_28_22 _) g0 dX9_awaitLevel_24 ?_
    refine s_iload_n C dX9_awaitLevel_27 rfl 0 rfl ?_
    refine s_ishr C dX9_awaitLevel_28 ?_
    refine s_iconst (v := (1 : Int32)) C dX9_awaitLevel_29 (by decide) ?_
    refine s_iand C dX9_awaitLevel_30 ?_
    refine s_aload_n C dX9_awaitLevel_31 rfl 2 rfl ?_
    refine s_getI C (fgX9_216_9 _) g1 dX9_awaitLevel_32 ?_
    refine s_icmp_ne (tgt := 42) C dX9_awaitLevel_35 (by decide) (fun c11 => ?_) (fun c11 => ?_)
    ·
      refine s_iconst (v := (1 : Int32)) C dX9_awaitLevel_42 (by decide) ?_
      exact g_sub [] rfl (hj43 μ (1 : Int32))
    ·
      refine s_iconst (v := (0 : Int32)) C dX9_awaitLevel_38 (by decide) ?_
      refine s_goto (tgt := 43) C dX9_awaitLevel_39 (by decide) ?_
      exact g_sub [] rfl (hj43 μ (0 : Int32))
/-! PinEngines$Simulator.signal(LPinEngines$Instruction;LPinEngines$Engine;)I -/
def fX9_signal (n0 : Nat) (n1 : Nat) (n2 : Nat) (μ : Mem) : Option (Int32 × Mem) :=
  if ¬ (μ.1 18 n2 8) = 0 then (
    jn (fun (μ2 : Mem) (x3 : Int32) =>
      some (x3, μ2)
    ) fun j43 =>
    if ¬ (((μ.1 22 n0 3) >>> ((μ.1 9 n1 5) &&& 31)) &&& (1 : Int32)) = 0 then (
      j43 μ (5 : Int32)
    ) else (
      j43 μ (0 : Int32)
    )
  ) else (
    nm (wI μ 22 n0 4 ((μ.1 22 n0 4) ||| ((1 : Int32) <<< ((μ.1 9 n1 5) &&& 31)))) fun μ5 =>
    some ((5 : Int32), μ5)
  )
set_option maxHeartbeats 4000000 in
set_option maxRecDepth 100000 in
theorem kX9_signal (l : Launch) (n0 : Nat) (g0 : n0 < 1) (n1 : Nat) (g1 : n1 < 66) (n2 : Nat) (g2 : n2 < 52) : Kon 0 l yX9_signal cX9_signal 3 (some .int) 0 0 0 0 (fun ad => [.ref (ad 22 n0), .ref (ad 9 n1), .ref (ad 18 n2)]) rvI (fun μ => fX9_signal n0 n1 n2 μ) := by
  refine kon_of (by decide) (fun _ => Nat.le_of_ble_eq_true rfl) (fun X r0 μ hXl hXn V C E => ?_)
  have hN : ∀ i : Nat, i < 3 → i < xn X := fun i h => hXn.symm ▸ h
  have R0 := fen_rm E
  show G X r0 0 0 μ 0 [(0, .ref (xa X 22 n0)), (1, .ref (xa X 9 n1)), (2, .ref (xa X 18 n2))] [] (fX9_signal n0 n1 n2 μ)
  unfold fX9_signal
  refine s_aload_n C dX9_signal_0 rfl 2 rfl ?_
  refine s_getI C (fgX9_104_18 _) g2 dX9_signal_1 ?_
  refine s_if_ne (tgt := 24) C dX9_signal_4 (by decide) (fun c1 => ?_) (fun c1 => ?_)
  ·
    refine g_jn (P := fun j43 => ∀ (μ2 : Mem) (x3 : Int32), G X r0 0 0 μ2 43 [] [.int x3] (j43 μ2 x3)) ?_ (fun j43 hj43 => ?_)
    · intro μ2 x3
      exact s_iret C E dX9_signal_43
    refine s_aload_n C dX9_signal_24 rfl 0 rfl ?_
    refine s_getI C (fgX9_34_22 _) g0 dX9_signal_25 ?_
    refine s_aload_n C dX9_signal_28 rfl 1 rfl ?_
    refine s_getI C (fgX9_161_9 _) g1 dX9_signal_29 ?_
    refine s_ishr C dX9_signal_32 ?_
    refine s_iconst (v := (1 : Int32)) C dX9_signal_33 (by decide) ?_
    refine s_iand C dX9_signal_34 ?_
    refine s_if_ne (tgt := 42) C dX9_signal_35 (by decide) (fun c4 => ?_) (fun c4 => ?_)
    ·
      refine s_iconst (v := (5 : Int32)) C dX9_signal_42 (by decide) ?_
      exact g_sub [] rfl (hj43 μ (5 : Int32))
    ·
      refine s_iconst (v := (0 : Int32)) C dX9_signal_38 (by decide) ?_
      refine s_goto (tgt := 43) C dX9_signal_39 (by decide) ?_
      exact g_sub [] rfl (hj43 μ (0 : Int32))
  ·
    refine s_aload_n C dX9_signal_7 rfl 0 rfl ?_
    refine s_dup C dX9_signal_8 rfl ?_
    refine s_getI C (fgX9_35_22 _) g0 dX9_signal_9 ?_
    refine s_iconst (v := (1 : Int32)) C dX9_signal_12 (by decide) ?_
    refine s_aload_n C dX9_signal_13 rfl 1 rfl ?_
    refine s_getI C (fgX9_161_9 _) g1 dX9_signal_14 ?_
    refine s_ishl C dX9_signal_17 ?_
    refine s_ior C dX9_signal_18 ?_
    refine s_putI C (fpX9_35_22 _) g0 dX9_signal_19 ?_
    refine g_nmM (fun μ5 => ?_)
    refine s_iconst (v := (5 : Int32)) C dX9_signal_22 (by decide) ?_
    exact s_iret C E dX9_signal_23
/-! PinEngines$Simulator.placeOf(LPinEngines$Instruction;LPinEngines$Engine;)I -/
def fX9_placeOf (n0 : Nat) (n1 : Nat) (μ : Mem) : Option (Int32 × Mem) :=
  nm (μ.2.1 9 n0 4) fun a1 =>
  ckB a1 74 <|
  if ¬ a1 = 52 then (
    nm (μ.2.1 9 n0 4) fun a4 =>
    ckB a4 74 <|
    if ¬ a4 = 53 then (
      some (((μ.1 9 n0 5) &&& (15 : Int32)), μ)
    ) else (
      some (((μ.1 18 n1 2) &&& (15 : Int32)), μ)
    )
  ) else (
    some (((μ.1 18 n1 1) &&& (15 : Int32)), μ)
  )
set_option maxHeartbeats 4000000 in
set_option maxRecDepth 100000 in
theorem kX9_placeOf (l : Launch) (n0 : Nat) (g0 : n0 < 66) (n1 : Nat) (g1 : n1 < 52) : Kon 0 l yX9_placeOf cX9_placeOf 2 (some .int) 0 0 0 0 (fun ad => [.ref (ad 9 n0), .ref (ad 18 n1)]) rvI (fun μ => fX9_placeOf n0 n1 μ) := by
  refine kon_of (by decide) (fun _ => Nat.le_of_ble_eq_true rfl) (fun X r0 μ hXl hXn V C E => ?_)
  have hN : ∀ i : Nat, i < 2 → i < xn X := fun i h => hXn.symm ▸ h
  have R0 := fen_rm E
  show G X r0 0 0 μ 0 [(0, .ref (xa X 9 n0)), (1, .ref (xa X 18 n1))] [] (fX9_placeOf n0 n1 μ)
  unfold fX9_placeOf
  refine s_aload_n C dX9_placeOf_0 rfl 0 rfl ?_
  refine s_getM C (fgX9_282_9 _) g0 dX9_placeOf_1 ?_
  refine g_nmA (fun a1 => ?_)
  refine g_ckB (fun b2 => ?_)
  refine s_gsym (i := 52) C (by decide) rfl q1525 dX9_placeOf_4 ?_
  refine s_acmp_ne (tgt := 18) C b2 (by decide) dX9_placeOf_7 (by decide) (fun c3 => ?_) (fun c3 => ?_)
  ·
    refine s_aload_n C dX9_placeOf_18 rfl 0 rfl ?_
    refine s_getM C (fgX9_282_9 _) g0 dX9_placeOf_19 ?_
    refine g_nmA (fun a4 => ?_)
    refine g_ckB (fun b5 => ?_)
    refine s_gsym (i := 53) C (by decide) rfl q1527 dX9_placeOf_22 ?_
    refine s_acmp_ne (tgt := 36) C b5 (by decide) dX9_placeOf_25 (by decide) (fun c6 => ?_) (fun c6 => ?_)
    ·
      refine s_aload_n C dX9_placeOf_36 rfl 0 rfl ?_
      refine s_getI C (fgX9_161_9 _) g0 dX9_placeOf_37 ?_
      refine s_bipush (v := (15 : Int32)) C dX9_placeOf_40 (by decide) ?_
      refine s_iand C dX9_placeOf_42 ?_
      exact s_iret C E dX9_placeOf_43
    ·
      refine s_aload_n C dX9_placeOf_28 rfl 1 rfl ?_
      refine s_getI C (fgX9_198_18 _) g1 dX9_placeOf_29 ?_
      refine s_bipush (v := (15 : Int32)) C dX9_placeOf_32 (by decide) ?_
      refine s_iand C dX9_placeOf_34 ?_
      exact s_iret C E dX9_placeOf_35
  ·
    refine s_aload_n C dX9_placeOf_10 rfl 1 rfl ?_
    refine s_getI C (fgX9_195_18 _) g1 dX9_placeOf_11 ?_
    refine s_bipush (v := (15 : Int32)) C dX9_placeOf_14 (by decide) ?_
    refine s_iand C dX9_placeOf_16 ?_
    exact s_iret C E dX9_placeOf_17
/-! PinEngines$Simulator.storedWord(LPinEngines$Symbol;LPinEngines$Engine;)I -/
def fX9_storedWord (n0 : Nat) (n1 : Nat) (μ : Mem) : Option (Int32 × Mem) :=
  if ¬ n0 = 52 then (
    jn (fun (μ2 : Mem) (x3 : Int32) =>
      some (x3, μ2)
    ) fun j30 =>
    if ¬ n0 = 53 then (
      j30 μ (μ.1 18 n1 3)
    ) else (
      j30 μ (μ.1 18 n1 2)
    )
  ) else (
    some ((μ.1 18 n1 1), μ)
  )
set_option maxHeartbeats 4000000 in
set_option maxRecDepth 100000 in
theorem kX9_storedWord (l : Launch) (n0 : Nat) (g0 : n0 < 74) (n1 : Nat) (g1 : n1 < 52) : Kon 0 l yX9_storedWord cX9_storedWord 2 (some .int) 0 0 0 0 (fun ad => [.ref (ad 50 n0), .ref (ad 18 n1)]) rvI (fun μ => fX9_storedWord n0 n1 μ) := by
  refine kon_of (by decide) (fun _ => Nat.le_of_ble_eq_true rfl) (fun X r0 μ hXl hXn V C E => ?_)
  have hN : ∀ i : Nat, i < 2 → i < xn X := fun i h => hXn.symm ▸ h
  have R0 := fen_rm E
  show G X r0 0 0 μ 0 [(0, .ref (xa X 50 n0)), (1, .ref (xa X 18 n1))] [] (fX9_storedWord n0 n1 μ)
  unfold fX9_storedWord
  refine s_aload_n C dX9_storedWord_0 rfl 0 rfl ?_
  refine s_gsym (i := 52) C (by decide) rfl q1525 dX9_storedWord_1 ?_
  refine s_acmp_ne (tgt := 12) C g0 (by decide) dX9_storedWord_4 (by decide) (fun c1 => ?_) (fun c1 => ?_)
  ·
    refine g_jn (P := fun j30 => ∀ (μ2 : Mem) (x3 : Int32), G X r0 0 0 μ2 30 [] [.int x3] (j30 μ2 x3)) ?_ (fun j30 hj30 => ?_)
    · intro μ2 x3
      exact s_iret C E dX9_storedWord_30
    refine s_aload_n C dX9_storedWord_12 rfl 0 rfl ?_
    refine s_gsym (i := 53) C (by decide) rfl q1527 dX9_storedWord_13 ?_
    refine s_acmp_ne (tgt := 26) C g0 (by decide) dX9_storedWord_16 (by decide) (fun c4 => ?_) (fun c4 => ?_)
    ·
      refine s_aload_n C dX9_storedWord_26 rfl 1 rfl ?_
      refine s_getI C (fgX9_252_18 _) g1 dX9_storedWord_27 ?_
      exact g_sub [] rfl (hj30 μ (μ.1 18 n1 3))
    ·
      refine s_aload_n C dX9_storedWord_19 rfl 1 rfl ?_
      refine s_getI C (fgX9_198_18 _) g1 dX9_storedWord_20 ?_
      refine s_goto (tgt := 30) C dX9_storedWord_23 (by decide) ?_
      exact g_sub [] rfl (hj30 μ (μ.1 18 n1 2))
  ·
    refine s_aload_n C dX9_storedWord_7 rfl 1 rfl ?_
    refine s_getI C (fgX9_195_18 _) g1 dX9_storedWord_8 ?_
    exact s_iret C E dX9_storedWord_11
/-! PinEngines$Simulator.sourceWord(LPinEngines$Symbol;LPinEngines$Engine;LPinEngines$Setup;)I -/
def fX9_sourceWord (n0 : Nat) (n1 : Nat) (n2 : Nat) (n3 : Nat) (μ : Mem) : Option (Int32 × Mem) :=
  ckI (syO.getD n1 0) 74 <|
  nm ((smL.getD (syO.getD n1 0).toNatClampNeg 0)) fun x1 =>
  if x1 = (19 : Int32) then (
    bnd (fX12_rotatedPins (μ.1 22 n0 2) ((16 : Int32) - (μ.1 8 n3 11)) μ) fun x4 μ3 =>
    some (x4, μ3)
  ) else (
  if x1 = (20 : Int32) then (
    some ((μ.1 18 n2 1), μ)
  ) else (
  if x1 = (21 : Int32) then (
    some ((μ.1 18 n2 2), μ)
  ) else (
  if x1 = (22 : Int32) then (
    some ((μ.1 18 n2 3), μ)
  ) else (
  if x1 = (23 : Int32) then (
    some ((μ.1 18 n2 4), μ)
  ) else (
  if x1 = (24 : Int32) then (
    jn (fun (μ10 : Mem) (x11 : Int32) =>
      some (x11, μ10)
    ) fun j98 =>
    if ¬ (μ.1 19 (2 * n2) 0) = 0 then (
      j98 μ (0 : Int32)
    ) else (
      j98 μ (-1 : Int32)
    )
  ) else (
  some ((0 : Int32), μ)
  ))))))
set_option maxHeartbeats 4000000 in
set_option maxRecDepth 100000 in
theorem kX9_sourceWord (l : Launch) (n0 : Nat) (g0 : n0 < 1) (n1 : Nat) (g1 : n1 < 74) (n2 : Nat) (g2 : n2 < 52) (n3 : Nat) (g3 : n3 < 8) : Kon 0 l yX9_sourceWord cX9_sourceWord 4 (some .int) 1 22 0 0 (fun ad => [.ref (ad 22 n0), .ref (ad 50 n1), .ref (ad 18 n2), .ref (ad 8 n3)]) rvI (fun μ => fX9_sourceWord n0 n1 n2 n3 μ) := by
  refine kon_of (by decide) (fun _ => Nat.le_of_ble_eq_true rfl) (fun X r0 μ hXl hXn V C E => ?_)
  have hN : ∀ i : Nat, i < 4 → i < xn X := fun i h => hXn.symm ▸ h
  have R0 := fen_rm E
  show G X r0 0 0 μ 0 [(0, .ref (xa X 22 n0)), (1, .ref (xa X 50 n1)), (2, .ref (xa X 18 n2)), (3, .ref (xa X 8 n3))] [] (fX9_sourceWord n0 n1 n2 n3 μ)
  unfold fX9_sourceWord
  refine s_gmap C q1541 dX9_sourceWord_0 ?_
  refine s_aload_n C dX9_sourceWord_3 rfl 1 rfl ?_
  refine s_ordn C R0 g1 q1542 ⟨Nat.le_of_ble_eq_true rfl, Nat.le_of_ble_eq_true rfl, Nat.le_of_ble_eq_true rfl, Nat.le_of_ble_eq_true rfl⟩ (Nat.le_of_ble_eq_true rfl) dX9_sourceWord_4 ?_
  refine s_mapld C dX9_sourceWord_7 ?_
  refine g_nmI (fun x1 => ?_)
  refine g_cases (v := (19 : Int32)) (fun c2 => ?_) (fun c2 => ?_)
  ·
    refine s_tin (tgt := 48) C dX9_sourceWord_8 c2 (by decide) (by decide) rfl (by decide) ?_
    refine s_aload_n C dX9_sourceWord_48 rfl 0 rfl ?_
    refine s_getI C (fgX9_28_22 _) g0 dX9_sourceWord_49 ?_
    refine s_bipush (v := (16 : Int32)) C dX9_sourceWord_52 (by decide) ?_
    refine s_aload_n C dX9_sourceWord_54 rfl 3 rfl ?_
    refine s_getI C (fgX9_213_8 _) g3 dX9_sourceWord_55 ?_
    refine s_isub C dX9_sourceWord_58 ?_
    refine s_callSN (host := "PinEngines") C R0 (kX12_rotatedPins (xl X) (μ.1 22 n0 2) ((16 : Int32) - (μ.1 8 n3 11))) (Nat.le_trans (by decide) V) mmX12_rotatedPins q1137 qn1560 rfl rfl rfl (Nat.le_of_ble_eq_true rfl) ⟨Nat.le_of_ble_eq_true rfl, Nat.le_of_ble_eq_true rfl, Nat.le_of_ble_eq_true rfl, Nat.le_of_ble_eq_true rfl⟩ dX9_sourceWord_59 (fun x4 μ3 => ?_)
    refine g_st (st' := [.int x4]) rfl ?_
    exact s_iret C E dX9_sourceWord_62
  ·
    refine g_cases (v := (20 : Int32)) (fun c5 => ?_) (fun c5 => ?_)
    ·
      refine s_tin (tgt := 63) C dX9_sourceWord_8 c5 (by decide) (by decide) rfl (by decide) ?_
      refine s_aload_n C dX9_sourceWord_63 rfl 2 rfl ?_
      refine s_getI C (fgX9_195_18 _) g2 dX9_sourceWord_64 ?_
      exact s_iret C E dX9_sourceWord_67
    ·
      refine g_cases (v := (21 : Int32)) (fun c6 => ?_) (fun c6 => ?_)
      ·
        refine s_tin (tgt := 68) C dX9_sourceWord_8 c6 (by decide) (by decide) rfl (by decide) ?_
        refine s_aload_n C dX9_sourceWord_68 rfl 2 rfl ?_
        refine s_getI C (fgX9_198_18 _) g2 dX9_sourceWord_69 ?_
        exact s_iret C E dX9_sourceWord_72
      ·
        refine g_cases (v := (22 : Int32)) (fun c7 => ?_) (fun c7 => ?_)
        ·
          refine s_tin (tgt := 73) C dX9_sourceWord_8 c7 (by decide) (by decide) rfl (by decide) ?_
          refine s_aload_n C dX9_sourceWord_73 rfl 2 rfl ?_
          refine s_getI C (fgX9_252_18 _) g2 dX9_sourceWord_74 ?_
          exact s_iret C E dX9_sourceWord_77
        ·
          refine g_cases (v := (23 : Int32)) (fun c8 => ?_) (fun c8 => ?_)
          ·
            refine s_tin (tgt := 78) C dX9_sourceWord_8 c8 (by decide) (by decide) rfl (by decide) ?_
            refine s_aload_n C dX9_sourceWord_78 rfl 2 rfl ?_
            refine s_getI C (fgX9_270_18 _) g2 dX9_sourceWord_79 ?_
            exact s_iret C E dX9_sourceWord_82
          ·
            refine g_cases (v := (24 : Int32)) (fun c9 => ?_) (fun c9 => ?_)
            ·
              refine s_tin (tgt := 83) C dX9_sourceWord_8 c9 (by decide) (by decide) rfl (by decide) ?_
              refine g_jn (P := fun j98 => ∀ (μ10 : Mem) (x11 : Int32), G X r0 0 0 μ10 98 [] [.int x11] (j98 μ10 x11)) ?_ (fun j98 hj98 => ?_)
              · intro μ10 x11
                exact s_iret C E dX9_sourceWord_98
              refine s_aload_n C dX9_sourceWord_83 rfl 2 rfl ?_
              refine s_getF C (fgX9_261_18 _) g2 dX9_sourceWord_84 ?_
              have b12 : 2 * n2 < 104 := by omega
              refine s_getI C (fgX9_264_19 _) b12 dX9_sourceWord_87 ?_
              refine s_if_ne (tgt := 97) C dX9_sourceWord_90 (by decide) (fun c13 => ?_) (fun c13 => ?_)
              ·
                refine s_iconst (v := (0 : Int32)) C dX9_sourceWord_97 (by decide) ?_
                exact g_sub [] rfl (hj98 μ (0 : Int32))
              ·
                refine s_iconst (v := (-1 : Int32)) C dX9_sourceWord_93 (by decide) ?_
                refine s_goto (tgt := 98) C dX9_sourceWord_94 (by decide) ?_
                exact g_sub [] rfl (hj98 μ (-1 : Int32))
            ·
              refine s_tout (tgt := 99) C dX9_sourceWord_8 (by have := ine (i := 19) (by decide) c2; have := ine (i := 20) (by decide) c5; have := ine (i := 21) (by decide) c6; have := ine (i := 22) (by decide) c7; have := ine (i := 23) (by decide) c8; have := ine (i := 24) (by decide) c9; omega) (by decide) ?_
              refine s_iconst (v := (0 : Int32)) C dX9_sourceWord_99 (by decide) ?_
              exact s_iret C E dX9_sourceWord_100
/-! PinEngines$Simulator.deliver(LPinEngines$Symbol;ILPinEngines$Engine;LPinEngines$Setup;)V -/
def fX9_deliver (n0 : Nat) (n1 : Nat) (p2 : Int32) (n3 : Nat) (n4 : Nat) (μ : Mem) : Option (Unit × Mem) :=
  jn (fun (μ1 : Mem) =>
    some ((), μ1)
  ) fun j152 =>
  ckI (syO.getD n1 0) 74 <|
  nm ((smL.getD (syO.getD n1 0).toNatClampNeg 0)) fun x2 =>
  if x2 = (19 : Int32) then (
    nm (μ.2.1 22 n0 1) fun a4 =>
    ckB a4 13 <|
    bnd (fX12_rotatedPins p2 (μ.1 8 n4 5) μ) fun x7 μ6 =>
    bnd (fX3_writeLatches a4 (μ.1 8 n4 6) x7 μ6) fun _ μ8 =>
    j152 μ8
  ) else (
  if x2 = (20 : Int32) then (
    nm (wI μ 18 n3 1 p2) fun μ10 =>
    j152 μ10
  ) else (
  if x2 = (21 : Int32) then (
    nm (wI μ 18 n3 2 p2) fun μ12 =>
    j152 μ12
  ) else (
  if x2 = (22 : Int32) then (
    bnd (fX1_setIsr n3 p2 (0 : Int32) μ) fun _ μ14 =>
    j152 μ14
  ) else (
  if x2 = (23 : Int32) then (
    bnd (fX1_setOsr n3 p2 μ) fun _ μ16 =>
    j152 μ16
  ) else (
  if x2 = (24 : Int32) then (
    j152 μ
  ) else (
  if x2 = (25 : Int32) then (
    nm (μ.2.1 22 n0 1) fun a19 =>
    ckB a19 13 <|
    bnd (fX12_rotatedPins p2 (μ.1 8 n4 5) μ) fun x22 μ21 =>
    bnd (fX3_writeOutputs a19 (μ.1 8 n4 6) x22 μ21) fun _ μ23 =>
    j152 μ23
  ) else (
  if x2 = (26 : Int32) then (
    nm (μ.2.1 22 n0 0) fun a25 =>
    ckB a25 2 <|
    bnd (fX4_addressOf a25 p2 μ) fun x28 μ27 =>
    nm (wI μ27 22 n0 6 x28) fun μ29 =>
    j152 μ29
  ) else (
  j152 μ
  ))))))))
set_option maxHeartbeats 4000000 in
set_option maxRecDepth 100000 in
theorem kX9_deliver (l : Launch) (n0 : Nat) (g0 : n0 < 1) (n1 : Nat) (g1 : n1 < 74) (p2 : Int32) (n3 : Nat) (g3 : n3 < 52) (n4 : Nat) (g4 : n4 < 8) : Kon 0 l yX9_deliver cX9_deliver 5 (none) 2 41 0 0 (fun ad => [.ref (ad 22 n0), .ref (ad 50 n1), .int p2, .ref (ad 18 n3), .ref (ad 8 n4)]) rvV (fun μ => fX9_deliver n0 n1 p2 n3 n4 μ) := by
  refine kon_of (by decide) (fun _ => Nat.le_of_ble_eq_true rfl) (fun X r0 μ hXl hXn V C E => ?_)
  have hN : ∀ i : Nat, i < 5 → i < xn X := fun i h => hXn.symm ▸ h
  have R0 := fen_rm E
  show G X r0 0 0 μ 0 [(0, .ref (xa X 22 n0)), (1, .ref (xa X 50 n1)), (2, .int p2), (3, .ref (xa X 18 n3)), (4, .ref (xa X 8 n4))] [] (fX9_deliver n0 n1 p2 n3 n4 μ)
  unfold fX9_deliver
  refine g_jn (P := fun j152 => ∀ (μ1 : Mem), G X r0 0 0 μ1 152 [] [] (j152 μ1)) ?_ (fun j152 hj152 => ?_)
  · intro μ1
    exact s_vret C E dX9_deliver_152
  refine s_gmap C q1541 dX9_deliver_0 ?_
  refine s_aload_n C dX9_deliver_3 rfl 1 rfl ?_
  refine s_ordn C R0 g1 q1542 ⟨Nat.le_of_ble_eq_true rfl, Nat.le_of_ble_eq_true rfl, Nat.le_of_ble_eq_true rfl, Nat.le_of_ble_eq_true rfl⟩ (Nat.le_of_ble_eq_true rfl) dX9_deliver_4 ?_
  refine s_mapld C dX9_deliver_7 ?_
  refine g_nmI (fun x2 => ?_)
  refine g_cases (v := (19 : Int32)) (fun c3 => ?_) (fun c3 => ?_)
  ·
    refine s_tin (tgt := 56) C dX9_deliver_8 c3 (by decide) (by decide) rfl (by decide) ?_
    refine s_aload_n C dX9_deliver_56 rfl 0 rfl ?_
    refine s_getM C (fgX9_15_22 _) g0 dX9_deliver_57 ?_
    refine g_nmA (fun a4 => ?_)
    refine g_ckB (fun b5 => ?_)
    refine s_aload C dX9_deliver_60 4 rfl ?_
    refine s_getI C (fgX9_343_8 _) g4 dX9_deliver_62 ?_
    refine s_iload_n C dX9_deliver_65 rfl 2 rfl ?_
    refine s_aload C dX9_deliver_66 4 rfl ?_
    refine s_getI C (fgX9_346_8 _) g4 dX9_deliver_68 ?_
    refine s_callSN (host := "PinEngines") C R0 (kX12_rotatedPins (xl X) p2 (μ.1 8 n4 5)) (Nat.le_trans (by decide) V) mmX12_rotatedPins q1137 qn1560 rfl rfl rfl (Nat.le_of_ble_eq_true rfl) ⟨Nat.le_of_ble_eq_true rfl, Nat.le_of_ble_eq_true rfl, Nat.le_of_ble_eq_true rfl, Nat.le_of_ble_eq_true rfl⟩ dX9_deliver_71 (fun x7 μ6 => ?_)
    refine g_st (st' := [.int x7, .int (μ.1 8 n4 6), .ref (xa X 12 a4)]) rfl ?_
    refine s_callV C R0 (kX3_writeLatches (xl X) a4 b5 (μ.1 8 n4 6) x7) (Nat.le_trans (by decide) V) mmX3_writeLatches miX3_writeLatches q1587 (rc12 _) b5 rfl rfl rfl (Nat.le_of_ble_eq_true rfl) ⟨Nat.le_of_ble_eq_true rfl, Nat.le_of_ble_eq_true rfl, Nat.le_of_ble_eq_true rfl, Nat.le_of_ble_eq_true rfl⟩ dX9_deliver_74 (fun _ μ8 => ?_)
    refine g_st (st' := []) rfl ?_
    refine s_goto (tgt := 152) C dX9_deliver_77 (by decide) ?_
    exact g_sub [] rfl (hj152 μ8)
  ·
    refine g_cases (v := (20 : Int32)) (fun c9 => ?_) (fun c9 => ?_)
    ·
      refine s_tin (tgt := 104) C dX9_deliver_8 c9 (by decide) (by decide) rfl (by decide) ?_
      refine s_aload_n C dX9_deliver_104 rfl 3 rfl ?_
      refine s_iload_n C dX9_deliver_105 rfl 2 rfl ?_
      refine s_putI C (fpX9_195_18 _) g3 dX9_deliver_106 ?_
      refine g_nmM (fun μ10 => ?_)
      refine s_goto (tgt := 152) C dX9_deliver_109 (by decide) ?_
      exact g_sub [] rfl (hj152 μ10)
    ·
      refine g_cases (v := (21 : Int32)) (fun c11 => ?_) (fun c11 => ?_)
      ·
        refine s_tin (tgt := 112) C dX9_deliver_8 c11 (by decide) (by decide) rfl (by decide) ?_
        refine s_aload_n C dX9_deliver_112 rfl 3 rfl ?_
        refine s_iload_n C dX9_deliver_113 rfl 2 rfl ?_
        refine s_putI C (fpX9_198_18 _) g3 dX9_deliver_114 ?_
        refine g_nmM (fun μ12 => ?_)
        refine s_goto (tgt := 152) C dX9_deliver_117 (by decide) ?_
        exact g_sub [] rfl (hj152 μ12)
      ·
        refine g_cases (v := (22 : Int32)) (fun c13 => ?_) (fun c13 => ?_)
        ·
          refine s_tin (tgt := 135) C dX9_deliver_8 c13 (by decide) (by decide) rfl (by decide) ?_
          refine s_aload_n C dX9_deliver_135 rfl 3 rfl ?_
          refine s_iload_n C dX9_deliver_136 rfl 2 rfl ?_
          refine s_iconst (v := (0 : Int32)) C dX9_deliver_137 (by decide) ?_
          refine s_callV C R0 (kX1_setIsr (xl X) n3 g3 p2 (0 : Int32)) (Nat.le_trans (by decide) V) mmX1_setIsr miX1_setIsr q1563 (rc18 _) g3 rfl rfl rfl (Nat.le_of_ble_eq_true rfl) ⟨Nat.le_of_ble_eq_true rfl, Nat.le_of_ble_eq_true rfl, Nat.le_of_ble_eq_true rfl, Nat.le_of_ble_eq_true rfl⟩ dX9_deliver_138 (fun _ μ14 => ?_)
          refine g_st (st' := []) rfl ?_
          refine s_goto (tgt := 152) C dX9_deliver_141 (by decide) ?_
          exact g_sub [] rfl (hj152 μ14)
        ·
          refine g_cases (v := (23 : Int32)) (fun c15 => ?_) (fun c15 => ?_)
          ·
            refine s_tin (tgt := 144) C dX9_deliver_8 c15 (by decide) (by decide) rfl (by decide) ?_
            refine s_aload_n C dX9_deliver_144 rfl 3 rfl ?_
            refine s_iload_n C dX9_deliver_145 rfl 2 rfl ?_
            refine s_callV C R0 (kX1_setOsr (xl X) n3 g3 p2) (Nat.le_trans (by decide) V) mmX1_setOsr miX1_setOsr q1533 (rc18 _) g3 rfl rfl rfl (Nat.le_of_ble_eq_true rfl) ⟨Nat.le_of_ble_eq_true rfl, Nat.le_of_ble_eq_true rfl, Nat.le_of_ble_eq_true rfl, Nat.le_of_ble_eq_true rfl⟩ dX9_deliver_146 (fun _ μ16 => ?_)
            refine g_st (st' := []) rfl ?_
            refine s_goto (tgt := 152) C dX9_deliver_149 (by decide) ?_
            exact g_sub [] rfl (hj152 μ16)
          ·
            refine g_cases (v := (24 : Int32)) (fun c17 => ?_) (fun c17 => ?_)
            ·
              refine s_tin (tgt := 152) C dX9_deliver_8 c17 (by decide) (by decide) rfl (by decide) ?_
              exact g_sub [] rfl (hj152 μ)
            ·
              refine g_cases (v := (25 : Int32)) (fun c18 => ?_) (fun c18 => ?_)
              ·
                refine s_tin (tgt := 80) C dX9_deliver_8 c18 (by decide) (by decide) rfl (by decide) ?_
                refine s_aload_n C dX9_deliver_80 rfl 0 rfl ?_
                refine s_getM C (fgX9_15_22 _) g0 dX9_deliver_81 ?_
                refine g_nmA (fun a19 => ?_)
                refine g_ckB (fun b20 => ?_)
                refine s_aload C dX9_deliver_84 4 rfl ?_
                refine s_getI C (fgX9_343_8 _) g4 dX9_deliver_86 ?_
                refine s_iload_n C dX9_deliver_89 rfl 2 rfl ?_
                refine s_aload C dX9_deliver_90 4 rfl ?_
                refine s_getI C (fgX9_346_8 _) g4 dX9_deliver_92 ?_
                refine s_callSN (host := "PinEngines") C R0 (kX12_rotatedPins (xl X) p2 (μ.1 8 n4 5)) (Nat.le_trans (by decide) V) mmX12_rotatedPins q1137 qn1560 rfl rfl rfl (Nat.le_of_ble_eq_true rfl) ⟨Nat.le_of_ble_eq_true rfl, Nat.le_of_ble_eq_true rfl, Nat.le_of_ble_eq_true rfl, Nat.le_of_ble_eq_true rfl⟩ dX9_deliver_95 (fun x22 μ21 => ?_)
                refine g_st (st' := [.int x22, .int (μ.1 8 n4 6), .ref (xa X 12 a19)]) rfl ?_
                refine s_callV C R0 (kX3_writeOutputs (xl X) a19 b20 (μ.1 8 n4 6) x22) (Nat.le_trans (by decide) V) mmX3_writeOutputs miX3_writeOutputs q1591 (rc12 _) b20 rfl rfl rfl (Nat.le_of_ble_eq_true rfl) ⟨Nat.le_of_ble_eq_true rfl, Nat.le_of_ble_eq_true rfl, Nat.le_of_ble_eq_true rfl, Nat.le_of_ble_eq_true rfl⟩ dX9_deliver_98 (fun _ μ23 => ?_)
                refine g_st (st' := []) rfl ?_
                refine s_goto (tgt := 152) C dX9_deliver_101 (by decide) ?_
                exact g_sub [] rfl (hj152 μ23)
              ·
                refine g_cases (v := (26 : Int32)) (fun c24 => ?_) (fun c24 => ?_)
                ·
                  refine s_tin (tgt := 120) C dX9_deliver_8 c24 (by decide) (by decide) rfl (by decide) ?_
                  refine s_aload_n C dX9_deliver_120 rfl 0 rfl ?_
                  refine s_aload_n C dX9_deliver_121 rfl 0 rfl ?_
                  refine s_getM C (fgX9_9_22 _) g0 dX9_deliver_122 ?_
                  refine g_nmA (fun a25 => ?_)
                  refine g_ckB (fun b26 => ?_)
                  refine s_iload_n C dX9_deliver_125 rfl 2 rfl ?_
                  refine s_callV C R0 (kX4_addressOf (xl X) a25 b26 p2) (Nat.le_trans (by decide) V) mmX4_addressOf miX4_addressOf q1595 (rc5 _) b26 rfl rfl rfl (Nat.le_of_ble_eq_true rfl) ⟨Nat.le_of_ble_eq_true rfl, Nat.le_of_ble_eq_true rfl, Nat.le_of_ble_eq_true rfl, Nat.le_of_ble_eq_true rfl⟩ dX9_deliver_126 (fun x28 μ27 => ?_)
                  refine g_st (st' := [.int x28, .ref (xa X 22 n0)]) rfl ?_
                  refine s_putI C (fpX9_111_22 _) g0 dX9_deliver_129 ?_
                  refine g_nmM (fun μ29 => ?_)
                  refine s_goto (tgt := 152) C dX9_deliver_132 (by decide) ?_
                  exact g_sub [] rfl (hj152 μ29)
                ·
                  refine s_tout (tgt := 152) C dX9_deliver_8 (by have := ine (i := 19) (by decide) c3; have := ine (i := 20) (by decide) c9; have := ine (i := 21) (by decide) c11; have := ine (i := 22) (by decide) c13; have := ine (i := 23) (by decide) c15; have := ine (i := 24) (by decide) c17; have := ine (i := 25) (by decide) c18; have := ine (i := 26) (by decide) c24; omega) (by decide) ?_
                  exact g_sub [] rfl (hj152 μ)
/-! PinEngines$Symbol.isSpelled([BII)Z -/
def fX10_isSpelled (fu : Nat) (n0 : Nat) (n1 : Nat) (p2 : Int32) (p3 : Int32) (μ : Mem) : Option (Int32 × Mem) :=
  jn (fun (μ1 : Mem) =>
    ckZ (0 : Int32) (some ((0 : Int32), μ1))
  ) fun j23 =>
  if p2 < 0 then (
    j23 μ
  ) else (
    if (Int32.ofNat (1000)) < p3 then (
      j23 μ
    ) else (
      bnd (fJ0_length_8abf5 (syT.getD n0 0) μ) fun x5 μ4 =>
      if x5 = (p3 - p2) then (
        jn (lp (fun _ _ => none) fu (fun j28 (μ7 : Mem) (x8 : Int32) =>
          bnd (fJ0_length_8abf5 (syT.getD n0 0) μ7) fun x10 μ9 =>
          if x10 ≤ x8 then (
            ckZ (1 : Int32) (some ((1 : Int32), μ9))
          ) else (
            bnd (fJ0_charAt_5068e (syT.getD n0 0) x8 μ9) fun x13 μ12 =>
            ckI (p2 + x8) (1000) <|
            if x13 = (μ12.1 1 n1 (p2 + x8).toNatClampNeg) then (
              nm (x8 + (1 : Int32)) fun x15 =>
              j28 μ12 x15
            ) else (
              ckZ (0 : Int32) (some ((0 : Int32), μ12))
            )
          )
        )) fun j28 =>
        j28 μ4 (0 : Int32)
      ) else (
        j23 μ4
      )
    )
  )
set_option maxHeartbeats 4000000 in
set_option maxRecDepth 100000 in
theorem kX10_isSpelled (l : Launch) (fu : Nat) (n0 : Nat) (g0 : n0 < 74) (n1 : Nat) (g1 : n1 < 1) (p2 : Int32) (p3 : Int32) : Kon 0 l yX10_isSpelled cX10_isSpelled 5 (some .boolean) 4 85 0 0 (fun ad => [.ref (ad 50 n0), .ref (ad 1 n1), .int p2, .int p3]) rvI (fun μ => fX10_isSpelled fu n0 n1 p2 p3 μ) := by
  refine kon_of (by decide) (fun _ => Nat.le_of_ble_eq_true rfl) (fun X r0 μ hXl hXn V C E => ?_)
  have hN : ∀ i : Nat, i < 5 → i < xn X := fun i h => hXn.symm ▸ h
  have R0 := fen_rm E
  show G X r0 0 0 μ 0 [(0, .ref (xa X 50 n0)), (1, .ref (xa X 1 n1)), (2, .int p2), (3, .int p3)] [] (fX10_isSpelled fu n0 n1 p2 p3 μ)
  unfold fX10_isSpelled
  refine g_jn (P := fun j23 => ∀ (μ1 : Mem), G X r0 0 0 μ1 23 [] [] (j23 μ1)) ?_ (fun j23 hj23 => ?_)
  · intro μ1
    refine s_iconst (v := (0 : Int32)) C dX10_isSpelled_23 (by decide) ?_
    exact s_zret C E dX10_isSpelled_24
  refine s_iload_n C dX10_isSpelled_0 rfl 2 rfl ?_
  refine s_if_lt (tgt := 23) C dX10_isSpelled_1 (by decide) (fun c2 => ?_) (fun c2 => ?_)
  ·
    exact g_sub [] rfl (hj23 μ)
  ·
    refine s_iload_n C dX10_isSpelled_4 rfl 3 rfl ?_
    refine s_aload_n C dX10_isSpelled_5 rfl 1 rfl ?_
    refine s_alen C (ag1 _) (fun _ => rfl) g1 dX10_isSpelled_6 ?_
    refine s_icmp_gt (tgt := 23) C dX10_isSpelled_7 (by decide) (fun c3 => ?_) (fun c3 => ?_)
    ·
      exact g_sub [] rfl (hj23 μ)
    ·
      refine s_aload_n C dX10_isSpelled_10 rfl 0 rfl ?_
      refine s_symt C g0 q2914 dX10_isSpelled_11 ?_
      refine s_callT C R0 (kJ0_length_8abf5 (xl X) (syT.getD n0 0) (syT_lt _)) (Nat.le_trans (by decide) V) mmJ0_length_8abf5 miJ0_length_8abf5 q996 rfl (syT_lt _) rfl rfl rfl (Nat.le_of_ble_eq_true rfl) ⟨Nat.le_of_ble_eq_true rfl, Nat.le_of_ble_eq_true rfl, Nat.le_of_ble_eq_true rfl, Nat.le_of_ble_eq_true rfl⟩ dX10_isSpelled_14 (fun x5 μ4 => ?_)
      refine g_st (st' := [.int x5]) rfl ?_
      refine s_iload_n C dX10_isSpelled_17 rfl 3 rfl ?_
      refine s_iload_n C dX10_isSpelled_18 rfl 2 rfl ?_
      refine s_isub C dX10_isSpelled_19 ?_
      refine s_icmp_eq (tgt := 25) C dX10_isSpelled_20 (by decide) (fun c6 => ?_) (fun c6 => ?_)
      ·
        refine g_jl (P := fun j28 => ∀ (μ7 : Mem) (x8 : Int32), G X r0 0 0 μ7 28 [(0, .ref (xa X 50 n0)), (1, .ref (xa X 1 n1)), (2, .int p2), (4, .int x8)] [] (j28 μ7 x8)) (fun _ _ => g_none) (fun j28 hj28 => ?_) (fun j28 hj28 => ?_)
        · intro μ7 x8
          refine s_iload C dX10_isSpelled_28 3 rfl ?_
          refine s_aload_n C dX10_isSpelled_30 rfl 0 rfl ?_
          refine s_symt C g0 q2914 dX10_isSpelled_31 ?_
          refine s_callT C R0 (kJ0_length_8abf5 (xl X) (syT.getD n0 0) (syT_lt _)) (Nat.le_trans (by decide) V) mmJ0_length_8abf5 miJ0_length_8abf5 q996 rfl (syT_lt _) rfl rfl rfl (Nat.le_of_ble_eq_true rfl) ⟨Nat.le_of_ble_eq_true rfl, Nat.le_of_ble_eq_true rfl, Nat.le_of_ble_eq_true rfl, Nat.le_of_ble_eq_true rfl⟩ dX10_isSpelled_34 (fun x10 μ9 => ?_)
          refine g_st (st' := [.int x10, .int x8]) rfl ?_
          refine s_icmp_ge (tgt := 66) C dX10_isSpelled_37 (by decide) (fun c11 => ?_) (fun c11 => ?_)
          ·
            refine s_iconst (v := (1 : Int32)) C dX10_isSpelled_66 (by decide) ?_
            exact s_zret C E dX10_isSpelled_67
          ·
            refine s_aload_n C dX10_isSpelled_40 rfl 0 rfl ?_
            refine s_symt C g0 q2914 dX10_isSpelled_41 ?_
            refine s_iload C dX10_isSpelled_44 3 rfl ?_
            refine s_callT C R0 (kJ0_charAt_5068e (xl X) (syT.getD n0 0) (syT_lt _) x8) (Nat.le_trans (by decide) V) mmJ0_charAt_5068e miJ0_charAt_5068e q1005 rfl (syT_lt _) rfl rfl rfl (Nat.le_of_ble_eq_true rfl) ⟨Nat.le_of_ble_eq_true rfl, Nat.le_of_ble_eq_true rfl, Nat.le_of_ble_eq_true rfl, Nat.le_of_ble_eq_true rfl⟩ dX10_isSpelled_46 (fun x13 μ12 => ?_)
            refine g_st (st' := [.int x13]) rfl ?_
            refine s_aload_n C dX10_isSpelled_49 rfl 1 rfl ?_
            refine s_iload_n C dX10_isSpelled_50 rfl 2 rfl ?_
            refine s_iload C dX10_isSpelled_51 3 rfl ?_
            refine s_iadd C dX10_isSpelled_53 ?_
            refine s_bald C (ag1 _) g1 dX10_isSpelled_54 ?_
            refine s_icmp_eq (tgt := 60) C dX10_isSpelled_55 (by decide) (fun c14 => ?_) (fun c14 => ?_)
            ·
              refine g_nmQ (fun x15 ex15 => ?_)
              refine s_iinc (v := x15) (j := 3) (L' := [(4, .int x15), (0, .ref (xa X 50 n0)), (1, .ref (xa X 1 n1)), (2, .int p2)]) C dX10_isSpelled_60 rfl (by rw [ex15]; rfl) (hN 4 (by decide)) rfl ?_
              refine s_goto (tgt := 28) C dX10_isSpelled_63 (by decide) ?_
              exact g_sub [1, 2, 3, 0] rfl (hj28 μ12 x15)
            ·
              refine s_iconst (v := (0 : Int32)) C dX10_isSpelled_58 (by decide) ?_
              exact s_zret C E dX10_isSpelled_59
        refine s_iconst (v := (0 : Int32)) C dX10_isSpelled_25 (by decide) ?_
        refine s_istore (L' := [(4, .int (0 : Int32)), (0, .ref (xa X 50 n0)), (1, .ref (xa X 1 n1)), (2, .int p2), (3, .int p3)]) C dX10_isSpelled_26 (hN 4 (by decide)) rfl ?_
        exact g_sub [1, 2, 3, 0] rfl (hj28 μ4 (0 : Int32))
      ·
        exact g_sub [] rfl (hj23 μ4)
/-! PinEngines$Tokens.rewind()V -/
def fX11_rewind (n0 : Nat) (μ : Mem) : Option (Unit × Mem) :=
  nm (wI μ 2 n0 6 (0 : Int32)) fun μ1 =>
  some ((), μ1)
set_option maxHeartbeats 4000000 in
set_option maxRecDepth 100000 in
theorem kX11_rewind (l : Launch) (n0 : Nat) (g0 : n0 < 1) : Kon 0 l yX11_rewind cX11_rewind 1 (none) 0 0 0 0 (fun ad => [.ref (ad 2 n0)]) rvV (fun μ => fX11_rewind n0 μ) := by
  refine kon_of (by decide) (fun _ => Nat.le_of_ble_eq_true rfl) (fun X r0 μ hXl hXn V C E => ?_)
  have hN : ∀ i : Nat, i < 1 → i < xn X := fun i h => hXn.symm ▸ h
  have R0 := fen_rm E
  show G X r0 0 0 μ 0 [(0, .ref (xa X 2 n0))] [] (fX11_rewind n0 μ)
  unfold fX11_rewind
  refine s_aload_n C dX11_rewind_0 rfl 0 rfl ?_
  refine s_iconst (v := (0 : Int32)) C dX11_rewind_1 (by decide) ?_
  refine s_putI C (fpX11_31_2 _) g0 dX11_rewind_2 ?_
  refine g_nmM (fun μ1 => ?_)
  exact s_vret C E dX11_rewind_5
/-! PinEngines$Tokens.fail(I)V -/
def fX11_fail (n0 : Nat) (p1 : Int32) (μ : Mem) : Option (Unit × Mem) :=
  jn (fun (μ1 : Mem) =>
    nm (wI μ1 2 n0 6 (μ1.1 2 n0 5)) fun μ2 =>
    some ((), μ2)
  ) fun j25 =>
  if ¬ (μ.1 2 n0 7) = 0 then (
    j25 μ
  ) else (
    nm (wI μ 2 n0 7 p1) fun μ4 =>
    ckI (μ4.1 2 n0 6) (1001) <|
    nm (wI μ4 2 n0 8 (μ4.1 4 0 (μ4.1 2 n0 6).toNatClampNeg)) fun μ5 =>
    j25 μ5
  )
set_option maxHeartbeats 4000000 in
set_option maxRecDepth 100000 in
theorem kX11_fail (l : Launch) (n0 : Nat) (g0 : n0 < 1) (p1 : Int32) : Kon 0 l yX11_fail cX11_fail 2 (none) 0 0 0 0 (fun ad => [.ref (ad 2 n0), .int p1]) rvV (fun μ => fX11_fail n0 p1 μ) := by
  refine kon_of (by decide) (fun _ => Nat.le_of_ble_eq_true rfl) (fun X r0 μ hXl hXn V C E => ?_)
  have hN : ∀ i : Nat, i < 2 → i < xn X := fun i h => hXn.symm ▸ h
  have R0 := fen_rm E
  show G X r0 0 0 μ 0 [(0, .ref (xa X 2 n0)), (1, .int p1)] [] (fX11_fail n0 p1 μ)
  unfold fX11_fail
  refine g_jn (P := fun j25 => ∀ (μ1 : Mem), G X r0 0 0 μ1 25 [(0, .ref (xa X 2 n0))] [] (j25 μ1)) ?_ (fun j25 hj25 => ?_)
  · intro μ1
    refine s_aload_n C dX11_fail_25 rfl 0 rfl ?_
    refine s_aload_n C dX11_fail_26 rfl 0 rfl ?_
    refine s_getI C (fgX11_27_2 _) g0 dX11_fail_27 ?_
    refine s_putI C (fpX11_31_2 _) g0 dX11_fail_30 ?_
    refine g_nmM (fun μ2 => ?_)
    exact s_vret C E dX11_fail_33
  refine s_aload_n C dX11_fail_0 rfl 0 rfl ?_
  refine s_getI C (fgX11_34_2 _) g0 dX11_fail_1 ?_
  refine s_if_ne (tgt := 25) C dX11_fail_4 (by decide) (fun c3 => ?_) (fun c3 => ?_)
  ·
    exact g_sub [0] rfl (hj25 μ)
  ·
    refine s_aload_n C dX11_fail_7 rfl 0 rfl ?_
    refine s_iload_n C dX11_fail_8 rfl 1 rfl ?_
    refine s_putI C (fpX11_34_2 _) g0 dX11_fail_9 ?_
    refine g_nmM (fun μ4 => ?_)
    refine s_aload_n C dX11_fail_12 rfl 0 rfl ?_
    refine s_aload_n C dX11_fail_13 rfl 0 rfl ?_
    refine s_getF C (fgX11_17_2 _) g0 dX11_fail_14 ?_
    refine s_aload_n C dX11_fail_17 rfl 0 rfl ?_
    refine s_getI C (fgX11_31_2 _) g0 dX11_fail_18 ?_
    refine s_iald C (ag4 _) (by decide) dX11_fail_21 ?_
    refine s_putI C (fpX11_37_2 _) g0 dX11_fail_22 ?_
    refine g_nmM (fun μ5 => ?_)
    exact g_sub [0] rfl (hj25 μ5)
