/-! PinEngines$Tokens.at(LPinEngines$Symbol;)Z -/
def fX11_at (n0 : Nat) (n1 : Nat) (μ : Mem) : Option (Int32 × Mem) :=
  jn (fun (μ1 : Mem) (x2 : Int32) =>
    ckZ x2 (some (x2, μ1))
  ) fun j18 =>
  ckI (μ.1 2 n0 6) (1001) <|
  nm (μ.2.1 3 0 (μ.1 2 n0 6).toNatClampNeg) fun a3 =>
  ckB a3 74 <|
  if ¬ a3 = n1 then (
    j18 μ (0 : Int32)
  ) else (
    j18 μ (1 : Int32)
  )
set_option maxHeartbeats 4000000 in
set_option maxRecDepth 100000 in
theorem kX11_at (l : Launch) (n0 : Nat) (g0 : n0 < 1) (n1 : Nat) (g1 : n1 < 74) : Kon 0 l yX11_at cX11_at 2 (some .boolean) 0 0 0 0 (fun ad => [.ref (ad 2 n0), .ref (ad 50 n1)]) rvI (fun μ => fX11_at n0 n1 μ) := by
  refine kon_of (by decide) (fun _ => Nat.le_of_ble_eq_true rfl) (fun X r0 μ hXl hXn V C E => ?_)
  have hN : ∀ i : Nat, i < 2 → i < xn X := fun i h => hXn.symm ▸ h
  have R0 := fen_rm E
  show G X r0 0 0 μ 0 [(0, .ref (xa X 2 n0)), (1, .ref (xa X 50 n1))] [] (fX11_at n0 n1 μ)
  unfold fX11_at
  refine g_jn (P := fun j18 => ∀ (μ1 : Mem) (x2 : Int32), G X r0 0 0 μ1 18 [] [.int x2] (j18 μ1 x2)) ?_ (fun j18 hj18 => ?_)
  · intro μ1 x2
    exact s_zret C E dX11_at_18
  refine s_aload_n C dX11_at_0 rfl 0 rfl ?_
  refine s_getF C (fgX11_11_2 _) g0 dX11_at_1 ?_
  refine s_aload_n C dX11_at_4 rfl 0 rfl ?_
  refine s_getI C (fgX11_31_2 _) g0 dX11_at_5 ?_
  refine s_aaldM C (ag3 _) (fun _ => rfl) (by decide) dX11_at_8 ?_
  refine g_nmA (fun a3 => ?_)
  refine g_ckB (fun b4 => ?_)
  refine s_aload_n C dX11_at_9 rfl 1 rfl ?_
  refine s_acmp_ne (tgt := 17) C b4 g1 dX11_at_10 (by decide) (fun c5 => ?_) (fun c5 => ?_)
  ·
    refine s_iconst (v := (0 : Int32)) C dX11_at_17 (by decide) ?_
    exact g_sub [] rfl (hj18 μ (0 : Int32))
  ·
    refine s_iconst (v := (1 : Int32)) C dX11_at_13 (by decide) ?_
    refine s_goto (tgt := 18) C dX11_at_14 (by decide) ?_
    exact g_sub [] rfl (hj18 μ (1 : Int32))
/-! PinEngines$Tokens.atRole(I)Z -/
def fX11_atRole (n0 : Nat) (p1 : Int32) (μ : Mem) : Option (Int32 × Mem) :=
  jn (fun (μ1 : Mem) (x2 : Int32) =>
    ckZ x2 (some (x2, μ1))
  ) fun j22 =>
  ckI (μ.1 2 n0 6) (1001) <|
  nm (μ.2.1 3 0 (μ.1 2 n0 6).toNatClampNeg) fun a3 =>
  ckB a3 74 <|
  if ((syR.getD a3 0) &&& p1) = 0 then (
    j22 μ (0 : Int32)
  ) else (
    j22 μ (1 : Int32)
  )
set_option maxHeartbeats 4000000 in
set_option maxRecDepth 100000 in
theorem kX11_atRole (l : Launch) (n0 : Nat) (g0 : n0 < 1) (p1 : Int32) : Kon 0 l yX11_atRole cX11_atRole 2 (some .boolean) 0 0 0 0 (fun ad => [.ref (ad 2 n0), .int p1]) rvI (fun μ => fX11_atRole n0 p1 μ) := by
  refine kon_of (by decide) (fun _ => Nat.le_of_ble_eq_true rfl) (fun X r0 μ hXl hXn V C E => ?_)
  have hN : ∀ i : Nat, i < 2 → i < xn X := fun i h => hXn.symm ▸ h
  have R0 := fen_rm E
  show G X r0 0 0 μ 0 [(0, .ref (xa X 2 n0)), (1, .int p1)] [] (fX11_atRole n0 p1 μ)
  unfold fX11_atRole
  refine g_jn (P := fun j22 => ∀ (μ1 : Mem) (x2 : Int32), G X r0 0 0 μ1 22 [] [.int x2] (j22 μ1 x2)) ?_ (fun j22 hj22 => ?_)
  · intro μ1 x2
    exact s_zret C E dX11_atRole_22
  refine s_aload_n C dX11_atRole_0 rfl 0 rfl ?_
  refine s_getF C (fgX11_11_2 _) g0 dX11_atRole_1 ?_
  refine s_aload_n C dX11_atRole_4 rfl 0 rfl ?_
  refine s_getI C (fgX11_31_2 _) g0 dX11_atRole_5 ?_
  refine s_aaldM C (ag3 _) (fun _ => rfl) (by decide) dX11_atRole_8 ?_
  refine g_nmA (fun a3 => ?_)
  refine g_ckB (fun b4 => ?_)
  refine s_symr C b4 q2915 dX11_atRole_9 ?_
  refine s_iload_n C dX11_atRole_12 rfl 1 rfl ?_
  refine s_iand C dX11_atRole_13 ?_
  refine s_if_eq (tgt := 21) C dX11_atRole_14 (by decide) (fun c5 => ?_) (fun c5 => ?_)
  ·
    refine s_iconst (v := (0 : Int32)) C dX11_atRole_21 (by decide) ?_
    exact g_sub [] rfl (hj22 μ (0 : Int32))
  ·
    refine s_iconst (v := (1 : Int32)) C dX11_atRole_17 (by decide) ?_
    refine s_goto (tgt := 22) C dX11_atRole_18 (by decide) ?_
    exact g_sub [] rfl (hj22 μ (1 : Int32))
/-! PinEngines$Tokens.atNumberBelow(I)Z -/
def fX11_atNumberBelow (n0 : Nat) (p1 : Int32) (μ : Mem) : Option (Int32 × Mem) :=
  jn (fun (μ1 : Mem) (x2 : Int32) =>
    ckZ x2 (some (x2, μ1))
  ) fun j28 =>
  jn (fun (μ3 : Mem) =>
    j28 μ3 (0 : Int32)
  ) fun j27 =>
  bnd (fX11_at n0 3 μ) fun x5 μ4 =>
  if x5 = 0 then (
    j27 μ4
  ) else (
    ckI (μ4.1 2 n0 6) (1001) <|
    if p1 ≤ (μ4.1 4 2 (μ4.1 2 n0 6).toNatClampNeg) then (
      j27 μ4
    ) else (
      j28 μ4 (1 : Int32)
    )
  )
set_option maxHeartbeats 4000000 in
set_option maxRecDepth 100000 in
theorem kX11_atNumberBelow (l : Launch) (n0 : Nat) (g0 : n0 < 1) (p1 : Int32) : Kon 0 l yX11_atNumberBelow cX11_atNumberBelow 2 (some .boolean) 1 21 0 0 (fun ad => [.ref (ad 2 n0), .int p1]) rvI (fun μ => fX11_atNumberBelow n0 p1 μ) := by
  refine kon_of (by decide) (fun _ => Nat.le_of_ble_eq_true rfl) (fun X r0 μ hXl hXn V C E => ?_)
  have hN : ∀ i : Nat, i < 2 → i < xn X := fun i h => hXn.symm ▸ h
  have R0 := fen_rm E
  show G X r0 0 0 μ 0 [(0, .ref (xa X 2 n0)), (1, .int p1)] [] (fX11_atNumberBelow n0 p1 μ)
  unfold fX11_atNumberBelow
  refine g_jn (P := fun j28 => ∀ (μ1 : Mem) (x2 : Int32), G X r0 0 0 μ1 28 [] [.int x2] (j28 μ1 x2)) ?_ (fun j28 hj28 => ?_)
  · intro μ1 x2
    exact s_zret C E dX11_atNumberBelow_28
  refine g_jn (P := fun j27 => ∀ (μ3 : Mem), G X r0 0 0 μ3 27 [] [] (j27 μ3)) ?_ (fun j27 hj27 => ?_)
  · intro μ3
    refine s_iconst (v := (0 : Int32)) C dX11_atNumberBelow_27 (by decide) ?_
    exact g_sub [] rfl (hj28 μ3 (0 : Int32))
  refine s_aload_n C dX11_atNumberBelow_0 rfl 0 rfl ?_
  refine s_gsym (i := 3) C (by decide) rfl q975 dX11_atNumberBelow_1 ?_
  refine s_callV C R0 (kX11_at (xl X) n0 g0 3 (by decide)) (Nat.le_trans (by decide) V) mmX11_at miX11_at q1056 (rc2 _) g0 rfl rfl rfl (Nat.le_of_ble_eq_true rfl) ⟨Nat.le_of_ble_eq_true rfl, Nat.le_of_ble_eq_true rfl, Nat.le_of_ble_eq_true rfl, Nat.le_of_ble_eq_true rfl⟩ dX11_atNumberBelow_4 (fun x5 μ4 => ?_)
  refine g_st (st' := [.int x5]) rfl ?_
  refine s_if_eq (tgt := 27) C dX11_atNumberBelow_7 (by decide) (fun c6 => ?_) (fun c6 => ?_)
  ·
    exact g_sub [] rfl (hj27 μ4)
  ·
    refine s_aload_n C dX11_atNumberBelow_10 rfl 0 rfl ?_
    refine s_getF C (fgX11_24_2 _) g0 dX11_atNumberBelow_11 ?_
    refine s_aload_n C dX11_atNumberBelow_14 rfl 0 rfl ?_
    refine s_getI C (fgX11_31_2 _) g0 dX11_atNumberBelow_15 ?_
    refine s_iald C (ag4 _) (by decide) dX11_atNumberBelow_18 ?_
    refine s_iload_n C dX11_atNumberBelow_19 rfl 1 rfl ?_
    refine s_icmp_ge (tgt := 27) C dX11_atNumberBelow_20 (by decide) (fun c7 => ?_) (fun c7 => ?_)
    ·
      exact g_sub [] rfl (hj27 μ4)
    ·
      refine s_iconst (v := (1 : Int32)) C dX11_atNumberBelow_23 (by decide) ?_
      refine s_goto (tgt := 28) C dX11_atNumberBelow_24 (by decide) ?_
      exact g_sub [] rfl (hj28 μ4 (1 : Int32))
/-! PinEngines$Tokens.number()I -/
def fX11_number (n0 : Nat) (μ : Mem) : Option (Int32 × Mem) :=
  ckI (μ.1 2 n0 6) (1001) <|
  some ((μ.1 4 2 (μ.1 2 n0 6).toNatClampNeg), μ)
set_option maxHeartbeats 4000000 in
set_option maxRecDepth 100000 in
theorem kX11_number (l : Launch) (n0 : Nat) (g0 : n0 < 1) : Kon 0 l yX11_number cX11_number 1 (some .int) 0 0 0 0 (fun ad => [.ref (ad 2 n0)]) rvI (fun μ => fX11_number n0 μ) := by
  refine kon_of (by decide) (fun _ => Nat.le_of_ble_eq_true rfl) (fun X r0 μ hXl hXn V C E => ?_)
  have hN : ∀ i : Nat, i < 1 → i < xn X := fun i h => hXn.symm ▸ h
  have R0 := fen_rm E
  show G X r0 0 0 μ 0 [(0, .ref (xa X 2 n0))] [] (fX11_number n0 μ)
  unfold fX11_number
  refine s_aload_n C dX11_number_0 rfl 0 rfl ?_
  refine s_getF C (fgX11_24_2 _) g0 dX11_number_1 ?_
  refine s_aload_n C dX11_number_4 rfl 0 rfl ?_
  refine s_getI C (fgX11_31_2 _) g0 dX11_number_5 ?_
  refine s_iald C (ag4 _) (by decide) dX11_number_8 ?_
  exact s_iret C E dX11_number_9
/-! PinEngines$Tokens.skip(LPinEngines$Symbol;)Z -/
def fX11_skip (n0 : Nat) (n1 : Nat) (μ : Mem) : Option (Int32 × Mem) :=
  jn (fun (μ1 : Mem) =>
    ckZ (0 : Int32) (some ((0 : Int32), μ1))
  ) fun j19 =>
  bnd (fX11_at n0 n1 μ) fun x3 μ2 =>
  if x3 = 0 then (
    j19 μ2
  ) else (
    if (μ2.1 2 n0 6) < (μ2.1 2 n0 5) then (
      nm (wI μ2 2 n0 6 ((μ2.1 2 n0 6) + (1 : Int32))) fun μ6 =>
      ckZ (1 : Int32) (some ((1 : Int32), μ6))
    ) else (
      j19 μ2
    )
  )
set_option maxHeartbeats 4000000 in
set_option maxRecDepth 100000 in
theorem kX11_skip (l : Launch) (n0 : Nat) (g0 : n0 < 1) (n1 : Nat) (g1 : n1 < 74) : Kon 0 l yX11_skip cX11_skip 2 (some .boolean) 1 21 0 0 (fun ad => [.ref (ad 2 n0), .ref (ad 50 n1)]) rvI (fun μ => fX11_skip n0 n1 μ) := by
  refine kon_of (by decide) (fun _ => Nat.le_of_ble_eq_true rfl) (fun X r0 μ hXl hXn V C E => ?_)
  have hN : ∀ i : Nat, i < 2 → i < xn X := fun i h => hXn.symm ▸ h
  have R0 := fen_rm E
  show G X r0 0 0 μ 0 [(0, .ref (xa X 2 n0)), (1, .ref (xa X 50 n1))] [] (fX11_skip n0 n1 μ)
  unfold fX11_skip
  refine g_jn (P := fun j19 => ∀ (μ1 : Mem), G X r0 0 0 μ1 19 [] [] (j19 μ1)) ?_ (fun j19 hj19 => ?_)
  · intro μ1
    refine s_iconst (v := (0 : Int32)) C dX11_skip_19 (by decide) ?_
    exact s_zret C E dX11_skip_20
  refine s_aload_n C dX11_skip_0 rfl 0 rfl ?_
  refine s_aload_n C dX11_skip_1 rfl 1 rfl ?_
  refine s_callV C R0 (kX11_at (xl X) n0 g0 n1 g1) (Nat.le_trans (by decide) V) mmX11_at miX11_at q1056 (rc2 _) g0 rfl rfl rfl (Nat.le_of_ble_eq_true rfl) ⟨Nat.le_of_ble_eq_true rfl, Nat.le_of_ble_eq_true rfl, Nat.le_of_ble_eq_true rfl, Nat.le_of_ble_eq_true rfl⟩ dX11_skip_2 (fun x3 μ2 => ?_)
  refine g_st (st' := [.int x3]) rfl ?_
  refine s_if_eq (tgt := 19) C dX11_skip_5 (by decide) (fun c4 => ?_) (fun c4 => ?_)
  ·
    exact g_sub [] rfl (hj19 μ2)
  ·
    refine s_aload_n C dX11_skip_8 rfl 0 rfl ?_
    refine s_getI C (fgX11_31_2 _) g0 dX11_skip_9 ?_
    refine s_aload_n C dX11_skip_12 rfl 0 rfl ?_
    refine s_getI C (fgX11_27_2 _) g0 dX11_skip_13 ?_
    refine s_icmp_lt (tgt := 21) C dX11_skip_16 (by decide) (fun c5 => ?_) (fun c5 => ?_)
    ·
      refine s_aload_n C dX11_skip_21 rfl 0 rfl ?_
      refine s_dup C dX11_skip_22 rfl ?_
      refine s_getI C (fgX11_31_2 _) g0 dX11_skip_23 ?_
      refine s_iconst (v := (1 : Int32)) C dX11_skip_26 (by decide) ?_
      refine s_iadd C dX11_skip_27 ?_
      refine s_putI C (fpX11_31_2 _) g0 dX11_skip_28 ?_
      refine g_nmM (fun μ6 => ?_)
      refine s_iconst (v := (1 : Int32)) C dX11_skip_31 (by decide) ?_
      exact s_zret C E dX11_skip_32
    ·
      exact g_sub [] rfl (hj19 μ2)
/-! PinEngines$Tokens.expect(LPinEngines$Symbol;)V -/
def fX11_expect (n0 : Nat) (n1 : Nat) (μ : Mem) : Option (Unit × Mem) :=
  jn (fun (μ1 : Mem) =>
    some ((), μ1)
  ) fun j13 =>
  bnd (fX11_skip n0 n1 μ) fun x3 μ2 =>
  if ¬ x3 = 0 then (
    j13 μ2
  ) else (
    bnd (fX11_fail n0 (1 : Int32) μ2) fun _ μ5 =>
    j13 μ5
  )
set_option maxHeartbeats 4000000 in
set_option maxRecDepth 100000 in
theorem kX11_expect (l : Launch) (n0 : Nat) (g0 : n0 < 1) (n1 : Nat) (g1 : n1 < 74) : Kon 0 l yX11_expect cX11_expect 2 (none) 2 42 0 0 (fun ad => [.ref (ad 2 n0), .ref (ad 50 n1)]) rvV (fun μ => fX11_expect n0 n1 μ) := by
  refine kon_of (by decide) (fun _ => Nat.le_of_ble_eq_true rfl) (fun X r0 μ hXl hXn V C E => ?_)
  have hN : ∀ i : Nat, i < 2 → i < xn X := fun i h => hXn.symm ▸ h
  have R0 := fen_rm E
  show G X r0 0 0 μ 0 [(0, .ref (xa X 2 n0)), (1, .ref (xa X 50 n1))] [] (fX11_expect n0 n1 μ)
  unfold fX11_expect
  refine g_jn (P := fun j13 => ∀ (μ1 : Mem), G X r0 0 0 μ1 13 [] [] (j13 μ1)) ?_ (fun j13 hj13 => ?_)
  · intro μ1
    exact s_vret C E dX11_expect_13
  refine s_aload_n C dX11_expect_0 rfl 0 rfl ?_
  refine s_aload_n C dX11_expect_1 rfl 1 rfl ?_
  refine s_callV C R0 (kX11_skip (xl X) n0 g0 n1 g1) (Nat.le_trans (by decide) V) mmX11_skip miX11_skip q1088 (rc2 _) g0 rfl rfl rfl (Nat.le_of_ble_eq_true rfl) ⟨Nat.le_of_ble_eq_true rfl, Nat.le_of_ble_eq_true rfl, Nat.le_of_ble_eq_true rfl, Nat.le_of_ble_eq_true rfl⟩ dX11_expect_2 (fun x3 μ2 => ?_)
  refine g_st (st' := [.int x3]) rfl ?_
  refine s_if_ne (tgt := 13) C dX11_expect_5 (by decide) (fun c4 => ?_) (fun c4 => ?_)
  ·
    exact g_sub [] rfl (hj13 μ2)
  ·
    refine s_aload_n C dX11_expect_8 rfl 0 rfl ?_
    refine s_iconst (v := (1 : Int32)) C dX11_expect_9 (by decide) ?_
    refine s_callV C R0 (kX11_fail (xl X) n0 g0 (1 : Int32)) (Nat.le_trans (by decide) V) mmX11_fail miX11_fail q1081 (rc2 _) g0 rfl rfl rfl (Nat.le_of_ble_eq_true rfl) ⟨Nat.le_of_ble_eq_true rfl, Nat.le_of_ble_eq_true rfl, Nat.le_of_ble_eq_true rfl, Nat.le_of_ble_eq_true rfl⟩ dX11_expect_10 (fun _ μ5 => ?_)
    refine g_st (st' := []) rfl ?_
    exact g_sub [] rfl (hj13 μ5)
/-! PinEngines$Tokens.expectEnd()V -/
def fX11_expectEnd (n0 : Nat) (μ : Mem) : Option (Unit × Mem) :=
  jn (fun (μ1 : Mem) =>
    some ((), μ1)
  ) fun j15 =>
  bnd (fX11_at n0 1 μ) fun x3 μ2 =>
  if ¬ x3 = 0 then (
    j15 μ2
  ) else (
    bnd (fX11_fail n0 (1 : Int32) μ2) fun _ μ5 =>
    j15 μ5
  )
set_option maxHeartbeats 4000000 in
set_option maxRecDepth 100000 in
theorem kX11_expectEnd (l : Launch) (n0 : Nat) (g0 : n0 < 1) : Kon 0 l yX11_expectEnd cX11_expectEnd 1 (none) 1 21 0 0 (fun ad => [.ref (ad 2 n0)]) rvV (fun μ => fX11_expectEnd n0 μ) := by
  refine kon_of (by decide) (fun _ => Nat.le_of_ble_eq_true rfl) (fun X r0 μ hXl hXn V C E => ?_)
  have hN : ∀ i : Nat, i < 1 → i < xn X := fun i h => hXn.symm ▸ h
  have R0 := fen_rm E
  show G X r0 0 0 μ 0 [(0, .ref (xa X 2 n0))] [] (fX11_expectEnd n0 μ)
  unfold fX11_expectEnd
  refine g_jn (P := fun j15 => ∀ (μ1 : Mem), G X r0 0 0 μ1 15 [] [] (j15 μ1)) ?_ (fun j15 hj15 => ?_)
  · intro μ1
    exact s_vret C E dX11_expectEnd_15
  refine s_aload_n C dX11_expectEnd_0 rfl 0 rfl ?_
  refine s_gsym (i := 1) C (by decide) rfl q203 dX11_expectEnd_1 ?_
  refine s_callV C R0 (kX11_at (xl X) n0 g0 1 (by decide)) (Nat.le_trans (by decide) V) mmX11_at miX11_at q1056 (rc2 _) g0 rfl rfl rfl (Nat.le_of_ble_eq_true rfl) ⟨Nat.le_of_ble_eq_true rfl, Nat.le_of_ble_eq_true rfl, Nat.le_of_ble_eq_true rfl, Nat.le_of_ble_eq_true rfl⟩ dX11_expectEnd_4 (fun x3 μ2 => ?_)
  refine g_st (st' := [.int x3]) rfl ?_
  refine s_if_ne (tgt := 15) C dX11_expectEnd_7 (by decide) (fun c4 => ?_) (fun c4 => ?_)
  ·
    exact g_sub [] rfl (hj15 μ2)
  ·
    refine s_aload_n C dX11_expectEnd_10 rfl 0 rfl ?_
    refine s_iconst (v := (1 : Int32)) C dX11_expectEnd_11 (by decide) ?_
    refine s_callV C R0 (kX11_fail (xl X) n0 g0 (1 : Int32)) (Nat.le_trans (by decide) V) mmX11_fail miX11_fail q1081 (rc2 _) g0 rfl rfl rfl (Nat.le_of_ble_eq_true rfl) ⟨Nat.le_of_ble_eq_true rfl, Nat.le_of_ble_eq_true rfl, Nat.le_of_ble_eq_true rfl, Nat.le_of_ble_eq_true rfl⟩ dX11_expectEnd_12 (fun _ μ5 => ?_)
    refine g_st (st' := []) rfl ?_
    exact g_sub [] rfl (hj15 μ5)
/-! PinEngines$Tokens.takeOptional(I)LPinEngines$Symbol; -/
def fX11_takeOptional (n0 : Nat) (p1 : Int32) (μ : Mem) : Option (Nat × Mem) :=
  jn (fun (μ1 : Mem) =>
    some (0, μ1)
  ) fun j19 =>
  bnd (fX11_atRole n0 p1 μ) fun x3 μ2 =>
  if x3 = 0 then (
    j19 μ2
  ) else (
    if (μ2.1 2 n0 6) < (μ2.1 2 n0 5) then (
      nm (wI μ2 2 n0 6 ((μ2.1 2 n0 6) + (1 : Int32))) fun μ6 =>
      ckI ((μ6.1 2 n0 6) - (1 : Int32)) (1001) <|
      nm (μ6.2.1 3 0 ((μ6.1 2 n0 6) - (1 : Int32)).toNatClampNeg) fun a7 =>
      ckB a7 74 <|
      some (a7, μ6)
    ) else (
      j19 μ2
    )
  )
set_option maxHeartbeats 4000000 in
set_option maxRecDepth 100000 in
theorem kX11_takeOptional (l : Launch) (n0 : Nat) (g0 : n0 < 1) (p1 : Int32) : Kon 0 l yX11_takeOptional cX11_takeOptional 2 (some (.object "PinEngines$Symbol")) 1 21 0 0 (fun ad => [.ref (ad 2 n0), .int p1]) (rvA 50) (fun μ => fX11_takeOptional n0 p1 μ) := by
  refine kon_of (by decide) (fun _ => Nat.le_of_ble_eq_true rfl) (fun X r0 μ hXl hXn V C E => ?_)
  have hN : ∀ i : Nat, i < 2 → i < xn X := fun i h => hXn.symm ▸ h
  have R0 := fen_rm E
  show G X r0 0 0 μ 0 [(0, .ref (xa X 2 n0)), (1, .int p1)] [] (fX11_takeOptional n0 p1 μ)
  unfold fX11_takeOptional
  refine g_jn (P := fun j19 => ∀ (μ1 : Mem), G X r0 0 0 μ1 19 [] [] (j19 μ1)) ?_ (fun j19 hj19 => ?_)
  · intro μ1
    refine s_gsym (i := 0) C (by decide) rfl q1115 dX11_takeOptional_19 ?_
    exact s_aret C E dX11_takeOptional_22
  refine s_aload_n C dX11_takeOptional_0 rfl 0 rfl ?_
  refine s_iload_n C dX11_takeOptional_1 rfl 1 rfl ?_
  refine s_callV C R0 (kX11_atRole (xl X) n0 g0 p1) (Nat.le_trans (by decide) V) mmX11_atRole miX11_atRole q1114 (rc2 _) g0 rfl rfl rfl (Nat.le_of_ble_eq_true rfl) ⟨Nat.le_of_ble_eq_true rfl, Nat.le_of_ble_eq_true rfl, Nat.le_of_ble_eq_true rfl, Nat.le_of_ble_eq_true rfl⟩ dX11_takeOptional_2 (fun x3 μ2 => ?_)
  refine g_st (st' := [.int x3]) rfl ?_
  refine s_if_eq (tgt := 19) C dX11_takeOptional_5 (by decide) (fun c4 => ?_) (fun c4 => ?_)
  ·
    exact g_sub [] rfl (hj19 μ2)
  ·
    refine s_aload_n C dX11_takeOptional_8 rfl 0 rfl ?_
    refine s_getI C (fgX11_31_2 _) g0 dX11_takeOptional_9 ?_
    refine s_aload_n C dX11_takeOptional_12 rfl 0 rfl ?_
    refine s_getI C (fgX11_27_2 _) g0 dX11_takeOptional_13 ?_
    refine s_icmp_lt (tgt := 23) C dX11_takeOptional_16 (by decide) (fun c5 => ?_) (fun c5 => ?_)
    ·
      refine s_aload_n C dX11_takeOptional_23 rfl 0 rfl ?_
      refine s_dup C dX11_takeOptional_24 rfl ?_
      refine s_getI C (fgX11_31_2 _) g0 dX11_takeOptional_25 ?_
      refine s_iconst (v := (1 : Int32)) C dX11_takeOptional_28 (by decide) ?_
      refine s_iadd C dX11_takeOptional_29 ?_
      refine s_putI C (fpX11_31_2 _) g0 dX11_takeOptional_30 ?_
      refine g_nmM (fun μ6 => ?_)
      refine s_aload_n C dX11_takeOptional_33 rfl 0 rfl ?_
      refine s_getF C (fgX11_11_2 _) g0 dX11_takeOptional_34 ?_
      refine s_aload_n C dX11_takeOptional_37 rfl 0 rfl ?_
      refine s_getI C (fgX11_31_2 _) g0 dX11_takeOptional_38 ?_
      refine s_iconst (v := (1 : Int32)) C dX11_takeOptional_41 (by decide) ?_
      refine s_isub C dX11_takeOptional_42 ?_
      refine s_aaldM C (ag3 _) (fun _ => rfl) (by decide) dX11_takeOptional_43 ?_
      refine g_nmA (fun a7 => ?_)
      refine g_ckB (fun b8 => ?_)
      exact s_aret C E dX11_takeOptional_44
    ·
      exact g_sub [] rfl (hj19 μ2)
/-! PinEngines$Tokens.takeRole(I)LPinEngines$Symbol; -/
def fX11_takeRole (n0 : Nat) (p1 : Int32) (μ : Mem) : Option (Nat × Mem) :=
  jn (fun (μ1 : Mem) (a2 : Nat) =>
    some (a2, μ1)
  ) fun j18 =>
  bnd (fX11_takeOptional n0 p1 μ) fun a5 μ4 =>
  ckB a5 74 <|
  if ¬ a5 = 0 then (
    j18 μ4 a5
  ) else (
    bnd (fX11_fail n0 (1 : Int32) μ4) fun _ μ8 =>
    j18 μ8 a5
  )
set_option maxHeartbeats 4000000 in
set_option maxRecDepth 100000 in
theorem kX11_takeRole (l : Launch) (n0 : Nat) (g0 : n0 < 1) (p1 : Int32) : Kon 0 l yX11_takeRole cX11_takeRole 3 (some (.object "PinEngines$Symbol")) 2 42 0 0 (fun ad => [.ref (ad 2 n0), .int p1]) (rvA 50) (fun μ => fX11_takeRole n0 p1 μ) := by
  refine kon_of (by decide) (fun _ => Nat.le_of_ble_eq_true rfl) (fun X r0 μ hXl hXn V C E => ?_)
  have hN : ∀ i : Nat, i < 3 → i < xn X := fun i h => hXn.symm ▸ h
  have R0 := fen_rm E
  show G X r0 0 0 μ 0 [(0, .ref (xa X 2 n0)), (1, .int p1)] [] (fX11_takeRole n0 p1 μ)
  unfold fX11_takeRole
  refine g_jn (P := fun j18 => ∀ (μ1 : Mem) (a2 : Nat), a2 < 74 → G X r0 0 0 μ1 18 [(2, .ref (xa X 50 a2))] [] (j18 μ1 a2)) ?_ (fun j18 hj18 => ?_)
  · intro μ1 a2 b3
    refine s_aload_n C dX11_takeRole_18 rfl 0 rfl ?_
    exact s_aret C E dX11_takeRole_19
  refine s_aload_n C dX11_takeRole_0 rfl 0 rfl ?_
  refine s_iload_n C dX11_takeRole_1 rfl 1 rfl ?_
  refine s_callV C R0 (kX11_takeOptional (xl X) n0 g0 p1) (Nat.le_trans (by decide) V) mmX11_takeOptional miX11_takeOptional q1110 (rc2 _) g0 rfl rfl rfl (Nat.le_of_ble_eq_true rfl) ⟨Nat.le_of_ble_eq_true rfl, Nat.le_of_ble_eq_true rfl, Nat.le_of_ble_eq_true rfl, Nat.le_of_ble_eq_true rfl⟩ dX11_takeRole_2 (fun a5 μ4 => ?_)
  refine g_st (st' := [.ref (xa X 50 a5)]) rfl ?_
  refine g_ckB (fun b6 => ?_)
  refine s_astore_n (L' := [(2, .ref (xa X 50 a5)), (0, .ref (xa X 2 n0)), (1, .int p1)]) C dX11_takeRole_5 rfl (hN 2 (by decide)) rfl ?_
  refine s_aload_n C dX11_takeRole_6 rfl 0 rfl ?_
  refine s_gsym (i := 0) C (by decide) rfl q1115 dX11_takeRole_7 ?_
  refine s_acmp_ne (tgt := 18) C b6 (by decide) dX11_takeRole_10 (by decide) (fun c7 => ?_) (fun c7 => ?_)
  ·
    exact g_sub [0] rfl (hj18 μ4 a5 b6)
  ·
    refine s_aload_n C dX11_takeRole_13 rfl 1 rfl ?_
    refine s_iconst (v := (1 : Int32)) C dX11_takeRole_14 (by decide) ?_
    refine s_callV C R0 (kX11_fail (xl X) n0 g0 (1 : Int32)) (Nat.le_trans (by decide) V) mmX11_fail miX11_fail q1081 (rc2 _) g0 rfl rfl rfl (Nat.le_of_ble_eq_true rfl) ⟨Nat.le_of_ble_eq_true rfl, Nat.le_of_ble_eq_true rfl, Nat.le_of_ble_eq_true rfl, Nat.le_of_ble_eq_true rfl⟩ dX11_takeRole_15 (fun _ μ8 => ?_)
    refine g_st (st' := []) rfl ?_
    exact g_sub [0] rfl (hj18 μ8 a5 b6)
/-! PinEngines$Tokens.takeNumber(II)I -/
def fX11_takeNumber (n0 : Nat) (p1 : Int32) (p2 : Int32) (μ : Mem) : Option (Int32 × Mem) :=
  bnd (fX11_at n0 3 μ) fun x2 μ1 =>
  if ¬ x2 = 0 then (
    jn (fun (μ4 : Mem) =>
      bnd (fX11_fail n0 (2 : Int32) μ4) fun _ μ5 =>
      some (p1, μ5)
    ) fun j37 =>
    ckI (μ1.1 2 n0 6) (1001) <|
    nm ((μ1.1 4 2 (μ1.1 2 n0 6).toNatClampNeg)) fun x6 =>
    if x6 < p1 then (
      j37 μ1
    ) else (
      if x6 ≤ p2 then (
        nm (wI μ1 2 n0 6 (if (μ1.1 2 n0 5) < ((μ1.1 2 n0 6) + (1 : Int32)) then (μ1.1 2 n0 5) else ((μ1.1 2 n0 6) + (1 : Int32)))) fun μ9 =>
        some (x6, μ9)
      ) else (
        j37 μ1
      )
    )
  ) else (
    bnd (fX11_fail n0 (1 : Int32) μ1) fun _ μ10 =>
    some (p1, μ10)
  )
set_option maxHeartbeats 4000000 in
set_option maxRecDepth 100000 in
theorem kX11_takeNumber (l : Launch) (n0 : Nat) (g0 : n0 < 1) (p1 : Int32) (p2 : Int32) : Kon 0 l yX11_takeNumber cX11_takeNumber 4 (some .int) 1 24 0 0 (fun ad => [.ref (ad 2 n0), .int p1, .int p2]) rvI (fun μ => fX11_takeNumber n0 p1 p2 μ) := by
  refine kon_of (by decide) (fun _ => Nat.le_of_ble_eq_true rfl) (fun X r0 μ hXl hXn V C E => ?_)
  have hN : ∀ i : Nat, i < 4 → i < xn X := fun i h => hXn.symm ▸ h
  have R0 := fen_rm E
  show G X r0 0 0 μ 0 [(0, .ref (xa X 2 n0)), (1, .int p1), (2, .int p2)] [] (fX11_takeNumber n0 p1 p2 μ)
  unfold fX11_takeNumber
  refine s_aload_n C dX11_takeNumber_0 rfl 0 rfl ?_
  refine s_gsym (i := 3) C (by decide) rfl q975 dX11_takeNumber_1 ?_
  refine s_callV C R0 (kX11_at (xl X) n0 g0 3 (by decide)) (Nat.le_trans (by decide) V) mmX11_at miX11_at q1056 (rc2 _) g0 rfl rfl rfl (Nat.le_of_ble_eq_true rfl) ⟨Nat.le_of_ble_eq_true rfl, Nat.le_of_ble_eq_true rfl, Nat.le_of_ble_eq_true rfl, Nat.le_of_ble_eq_true rfl⟩ dX11_takeNumber_4 (fun x2 μ1 => ?_)
  refine g_st (st' := [.int x2]) rfl ?_
  refine s_if_ne (tgt := 17) C dX11_takeNumber_7 (by decide) (fun c3 => ?_) (fun c3 => ?_)
  ·
    refine g_jn (P := fun j37 => ∀ (μ4 : Mem), G X r0 0 0 μ4 37 [(0, .ref (xa X 2 n0)), (1, .int p1)] [] (j37 μ4)) ?_ (fun j37 hj37 => ?_)
    · intro μ4
      refine s_aload_n C dX11_takeNumber_37 rfl 0 rfl ?_
      refine s_iconst (v := (2 : Int32)) C dX11_takeNumber_38 (by decide) ?_
      refine s_callV C R0 (kX11_fail (xl X) n0 g0 (2 : Int32)) (Nat.le_trans (by decide) V) mmX11_fail miX11_fail q1081 (rc2 _) g0 rfl rfl rfl (Nat.le_of_ble_eq_true rfl) ⟨Nat.le_of_ble_eq_true rfl, Nat.le_of_ble_eq_true rfl, Nat.le_of_ble_eq_true rfl, Nat.le_of_ble_eq_true rfl⟩ dX11_takeNumber_39 (fun _ μ5 => ?_)
      refine g_st (st' := []) rfl ?_
      refine s_iload_n C dX11_takeNumber_42 rfl 1 rfl ?_
      exact s_iret C E dX11_takeNumber_43
    refine s_aload_n C dX11_takeNumber_17 rfl 0 rfl ?_
    refine s_getF C (fgX11_24_2 _) g0 dX11_takeNumber_18 ?_
    refine s_aload_n C dX11_takeNumber_21 rfl 0 rfl ?_
    refine s_getI C (fgX11_31_2 _) g0 dX11_takeNumber_22 ?_
    refine s_iald C (ag4 _) (by decide) dX11_takeNumber_25 ?_
    refine g_nmI (fun x6 => ?_)
    refine s_istore_n (L' := [(3, .int x6), (0, .ref (xa X 2 n0)), (1, .int p1), (2, .int p2)]) C dX11_takeNumber_26 rfl (hN 3 (by decide)) rfl ?_
    refine s_iload_n C dX11_takeNumber_27 rfl 0 rfl ?_
    refine s_iload_n C dX11_takeNumber_28 rfl 2 rfl ?_
    refine s_icmp_lt (tgt := 37) C dX11_takeNumber_29 (by decide) (fun c7 => ?_) (fun c7 => ?_)
    ·
      exact g_sub [1, 2] rfl (hj37 μ1)
    ·
      refine s_iload_n C dX11_takeNumber_32 rfl 0 rfl ?_
      refine s_iload_n C dX11_takeNumber_33 rfl 3 rfl ?_
      refine s_icmp_le (tgt := 44) C dX11_takeNumber_34 (by decide) (fun c8 => ?_) (fun c8 => ?_)
      ·
        refine s_aload_n C dX11_takeNumber_44 rfl 1 rfl ?_
        refine s_aload_n C dX11_takeNumber_45 rfl 1 rfl ?_
        refine s_getI C (fgX11_31_2 _) g0 dX11_takeNumber_46 ?_
        refine s_iconst (v := (1 : Int32)) C dX11_takeNumber_49 (by decide) ?_
        refine s_iadd C dX11_takeNumber_50 ?_
        refine s_aload_n C dX11_takeNumber_51 rfl 1 rfl ?_
        refine s_getI C (fgX11_27_2 _) g0 dX11_takeNumber_52 ?_
        refine s_mmin C R0 q970 q726 q172 q727 ⟨Nat.le_of_ble_eq_true rfl, Nat.le_of_ble_eq_true rfl, Nat.le_of_ble_eq_true rfl, Nat.le_of_ble_eq_true rfl⟩ dX11_takeNumber_55 ?_
        refine s_putI C (fpX11_31_2 _) g0 dX11_takeNumber_58 ?_
        refine g_nmM (fun μ9 => ?_)
        refine s_iload_n C dX11_takeNumber_61 rfl 0 rfl ?_
        exact s_iret C E dX11_takeNumber_62
      ·
        exact g_sub [1, 2] rfl (hj37 μ1)
  ·
    refine s_aload_n C dX11_takeNumber_10 rfl 0 rfl ?_
    refine s_iconst (v := (1 : Int32)) C dX11_takeNumber_11 (by decide) ?_
    refine s_callV C R0 (kX11_fail (xl X) n0 g0 (1 : Int32)) (Nat.le_trans (by decide) V) mmX11_fail miX11_fail q1081 (rc2 _) g0 rfl rfl rfl (Nat.le_of_ble_eq_true rfl) ⟨Nat.le_of_ble_eq_true rfl, Nat.le_of_ble_eq_true rfl, Nat.le_of_ble_eq_true rfl, Nat.le_of_ble_eq_true rfl⟩ dX11_takeNumber_12 (fun _ μ10 => ?_)
    refine g_st (st' := []) rfl ?_
    refine s_iload_n C dX11_takeNumber_15 rfl 1 rfl ?_
    exact s_iret C E dX11_takeNumber_16
/-! PinEngines$Tokens.isSameAs(I)Z -/
def fX11_isSameAs (fu : Nat) (n0 : Nat) (p1 : Int32) (μ : Mem) : Option (Int32 × Mem) :=
  jn (fun (μ1 : Mem) =>
    ckZ (0 : Int32) (some ((0 : Int32), μ1))
  ) fun j47 =>
  if p1 < 0 then (
    j47 μ
  ) else (
    if (μ.1 2 n0 5) < p1 then (
      j47 μ
    ) else (
      ckI p1 (1001) <|
      ckI p1 (1001) <|
      ckI (μ.1 2 n0 6) (1001) <|
      ckI (μ.1 2 n0 6) (1001) <|
      if ((μ.1 4 1 p1.toNatClampNeg) - (μ.1 4 0 p1.toNatClampNeg)) = ((μ.1 4 1 (μ.1 2 n0 6).toNatClampNeg) - (μ.1 4 0 (μ.1 2 n0 6).toNatClampNeg)) then (
        jn (lp (fun _ _ _ => none) fu (fun j66 (μ5 : Mem) (x6 : Int32) (x7 : Int32) =>
          ckI (μ5.1 2 n0 6) (1001) <|
          if (μ5.1 4 1 (μ5.1 2 n0 6).toNatClampNeg) ≤ x6 then (
            ckZ (1 : Int32) (some ((1 : Int32), μ5))
          ) else (
            ckI x6 (1000) <|
            ckI x7 (1000) <|
            if (μ5.1 1 0 x6.toNatClampNeg) = (μ5.1 1 0 x7.toNatClampNeg) then (
              nm (x6 + (1 : Int32)) fun x10 =>
              nm (x7 + (1 : Int32)) fun x11 =>
              j66 μ5 x10 x11
            ) else (
              ckZ (0 : Int32) (some ((0 : Int32), μ5))
            )
          )
        )) fun j66 =>
        ckI (μ.1 2 n0 6) (1001) <|
        nm ((μ.1 4 0 (μ.1 2 n0 6).toNatClampNeg)) fun x12 =>
        ckI p1 (1001) <|
        nm ((μ.1 4 0 p1.toNatClampNeg)) fun x13 =>
        j66 μ x12 x13
      ) else (
        j47 μ
      )
    )
  )
set_option maxHeartbeats 4000000 in
set_option maxRecDepth 100000 in
theorem kX11_isSameAs (l : Launch) (fu : Nat) (n0 : Nat) (g0 : n0 < 1) (p1 : Int32) : Kon 0 l yX11_isSameAs cX11_isSameAs 4 (some .boolean) 0 0 0 0 (fun ad => [.ref (ad 2 n0), .int p1]) rvI (fun μ => fX11_isSameAs fu n0 p1 μ) := by
  refine kon_of (by decide) (fun _ => Nat.le_of_ble_eq_true rfl) (fun X r0 μ hXl hXn V C E => ?_)
  have hN : ∀ i : Nat, i < 4 → i < xn X := fun i h => hXn.symm ▸ h
  have R0 := fen_rm E
  show G X r0 0 0 μ 0 [(0, .ref (xa X 2 n0)), (1, .int p1)] [] (fX11_isSameAs fu n0 p1 μ)
  unfold fX11_isSameAs
  refine g_jn (P := fun j47 => ∀ (μ1 : Mem), G X r0 0 0 μ1 47 [] [] (j47 μ1)) ?_ (fun j47 hj47 => ?_)
  · intro μ1
    refine s_iconst (v := (0 : Int32)) C dX11_isSameAs_47 (by decide) ?_
    exact s_zret C E dX11_isSameAs_48
  refine s_iload_n C dX11_isSameAs_0 rfl 1 rfl ?_
  refine s_if_lt (tgt := 47) C dX11_isSameAs_1 (by decide) (fun c2 => ?_) (fun c2 => ?_)
  ·
    exact g_sub [] rfl (hj47 μ)
  ·
    refine s_iload_n C dX11_isSameAs_4 rfl 1 rfl ?_
    refine s_aload_n C dX11_isSameAs_5 rfl 0 rfl ?_
    refine s_getI C (fgX11_27_2 _) g0 dX11_isSameAs_6 ?_
    refine s_icmp_gt (tgt := 47) C dX11_isSameAs_9 (by decide) (fun c3 => ?_) (fun c3 => ?_)
    ·
      exact g_sub [] rfl (hj47 μ)
    ·
      refine s_aload_n C dX11_isSameAs_12 rfl 0 rfl ?_
      refine s_getF C (fgX11_21_2 _) g0 dX11_isSameAs_13 ?_
      refine s_iload_n C dX11_isSameAs_16 rfl 1 rfl ?_
      refine s_iald C (ag4 _) (by decide) dX11_isSameAs_17 ?_
      refine s_aload_n C dX11_isSameAs_18 rfl 0 rfl ?_
      refine s_getF C (fgX11_17_2 _) g0 dX11_isSameAs_19 ?_
      refine s_iload_n C dX11_isSameAs_22 rfl 1 rfl ?_
      refine s_iald C (ag4 _) (by decide) dX11_isSameAs_23 ?_
      refine s_isub C dX11_isSameAs_24 ?_
      refine s_aload_n C dX11_isSameAs_25 rfl 0 rfl ?_
      refine s_getF C (fgX11_21_2 _) g0 dX11_isSameAs_26 ?_
      refine s_aload_n C dX11_isSameAs_29 rfl 0 rfl ?_
      refine s_getI C (fgX11_31_2 _) g0 dX11_isSameAs_30 ?_
      refine s_iald C (ag4 _) (by decide) dX11_isSameAs_33 ?_
      refine s_aload_n C dX11_isSameAs_34 rfl 0 rfl ?_
      refine s_getF C (fgX11_17_2 _) g0 dX11_isSameAs_35 ?_
      refine s_aload_n C dX11_isSameAs_38 rfl 0 rfl ?_
      refine s_getI C (fgX11_31_2 _) g0 dX11_isSameAs_39 ?_
      refine s_iald C (ag4 _) (by decide) dX11_isSameAs_42 ?_
      refine s_isub C dX11_isSameAs_43 ?_
      refine s_icmp_eq (tgt := 49) C dX11_isSameAs_44 (by decide) (fun c4 => ?_) (fun c4 => ?_)
      ·
        refine g_jl (P := fun j66 => ∀ (μ5 : Mem) (x6 : Int32) (x7 : Int32), G X r0 0 0 μ5 66 [(0, .ref (xa X 2 n0)), (2, .int x6), (3, .int x7)] [] (j66 μ5 x6 x7)) (fun _ _ _ => g_none) (fun j66 hj66 => ?_) (fun j66 hj66 => ?_)
        · intro μ5 x6 x7
          refine s_iload_n C dX11_isSameAs_66 rfl 1 rfl ?_
          refine s_aload_n C dX11_isSameAs_67 rfl 0 rfl ?_
          refine s_getF C (fgX11_21_2 _) g0 dX11_isSameAs_68 ?_
          refine s_aload_n C dX11_isSameAs_71 rfl 0 rfl ?_
          refine s_getI C (fgX11_31_2 _) g0 dX11_isSameAs_72 ?_
          refine s_iald C (ag4 _) (by decide) dX11_isSameAs_75 ?_
          refine s_icmp_ge (tgt := 105) C dX11_isSameAs_76 (by decide) (fun c8 => ?_) (fun c8 => ?_)
          ·
            refine s_iconst (v := (1 : Int32)) C dX11_isSameAs_105 (by decide) ?_
            exact s_zret C E dX11_isSameAs_106
          ·
            refine s_aload_n C dX11_isSameAs_79 rfl 0 rfl ?_
            refine s_getF C (fgX11_40_2 _) g0 dX11_isSameAs_80 ?_
            refine s_iload_n C dX11_isSameAs_83 rfl 1 rfl ?_
            refine s_bald C (ag1 _) (by decide) dX11_isSameAs_84 ?_
            refine s_aload_n C dX11_isSameAs_85 rfl 0 rfl ?_
            refine s_getF C (fgX11_40_2 _) g0 dX11_isSameAs_86 ?_
            refine s_iload_n C dX11_isSameAs_89 rfl 2 rfl ?_
            refine s_bald C (ag1 _) (by decide) dX11_isSameAs_90 ?_
            refine s_icmp_eq (tgt := 96) C dX11_isSameAs_91 (by decide) (fun c9 => ?_) (fun c9 => ?_)
            ·
              refine g_nmQ (fun x10 ex10 => ?_)
              refine s_iinc (v := x10) (j := 1) (L' := [(2, .int x10), (0, .ref (xa X 2 n0)), (3, .int x7)]) C dX11_isSameAs_96 rfl (by rw [ex10]; rfl) (hN 2 (by decide)) rfl ?_
              refine g_nmQ (fun x11 ex11 => ?_)
              refine s_iinc (v := x11) (j := 2) (L' := [(3, .int x11), (2, .int x10), (0, .ref (xa X 2 n0))]) C dX11_isSameAs_99 rfl (by rw [ex11]; rfl) (hN 3 (by decide)) rfl ?_
              refine s_goto (tgt := 66) C dX11_isSameAs_102 (by decide) ?_
              exact g_sub [2, 1, 0] rfl (hj66 μ5 x10 x11)
            ·
              refine s_iconst (v := (0 : Int32)) C dX11_isSameAs_94 (by decide) ?_
              exact s_zret C E dX11_isSameAs_95
        refine s_aload_n C dX11_isSameAs_49 rfl 0 rfl ?_
        refine s_getF C (fgX11_17_2 _) g0 dX11_isSameAs_50 ?_
        refine s_aload_n C dX11_isSameAs_53 rfl 0 rfl ?_
        refine s_getI C (fgX11_31_2 _) g0 dX11_isSameAs_54 ?_
        refine s_iald C (ag4 _) (by decide) dX11_isSameAs_57 ?_
        refine g_nmI (fun x12 => ?_)
        refine s_istore_n (L' := [(2, .int x12), (0, .ref (xa X 2 n0)), (1, .int p1)]) C dX11_isSameAs_58 rfl (hN 2 (by decide)) rfl ?_
        refine s_aload_n C dX11_isSameAs_59 rfl 1 rfl ?_
        refine s_getF C (fgX11_17_2 _) g0 dX11_isSameAs_60 ?_
        refine s_iload_n C dX11_isSameAs_63 rfl 2 rfl ?_
        refine s_iald C (ag4 _) (by decide) dX11_isSameAs_64 ?_
        refine g_nmI (fun x13 => ?_)
        refine s_istore_n (L' := [(3, .int x13), (2, .int x12), (0, .ref (xa X 2 n0)), (1, .int p1)]) C dX11_isSameAs_65 rfl (hN 3 (by decide)) rfl ?_
        exact g_sub [2, 1, 0] rfl (hj66 μ x12 x13)
      ·
        exact g_sub [] rfl (hj47 μ)
/-! PinEngines$Tokens.isLetter(B)Z -/
def fX11_isLetter (p0 : Int32) (μ : Mem) : Option (Int32 × Mem) :=
  jn (fun (μ1 : Mem) (x2 : Int32) =>
    ckZ x2 (some (x2, μ1))
  ) fun j17 =>
  jn (fun (μ3 : Mem) =>
    j17 μ3 (0 : Int32)
  ) fun j16 =>
  if p0 < (97 : Int32) then (
    j16 μ
  ) else (
    if (122 : Int32) < p0 then (
      j16 μ
    ) else (
      j17 μ (1 : Int32)
    )
  )
set_option maxHeartbeats 4000000 in
set_option maxRecDepth 100000 in
theorem kX11_isLetter (l : Launch) (p0 : Int32) : Kon 0 l yX11_isLetter cX11_isLetter 1 (some .boolean) 0 0 0 0 (fun _ => [.int p0]) rvI (fun μ => fX11_isLetter p0 μ) := by
  refine kon_of (by decide) (fun _ => Nat.le_of_ble_eq_true rfl) (fun X r0 μ hXl hXn V C E => ?_)
  have hN : ∀ i : Nat, i < 1 → i < xn X := fun i h => hXn.symm ▸ h
  have R0 := fen_rm E
  show G X r0 0 0 μ 0 [(0, .int p0)] [] (fX11_isLetter p0 μ)
  unfold fX11_isLetter
  refine g_jn (P := fun j17 => ∀ (μ1 : Mem) (x2 : Int32), G X r0 0 0 μ1 17 [] [.int x2] (j17 μ1 x2)) ?_ (fun j17 hj17 => ?_)
  · intro μ1 x2
    exact s_zret C E dX11_isLetter_17
  refine g_jn (P := fun j16 => ∀ (μ3 : Mem), G X r0 0 0 μ3 16 [] [] (j16 μ3)) ?_ (fun j16 hj16 => ?_)
  · intro μ3
    refine s_iconst (v := (0 : Int32)) C dX11_isLetter_16 (by decide) ?_
    exact g_sub [] rfl (hj17 μ3 (0 : Int32))
  refine s_iload_n C dX11_isLetter_0 rfl 0 rfl ?_
  refine s_bipush (v := (97 : Int32)) C dX11_isLetter_1 (by decide) ?_
  refine s_icmp_lt (tgt := 16) C dX11_isLetter_3 (by decide) (fun c4 => ?_) (fun c4 => ?_)
  ·
    exact g_sub [] rfl (hj16 μ)
  ·
    refine s_iload_n C dX11_isLetter_6 rfl 0 rfl ?_
    refine s_bipush (v := (122 : Int32)) C dX11_isLetter_7 (by decide) ?_
    refine s_icmp_gt (tgt := 16) C dX11_isLetter_9 (by decide) (fun c5 => ?_) (fun c5 => ?_)
    ·
      exact g_sub [] rfl (hj16 μ)
    ·
      refine s_iconst (v := (1 : Int32)) C dX11_isLetter_12 (by decide) ?_
      refine s_goto (tgt := 17) C dX11_isLetter_13 (by decide) ?_
      exact g_sub [] rfl (hj17 μ (1 : Int32))
/-! PinEngines$Tokens.isDigit(B)Z -/
def fX11_isDigit (p0 : Int32) (μ : Mem) : Option (Int32 × Mem) :=
  jn (fun (μ1 : Mem) (x2 : Int32) =>
    ckZ x2 (some (x2, μ1))
  ) fun j17 =>
  jn (fun (μ3 : Mem) =>
    j17 μ3 (0 : Int32)
  ) fun j16 =>
  if p0 < (48 : Int32) then (
    j16 μ
  ) else (
    if (57 : Int32) < p0 then (
      j16 μ
    ) else (
      j17 μ (1 : Int32)
    )
  )
set_option maxHeartbeats 4000000 in
set_option maxRecDepth 100000 in
theorem kX11_isDigit (l : Launch) (p0 : Int32) : Kon 0 l yX11_isDigit cX11_isDigit 1 (some .boolean) 0 0 0 0 (fun _ => [.int p0]) rvI (fun μ => fX11_isDigit p0 μ) := by
  refine kon_of (by decide) (fun _ => Nat.le_of_ble_eq_true rfl) (fun X r0 μ hXl hXn V C E => ?_)
  have hN : ∀ i : Nat, i < 1 → i < xn X := fun i h => hXn.symm ▸ h
  have R0 := fen_rm E
  show G X r0 0 0 μ 0 [(0, .int p0)] [] (fX11_isDigit p0 μ)
  unfold fX11_isDigit
  refine g_jn (P := fun j17 => ∀ (μ1 : Mem) (x2 : Int32), G X r0 0 0 μ1 17 [] [.int x2] (j17 μ1 x2)) ?_ (fun j17 hj17 => ?_)
  · intro μ1 x2
    exact s_zret C E dX11_isDigit_17
  refine g_jn (P := fun j16 => ∀ (μ3 : Mem), G X r0 0 0 μ3 16 [] [] (j16 μ3)) ?_ (fun j16 hj16 => ?_)
  · intro μ3
    refine s_iconst (v := (0 : Int32)) C dX11_isDigit_16 (by decide) ?_
    exact g_sub [] rfl (hj17 μ3 (0 : Int32))
  refine s_iload_n C dX11_isDigit_0 rfl 0 rfl ?_
  refine s_bipush (v := (48 : Int32)) C dX11_isDigit_1 (by decide) ?_
  refine s_icmp_lt (tgt := 16) C dX11_isDigit_3 (by decide) (fun c4 => ?_) (fun c4 => ?_)
  ·
    exact g_sub [] rfl (hj16 μ)
  ·
    refine s_iload_n C dX11_isDigit_6 rfl 0 rfl ?_
    refine s_bipush (v := (57 : Int32)) C dX11_isDigit_7 (by decide) ?_
    refine s_icmp_gt (tgt := 16) C dX11_isDigit_9 (by decide) (fun c5 => ?_) (fun c5 => ?_)
    ·
      exact g_sub [] rfl (hj16 μ)
    ·
      refine s_iconst (v := (1 : Int32)) C dX11_isDigit_12 (by decide) ?_
      refine s_goto (tgt := 17) C dX11_isDigit_13 (by decide) ?_
      exact g_sub [] rfl (hj17 μ (1 : Int32))
/-! java/lang/Integer.bitCount(I)I -/
def fJ6_bitCount_0f7a4 (p0 : Int32) (μ : Mem) : Option (Int32 × Mem) :=
  nm ((p0 - (((p0.toUInt32 >>> ((1 : Int32).toUInt32 &&& Int32.toUInt32 31)).toInt32) &&& (1431655765 : Int32)))) fun x1 =>
  nm (((x1 &&& (858993459 : Int32)) + (((x1.toUInt32 >>> ((2 : Int32).toUInt32 &&& Int32.toUInt32 31)).toInt32) &&& (858993459 : Int32)))) fun x2 =>
  nm (((x2 + ((x2.toUInt32 >>> ((4 : Int32).toUInt32 &&& Int32.toUInt32 31)).toInt32)) &&& (252645135 : Int32))) fun x3 =>
  nm ((x3 + ((x3.toUInt32 >>> ((8 : Int32).toUInt32 &&& Int32.toUInt32 31)).toInt32))) fun x4 =>
  nm ((x4 + ((x4.toUInt32 >>> ((16 : Int32).toUInt32 &&& Int32.toUInt32 31)).toInt32))) fun x5 =>
  some ((x5 &&& (63 : Int32)), μ)
set_option maxHeartbeats 4000000 in
set_option maxRecDepth 100000 in
theorem kJ6_bitCount_0f7a4 (l : Launch) (p0 : Int32) : Kon 0 l yJ6_bitCount_0f7a4 cJ6_bitCount_0f7a4 1 (some .int) 0 0 0 0 (fun _ => [.int p0]) rvI (fun μ => fJ6_bitCount_0f7a4 p0 μ) := by
  refine kon_of (by decide) (fun _ => Nat.le_of_ble_eq_true rfl) (fun X r0 μ hXl hXn V C E => ?_)
  have hN : ∀ i : Nat, i < 1 → i < xn X := fun i h => hXn.symm ▸ h
  have R0 := fen_rm E
  show G X r0 0 0 μ 0 [(0, .int p0)] [] (fJ6_bitCount_0f7a4 p0 μ)
  unfold fJ6_bitCount_0f7a4
  refine s_iload_n C dJ6_bitCount_0f7a4_0 rfl 0 rfl ?_
  refine s_iload_n C dJ6_bitCount_0f7a4_1 rfl 0 rfl ?_
  refine s_iconst (v := (1 : Int32)) C dJ6_bitCount_0f7a4_2 (by decide) ?_
  refine s_iushr C dJ6_bitCount_0f7a4_3 ?_
  refine s_ldcw (v := (1431655765 : Int32)) C q1624 dJ6_bitCount_0f7a4_4 ?_
  refine s_iand C dJ6_bitCount_0f7a4_7 ?_
  refine s_isub C dJ6_bitCount_0f7a4_8 ?_
  refine g_nmI (fun x1 => ?_)
  refine s_istore_n (L' := [(0, .int x1)]) C dJ6_bitCount_0f7a4_9 rfl (hN 0 (by decide)) rfl ?_
  refine s_iload_n C dJ6_bitCount_0f7a4_10 rfl 0 rfl ?_
  refine s_ldcw (v := (858993459 : Int32)) C q1625 dJ6_bitCount_0f7a4_11 ?_
  refine s_iand C dJ6_bitCount_0f7a4_14 ?_
  refine s_iload_n C dJ6_bitCount_0f7a4_15 rfl 0 rfl ?_
  refine s_iconst (v := (2 : Int32)) C dJ6_bitCount_0f7a4_16 (by decide) ?_
  refine s_iushr C dJ6_bitCount_0f7a4_17 ?_
  refine s_ldcw (v := (858993459 : Int32)) C q1625 dJ6_bitCount_0f7a4_18 ?_
  refine s_iand C dJ6_bitCount_0f7a4_21 ?_
  refine s_iadd C dJ6_bitCount_0f7a4_22 ?_
  refine g_nmI (fun x2 => ?_)
  refine s_istore_n (L' := [(0, .int x2)]) C dJ6_bitCount_0f7a4_23 rfl (hN 0 (by decide)) rfl ?_
  refine s_iload_n C dJ6_bitCount_0f7a4_24 rfl 0 rfl ?_
  refine s_iload_n C dJ6_bitCount_0f7a4_25 rfl 0 rfl ?_
  refine s_iconst (v := (4 : Int32)) C dJ6_bitCount_0f7a4_26 (by decide) ?_
  refine s_iushr C dJ6_bitCount_0f7a4_27 ?_
  refine s_iadd C dJ6_bitCount_0f7a4_28 ?_
  refine s_ldcw (v := (252645135 : Int32)) C q1626 dJ6_bitCount_0f7a4_29 ?_
  refine s_iand C dJ6_bitCount_0f7a4_32 ?_
  refine g_nmI (fun x3 => ?_)
  refine s_istore_n (L' := [(0, .int x3)]) C dJ6_bitCount_0f7a4_33 rfl (hN 0 (by decide)) rfl ?_
  refine s_iload_n C dJ6_bitCount_0f7a4_34 rfl 0 rfl ?_
  refine s_iload_n C dJ6_bitCount_0f7a4_35 rfl 0 rfl ?_
  refine s_bipush (v := (8 : Int32)) C dJ6_bitCount_0f7a4_36 (by decide) ?_
  refine s_iushr C dJ6_bitCount_0f7a4_38 ?_
  refine s_iadd C dJ6_bitCount_0f7a4_39 ?_
  refine g_nmI (fun x4 => ?_)
  refine s_istore_n (L' := [(0, .int x4)]) C dJ6_bitCount_0f7a4_40 rfl (hN 0 (by decide)) rfl ?_
  refine s_iload_n C dJ6_bitCount_0f7a4_41 rfl 0 rfl ?_
  refine s_iload_n C dJ6_bitCount_0f7a4_42 rfl 0 rfl ?_
  refine s_bipush (v := (16 : Int32)) C dJ6_bitCount_0f7a4_43 (by decide) ?_
  refine s_iushr C dJ6_bitCount_0f7a4_45 ?_
  refine s_iadd C dJ6_bitCount_0f7a4_46 ?_
  refine g_nmI (fun x5 => ?_)
  refine s_istore_n (L' := [(0, .int x5)]) C dJ6_bitCount_0f7a4_47 rfl (hN 0 (by decide)) rfl ?_
  refine s_iload_n C dJ6_bitCount_0f7a4_48 rfl 0 rfl ?_
  refine s_bipush (v := (63 : Int32)) C dJ6_bitCount_0f7a4_49 (by decide) ?_
  refine s_iand C dJ6_bitCount_0f7a4_51 ?_
  exact s_iret C E dJ6_bitCount_0f7a4_52
/-! java/lang/Integer.reverseBytes(I)I -/
def fJ6_reverseBytes_0f7a4 (p0 : Int32) (μ : Mem) : Option (Int32 × Mem) :=
  some (((((p0 <<< ((24 : Int32) &&& 31)) ||| ((p0 &&& (65280 : Int32)) <<< ((8 : Int32) &&& 31))) ||| (((p0.toUInt32 >>> ((8 : Int32).toUInt32 &&& Int32.toUInt32 31)).toInt32) &&& (65280 : Int32))) ||| ((p0.toUInt32 >>> ((24 : Int32).toUInt32 &&& Int32.toUInt32 31)).toInt32)), μ)
set_option maxHeartbeats 4000000 in
set_option maxRecDepth 100000 in
theorem kJ6_reverseBytes_0f7a4 (l : Launch) (p0 : Int32) : Kon 0 l yJ6_reverseBytes_0f7a4 cJ6_reverseBytes_0f7a4 1 (some .int) 0 0 0 0 (fun _ => [.int p0]) rvI (fun μ => fJ6_reverseBytes_0f7a4 p0 μ) := by
  refine kon_of (by decide) (fun _ => Nat.le_of_ble_eq_true rfl) (fun X r0 μ hXl hXn V C E => ?_)
  have hN : ∀ i : Nat, i < 1 → i < xn X := fun i h => hXn.symm ▸ h
  have R0 := fen_rm E
  show G X r0 0 0 μ 0 [(0, .int p0)] [] (fJ6_reverseBytes_0f7a4 p0 μ)
  unfold fJ6_reverseBytes_0f7a4
  refine s_iload_n C dJ6_reverseBytes_0f7a4_0 rfl 0 rfl ?_
  refine s_bipush (v := (24 : Int32)) C dJ6_reverseBytes_0f7a4_1 (by decide) ?_
  refine s_ishl C dJ6_reverseBytes_0f7a4_3 ?_
  refine s_iload_n C dJ6_reverseBytes_0f7a4_4 rfl 0 rfl ?_
  refine s_ldcw (v := (65280 : Int32)) C q1630 dJ6_reverseBytes_0f7a4_5 ?_
  refine s_iand C dJ6_reverseBytes_0f7a4_8 ?_
  refine s_bipush (v := (8 : Int32)) C dJ6_reverseBytes_0f7a4_9 (by decide) ?_
  refine s_ishl C dJ6_reverseBytes_0f7a4_11 ?_
  refine s_ior C dJ6_reverseBytes_0f7a4_12 ?_
  refine s_iload_n C dJ6_reverseBytes_0f7a4_13 rfl 0 rfl ?_
  refine s_bipush (v := (8 : Int32)) C dJ6_reverseBytes_0f7a4_14 (by decide) ?_
  refine s_iushr C dJ6_reverseBytes_0f7a4_16 ?_
  refine s_ldcw (v := (65280 : Int32)) C q1630 dJ6_reverseBytes_0f7a4_17 ?_
  refine s_iand C dJ6_reverseBytes_0f7a4_20 ?_
  refine s_ior C dJ6_reverseBytes_0f7a4_21 ?_
  refine s_iload_n C dJ6_reverseBytes_0f7a4_22 rfl 0 rfl ?_
  refine s_bipush (v := (24 : Int32)) C dJ6_reverseBytes_0f7a4_23 (by decide) ?_
  refine s_iushr C dJ6_reverseBytes_0f7a4_25 ?_
  refine s_ior C dJ6_reverseBytes_0f7a4_26 ?_
  exact s_iret C E dJ6_reverseBytes_0f7a4_27
/-! PinEngines.feed(IIIII)I -/
def fX12_feed (fu : Nat) (n0 : Nat) (p1 : Int32) (p2 : Int32) (p3 : Int32) (p4 : Int32) (p5 : Int32) (μ : Mem) : Option (Int32 × Mem) :=
  if ((μ.1 0 n0 1) + (20 : Int32)) ≤ (1000 : Int32) then (
    bnd (fX12_appendBytes fu n0 p1 μ) fun _ μ2 =>
    bnd (fX12_appendBytes fu n0 p2 μ2) fun _ μ3 =>
    bnd (fX12_appendBytes fu n0 p3 μ3) fun _ μ4 =>
    bnd (fX12_appendBytes fu n0 p4 μ4) fun _ μ5 =>
    bnd (fX12_appendBytes fu n0 p5 μ5) fun _ μ6 =>
    some ((μ6.1 0 n0 1), μ6)
  ) else (
    some ((-1 : Int32), μ)
  )
set_option maxHeartbeats 4000000 in
set_option maxRecDepth 100000 in
theorem kX12_feed (l : Launch) (fu : Nat) (n0 : Nat) (g0 : n0 < 1) (p1 : Int32) (p2 : Int32) (p3 : Int32) (p4 : Int32) (p5 : Int32) : Kon 0 l yX12_feed cX12_feed 6 (some .int) 1 22 0 0 (fun ad => [.ref (ad 0 n0), .int p1, .int p2, .int p3, .int p4, .int p5]) rvI (fun μ => fX12_feed fu n0 p1 p2 p3 p4 p5 μ) := by
  refine kon_of (by decide) (fun _ => Nat.le_of_ble_eq_true rfl) (fun X r0 μ hXl hXn V C E => ?_)
  have hN : ∀ i : Nat, i < 6 → i < xn X := fun i h => hXn.symm ▸ h
  have R0 := fen_rm E
  show G X r0 0 0 μ 0 [(0, .ref (xa X 0 n0)), (1, .int p1), (2, .int p2), (3, .int p3), (4, .int p4), (5, .int p5)] [] (fX12_feed fu n0 p1 p2 p3 p4 p5 μ)
  unfold fX12_feed
  refine s_aload_n C dX12_feed_0 rfl 0 rfl ?_
  refine s_getI C (fgX12_13_0 _) g0 dX12_feed_1 ?_
  refine s_bipush (v := (20 : Int32)) C dX12_feed_4 (by decide) ?_
  refine s_iadd C dX12_feed_6 ?_
  refine s_sipush (v := (1000 : Int32)) C dX12_feed_7 (by decide) ?_
  refine s_icmp_le (tgt := 15) C dX12_feed_10 (by decide) (fun c1 => ?_) (fun c1 => ?_)
  ·
    refine s_aload_n C dX12_feed_15 rfl 0 rfl ?_
    refine s_iload_n C dX12_feed_16 rfl 1 rfl ?_
    refine s_callV C R0 (kX12_appendBytes (xl X) fu n0 g0 p1) (Nat.le_trans (by decide) V) mmX12_appendBytes miX12_appendBytes q795 (rc0 _) g0 rfl rfl rfl (Nat.le_of_ble_eq_true rfl) ⟨Nat.le_of_ble_eq_true rfl, Nat.le_of_ble_eq_true rfl, Nat.le_of_ble_eq_true rfl, Nat.le_of_ble_eq_true rfl⟩ dX12_feed_17 (fun _ μ2 => ?_)
    refine g_st (st' := []) rfl ?_
    refine s_aload_n C dX12_feed_20 rfl 0 rfl ?_
    refine s_iload_n C dX12_feed_21 rfl 2 rfl ?_
    refine s_callV C R0 (kX12_appendBytes (xl X) fu n0 g0 p2) (Nat.le_trans (by decide) V) mmX12_appendBytes miX12_appendBytes q795 (rc0 _) g0 rfl rfl rfl (Nat.le_of_ble_eq_true rfl) ⟨Nat.le_of_ble_eq_true rfl, Nat.le_of_ble_eq_true rfl, Nat.le_of_ble_eq_true rfl, Nat.le_of_ble_eq_true rfl⟩ dX12_feed_22 (fun _ μ3 => ?_)
    refine g_st (st' := []) rfl ?_
    refine s_aload_n C dX12_feed_25 rfl 0 rfl ?_
    refine s_iload_n C dX12_feed_26 rfl 3 rfl ?_
    refine s_callV C R0 (kX12_appendBytes (xl X) fu n0 g0 p3) (Nat.le_trans (by decide) V) mmX12_appendBytes miX12_appendBytes q795 (rc0 _) g0 rfl rfl rfl (Nat.le_of_ble_eq_true rfl) ⟨Nat.le_of_ble_eq_true rfl, Nat.le_of_ble_eq_true rfl, Nat.le_of_ble_eq_true rfl, Nat.le_of_ble_eq_true rfl⟩ dX12_feed_27 (fun _ μ4 => ?_)
    refine g_st (st' := []) rfl ?_
    refine s_aload_n C dX12_feed_30 rfl 0 rfl ?_
    refine s_iload C dX12_feed_31 4 rfl ?_
    refine s_callV C R0 (kX12_appendBytes (xl X) fu n0 g0 p4) (Nat.le_trans (by decide) V) mmX12_appendBytes miX12_appendBytes q795 (rc0 _) g0 rfl rfl rfl (Nat.le_of_ble_eq_true rfl) ⟨Nat.le_of_ble_eq_true rfl, Nat.le_of_ble_eq_true rfl, Nat.le_of_ble_eq_true rfl, Nat.le_of_ble_eq_true rfl⟩ dX12_feed_33 (fun _ μ5 => ?_)
    refine g_st (st' := []) rfl ?_
    refine s_aload_n C dX12_feed_36 rfl 0 rfl ?_
    refine s_iload C dX12_feed_37 5 rfl ?_
    refine s_callV C R0 (kX12_appendBytes (xl X) fu n0 g0 p5) (Nat.le_trans (by decide) V) mmX12_appendBytes miX12_appendBytes q795 (rc0 _) g0 rfl rfl rfl (Nat.le_of_ble_eq_true rfl) ⟨Nat.le_of_ble_eq_true rfl, Nat.le_of_ble_eq_true rfl, Nat.le_of_ble_eq_true rfl, Nat.le_of_ble_eq_true rfl⟩ dX12_feed_39 (fun _ μ6 => ?_)
    refine g_st (st' := []) rfl ?_
    refine s_aload_n C dX12_feed_42 rfl 0 rfl ?_
    refine s_getI C (fgX12_13_0 _) g0 dX12_feed_43 ?_
    exact s_iret C E dX12_feed_46
  ·
    refine s_iconst (v := (-1 : Int32)) C dX12_feed_13 (by decide) ?_
    exact s_iret C E dX12_feed_14
/-! PinEngines.engines()I -/
def fX12_engines (fu : Nat) (n0 : Nat) (μ : Mem) : Option (Int32 × Mem) :=
  nm (μ.2.1 0 n0 4) fun a1 =>
  ckB a1 2 <|
  bnd (fX4_engineMask fu a1 μ) fun x4 μ3 =>
  some (x4, μ3)
set_option maxHeartbeats 4000000 in
set_option maxRecDepth 100000 in
theorem kX12_engines (l : Launch) (fu : Nat) (n0 : Nat) (g0 : n0 < 1) : Kon 0 l yX12_engines cX12_engines 1 (some .int) 1 22 0 0 (fun ad => [.ref (ad 0 n0)]) rvI (fun μ => fX12_engines fu n0 μ) := by
  refine kon_of (by decide) (fun _ => Nat.le_of_ble_eq_true rfl) (fun X r0 μ hXl hXn V C E => ?_)
  have hN : ∀ i : Nat, i < 1 → i < xn X := fun i h => hXn.symm ▸ h
  have R0 := fen_rm E
  show G X r0 0 0 μ 0 [(0, .ref (xa X 0 n0))] [] (fX12_engines fu n0 μ)
  unfold fX12_engines
  refine s_aload_n C dX12_engines_0 rfl 0 rfl ?_
  refine s_getM C (fgX12_32_0 _) g0 dX12_engines_1 ?_
  refine g_nmA (fun a1 => ?_)
  refine g_ckB (fun b2 => ?_)
  refine s_callV C R0 (kX4_engineMask (xl X) fu a1 b2) (Nat.le_trans (by decide) V) mmX4_engineMask miX4_engineMask q811 (rc5 _) b2 rfl rfl rfl (Nat.le_of_ble_eq_true rfl) ⟨Nat.le_of_ble_eq_true rfl, Nat.le_of_ble_eq_true rfl, Nat.le_of_ble_eq_true rfl, Nat.le_of_ble_eq_true rfl⟩ dX12_engines_4 (fun x4 μ3 => ?_)
  refine g_st (st' := [.int x4]) rfl ?_
  exact s_iret C E dX12_engines_7
/-! PinEngines.level(I)I -/
def fX12_level (n0 : Nat) (p1 : Int32) (μ : Mem) : Option (RX Int32) :=
  bndX (fX12_checkPin p1 μ) fun _ μ1 =>
  bnd (fX3_levels 0 μ1) fun x3 μ2 =>
  some (.inr ((x3 >>> (p1 &&& 31)) &&& (1 : Int32)), μ2)
set_option maxHeartbeats 4000000 in
set_option maxRecDepth 100000 in
theorem kX12_level (l : Launch) (hls : l.stackTraces = false) (n0 : Nat) (g0 : n0 < 1) (p1 : Int32) : KonX 0 l yX12_level cX12_level 2 (some .int) 7 109 1 6 (fun ad => [.ref (ad 0 n0), .int p1]) rvI (fun μ => fX12_level n0 p1 μ) := by
  refine konX_of (by decide) (fun _ => Nat.le_of_ble_eq_true rfl) (fun X r0 μ hXl hXn V C E => ?_)
  have hN : ∀ i : Nat, i < 2 → i < xn X := fun i h => hXn.symm ▸ h
  have R0 := fex_rm E
  have hT : (xl X).stackTraces = false := hXl.symm ▸ hls
  show G X r0 0 0 μ 0 [(0, .ref (xa X 0 n0)), (1, .int p1)] [] (fX12_level n0 p1 μ)
  unfold fX12_level
  refine s_iload_n C dX12_level_0 rfl 1 rfl ?_
  refine s_callSX C E (kX12_checkPin (xl X) hT p1) (Nat.le_trans (by decide) V) mmX12_checkPin q1218 q1217 rfl rfl rfl (Nat.le_of_ble_eq_true rfl) ⟨Nat.le_of_ble_eq_true rfl, Nat.le_of_ble_eq_true rfl, Nat.le_of_ble_eq_true rfl, Nat.le_of_ble_eq_true rfl⟩ dX12_level_1 (fun _ μ1 => ?_)
  refine g_st (st' := []) rfl ?_
  refine s_aload_n C dX12_level_4 rfl 0 rfl ?_
  refine s_getF C (fgX12_51_0 _) g0 dX12_level_5 ?_
  refine s_callV C R0 (kX3_levels (xl X) 0 (by decide)) (Nat.le_trans (by decide) V) mmX3_levels miX3_levels q1235 (rc12 _) (by decide) rfl rfl rfl (Nat.le_of_ble_eq_true rfl) ⟨Nat.le_of_ble_eq_true rfl, Nat.le_of_ble_eq_true rfl, Nat.le_of_ble_eq_true rfl, Nat.le_of_ble_eq_true rfl⟩ dX12_level_8 (fun x3 μ2 => ?_)
  refine g_st (st' := [.int x3]) rfl ?_
  refine s_iload_n C dX12_level_11 rfl 1 rfl ?_
  refine s_ishr C dX12_level_12 ?_
  refine s_iconst (v := (1 : Int32)) C dX12_level_13 (by decide) ?_
  refine s_iand C dX12_level_14 ?_
  exact s_iretX C E ⟨by decide, by decide⟩ dX12_level_15
/-! PinEngines.latch(I)I -/
def fX12_latch (n0 : Nat) (p1 : Int32) (μ : Mem) : Option (RX Int32) :=
  bndX (fX12_checkPin p1 μ) fun _ μ1 =>
  some (.inr (((μ1.1 12 0 1) >>> (p1 &&& 31)) &&& (1 : Int32)), μ1)
set_option maxHeartbeats 4000000 in
set_option maxRecDepth 100000 in
theorem kX12_latch (l : Launch) (hls : l.stackTraces = false) (n0 : Nat) (g0 : n0 < 1) (p1 : Int32) : KonX 0 l yX12_latch cX12_latch 2 (some .int) 7 109 1 6 (fun ad => [.ref (ad 0 n0), .int p1]) rvI (fun μ => fX12_latch n0 p1 μ) := by
  refine konX_of (by decide) (fun _ => Nat.le_of_ble_eq_true rfl) (fun X r0 μ hXl hXn V C E => ?_)
  have hN : ∀ i : Nat, i < 2 → i < xn X := fun i h => hXn.symm ▸ h
  have R0 := fex_rm E
  have hT : (xl X).stackTraces = false := hXl.symm ▸ hls
  show G X r0 0 0 μ 0 [(0, .ref (xa X 0 n0)), (1, .int p1)] [] (fX12_latch n0 p1 μ)
  unfold fX12_latch
  refine s_iload_n C dX12_latch_0 rfl 1 rfl ?_
  refine s_callSX C E (kX12_checkPin (xl X) hT p1) (Nat.le_trans (by decide) V) mmX12_checkPin q1218 q1217 rfl rfl rfl (Nat.le_of_ble_eq_true rfl) ⟨Nat.le_of_ble_eq_true rfl, Nat.le_of_ble_eq_true rfl, Nat.le_of_ble_eq_true rfl, Nat.le_of_ble_eq_true rfl⟩ dX12_latch_1 (fun _ μ1 => ?_)
  refine g_st (st' := []) rfl ?_
  refine s_aload_n C dX12_latch_4 rfl 0 rfl ?_
  refine s_getF C (fgX12_51_0 _) g0 dX12_latch_5 ?_
  refine s_getI C (fgX12_140_12 _) (by decide) dX12_latch_8 ?_
  refine s_iload_n C dX12_latch_11 rfl 1 rfl ?_
  refine s_ishr C dX12_latch_12 ?_
  refine s_iconst (v := (1 : Int32)) C dX12_latch_13 (by decide) ?_
  refine s_iand C dX12_latch_14 ?_
  exact s_iretX C E ⟨by decide, by decide⟩ dX12_latch_15
/-! PinEngines.isOutput(I)Z -/
def fX12_isOutput (n0 : Nat) (p1 : Int32) (μ : Mem) : Option (RX Int32) :=
  jn (fun (μ1 : Mem) (x2 : Int32) =>
    ckZ x2 (some (.inr x2, μ1))
  ) fun j24 =>
  bndX (fX12_checkPin p1 μ) fun _ μ3 =>
  if ¬ (((μ3.1 12 0 2) >>> (p1 &&& 31)) &&& (1 : Int32)) = (1 : Int32) then (
    j24 μ3 (0 : Int32)
  ) else (
    j24 μ3 (1 : Int32)
  )
set_option maxHeartbeats 4000000 in
set_option maxRecDepth 100000 in
theorem kX12_isOutput (l : Launch) (hls : l.stackTraces = false) (n0 : Nat) (g0 : n0 < 1) (p1 : Int32) : KonX 0 l yX12_isOutput cX12_isOutput 2 (some .boolean) 7 109 1 6 (fun ad => [.ref (ad 0 n0), .int p1]) rvI (fun μ => fX12_isOutput n0 p1 μ) := by
  refine konX_of (by decide) (fun _ => Nat.le_of_ble_eq_true rfl) (fun X r0 μ hXl hXn V C E => ?_)
  have hN : ∀ i : Nat, i < 2 → i < xn X := fun i h => hXn.symm ▸ h
  have R0 := fex_rm E
  have hT : (xl X).stackTraces = false := hXl.symm ▸ hls
  show G X r0 0 0 μ 0 [(0, .ref (xa X 0 n0)), (1, .int p1)] [] (fX12_isOutput n0 p1 μ)
  unfold fX12_isOutput
  refine g_jn (P := fun j24 => ∀ (μ1 : Mem) (x2 : Int32), G X r0 1 6 μ1 24 [] [.int x2] (j24 μ1 x2)) ?_ (fun j24 hj24 => ?_)
  · intro μ1 x2
    exact s_zretX C E ⟨by decide, by decide⟩ dX12_isOutput_24
  refine s_iload_n C dX12_isOutput_0 rfl 1 rfl ?_
  refine s_callSX C E (kX12_checkPin (xl X) hT p1) (Nat.le_trans (by decide) V) mmX12_checkPin q1218 q1217 rfl rfl rfl (Nat.le_of_ble_eq_true rfl) ⟨Nat.le_of_ble_eq_true rfl, Nat.le_of_ble_eq_true rfl, Nat.le_of_ble_eq_true rfl, Nat.le_of_ble_eq_true rfl⟩ dX12_isOutput_1 (fun _ μ3 => ?_)
  refine g_st (st' := []) rfl ?_
  refine s_aload_n C dX12_isOutput_4 rfl 0 rfl ?_
  refine s_getF C (fgX12_51_0 _) g0 dX12_isOutput_5 ?_
  refine s_getI C (fgX12_143_12 _) (by decide) dX12_isOutput_8 ?_
  refine s_iload_n C dX12_isOutput_11 rfl 1 rfl ?_
  refine s_ishr C dX12_isOutput_12 ?_
  refine s_iconst (v := (1 : Int32)) C dX12_isOutput_13 (by decide) ?_
  refine s_iand C dX12_isOutput_14 ?_
  refine s_iconst (v := (1 : Int32)) C dX12_isOutput_15 (by decide) ?_
  refine s_icmp_ne (tgt := 23) C dX12_isOutput_16 (by decide) (fun c4 => ?_) (fun c4 => ?_)
  ·
    refine s_iconst (v := (0 : Int32)) C dX12_isOutput_23 (by decide) ?_
    exact g_wid (ca1 := 1) (sl1 := 6) (by decide) (by decide) <| g_sub [] rfl (hj24 μ3 (0 : Int32))
  ·
    refine s_iconst (v := (1 : Int32)) C dX12_isOutput_19 (by decide) ?_
    refine s_goto (tgt := 24) C dX12_isOutput_20 (by decide) ?_
    exact g_wid (ca1 := 1) (sl1 := 6) (by decide) (by decide) <| g_sub [] rfl (hj24 μ3 (1 : Int32))
/-! PinEngines.memory(I)I -/
def fX12_memory (n0 : Nat) (p1 : Int32) (μ : Mem) : Option (RX Int32) :=
  bndX (fX12_checkMemory p1 μ) fun _ μ1 =>
  ckI p1 (16) <|
  some (.inr (μ1.1 13 0 p1.toNatClampNeg), μ1)
set_option maxHeartbeats 4000000 in
set_option maxRecDepth 100000 in
theorem kX12_memory (l : Launch) (hls : l.stackTraces = false) (n0 : Nat) (g0 : n0 < 1) (p1 : Int32) : KonX 0 l yX12_memory cX12_memory 2 (some .int) 7 109 1 6 (fun ad => [.ref (ad 0 n0), .int p1]) rvI (fun μ => fX12_memory n0 p1 μ) := by
  refine konX_of (by decide) (fun _ => Nat.le_of_ble_eq_true rfl) (fun X r0 μ hXl hXn V C E => ?_)
  have hN : ∀ i : Nat, i < 2 → i < xn X := fun i h => hXn.symm ▸ h
  have R0 := fex_rm E
  have hT : (xl X).stackTraces = false := hXl.symm ▸ hls
  show G X r0 0 0 μ 0 [(0, .ref (xa X 0 n0)), (1, .int p1)] [] (fX12_memory n0 p1 μ)
  unfold fX12_memory
  refine s_iload_n C dX12_memory_0 rfl 1 rfl ?_
  refine s_callSX C E (kX12_checkMemory (xl X) hT p1) (Nat.le_trans (by decide) V) mmX12_checkMemory q1265 q1264 rfl rfl rfl (Nat.le_of_ble_eq_true rfl) ⟨Nat.le_of_ble_eq_true rfl, Nat.le_of_ble_eq_true rfl, Nat.le_of_ble_eq_true rfl, Nat.le_of_ble_eq_true rfl⟩ dX12_memory_1 (fun _ μ1 => ?_)
  refine g_st (st' := []) rfl ?_
  refine s_aload_n C dX12_memory_4 rfl 0 rfl ?_
  refine s_getF C (fgX12_51_0 _) g0 dX12_memory_5 ?_
  refine s_getF C (fgX12_155_12 _) (by decide) dX12_memory_8 ?_
  refine s_iload_n C dX12_memory_11 rfl 1 rfl ?_
  refine s_iald C (ag13 _) (by decide) dX12_memory_12 ?_
  exact s_iretX C E ⟨by decide, by decide⟩ dX12_memory_13
/-! PinEngines.levelAt(II)I -/
def fX12_levelAt (n0 : Nat) (p1 : Int32) (p2 : Int32) (μ : Mem) : Option (RX Int32) :=
  jn (fun (μ1 : Mem) =>
    some (.inl 1, μ1)
  ) fun j14 =>
  bndX (fX12_checkPin p1 μ) fun _ μ2 =>
  if p2 < 0 then (
    j14 μ2
  ) else (
    if p2 < (64 : Int32) then (
      jn (fun (μ5 : Mem) (x6 : Int32) =>
        some (.inr x6, μ5)
      ) fun j54 =>
      nm ((((μ2.1 12 0 0) - (1 : Int32)) - p2)) fun x7 =>
      if 0 ≤ x7 then (
        bnd (fX3_levelsAfter 0 x7 μ2) fun x10 μ9 =>
        j54 μ9 ((x10 >>> (p1 &&& 31)) &&& (1 : Int32))
      ) else (
        j54 μ2 (-1 : Int32)
      )
    ) else (
      j14 μ2
    )
  )
set_option maxHeartbeats 4000000 in
set_option maxRecDepth 100000 in
theorem kX12_levelAt (l : Launch) (hls : l.stackTraces = false) (n0 : Nat) (g0 : n0 < 1) (p1 : Int32) (p2 : Int32) : KonX 0 l yX12_levelAt cX12_levelAt 4 (some .int) 7 109 2 12 (fun ad => [.ref (ad 0 n0), .int p1, .int p2]) rvI (fun μ => fX12_levelAt n0 p1 p2 μ) := by
  refine konX_of (by decide) (fun _ => Nat.le_of_ble_eq_true rfl) (fun X r0 μ hXl hXn V C E => ?_)
  have hN : ∀ i : Nat, i < 4 → i < xn X := fun i h => hXn.symm ▸ h
  have R0 := fex_rm E
  have hT : (xl X).stackTraces = false := hXl.symm ▸ hls
  show G X r0 0 0 μ 0 [(0, .ref (xa X 0 n0)), (1, .int p1), (2, .int p2)] [] (fX12_levelAt n0 p1 p2 μ)
  unfold fX12_levelAt
  refine g_jn (P := fun j14 => ∀ (μ1 : Mem), G X r0 1 6 μ1 14 [] [] (j14 μ1)) ?_ (fun j14 hj14 => ?_)
  · intro μ1
    exact s_throw (k := 1) (names := ["java/lang/RuntimeException", "java/lang/Exception"]) hT C E (by decide +kernel) (by decide +kernel) q1220 q181 th12n tg12n dX12_levelAt_14 dX12_levelAt_17 dX12_levelAt_18 dX12_levelAt_21 ⟨by decide, by decide, by decide, by decide⟩
  refine s_iload_n C dX12_levelAt_0 rfl 1 rfl ?_
  refine s_callSX C E (kX12_checkPin (xl X) hT p1) (Nat.le_trans (by decide) V) mmX12_checkPin q1218 q1217 rfl rfl rfl (Nat.le_of_ble_eq_true rfl) ⟨Nat.le_of_ble_eq_true rfl, Nat.le_of_ble_eq_true rfl, Nat.le_of_ble_eq_true rfl, Nat.le_of_ble_eq_true rfl⟩ dX12_levelAt_1 (fun _ μ2 => ?_)
  refine g_st (st' := []) rfl ?_
  refine s_iload_n C dX12_levelAt_4 rfl 2 rfl ?_
  refine s_if_lt (tgt := 14) C dX12_levelAt_5 (by decide) (fun c3 => ?_) (fun c3 => ?_)
  ·
    exact g_wid (ca1 := 1) (sl1 := 6) (by decide) (by decide) <| g_sub [] rfl (hj14 μ2)
  ·
    refine s_iload_n C dX12_levelAt_8 rfl 2 rfl ?_
    refine s_bipush (v := (64 : Int32)) C dX12_levelAt_9 (by decide) ?_
    refine s_icmp_lt (tgt := 22) C dX12_levelAt_11 (by decide) (fun c4 => ?_) (fun c4 => ?_)
    ·
      refine g_jn (P := fun j54 => ∀ (μ5 : Mem) (x6 : Int32), G X r0 1 6 μ5 54 [] [.int x6] (j54 μ5 x6)) ?_ (fun j54 hj54 => ?_)
      · intro μ5 x6
        exact s_iretX C E ⟨by decide, by decide⟩ dX12_levelAt_54
      refine s_aload_n C dX12_levelAt_22 rfl 0 rfl ?_
      refine s_getF C (fgX12_51_0 _) g0 dX12_levelAt_23 ?_
      refine s_getI C (fgX12_131_12 _) (by decide) dX12_levelAt_26 ?_
      refine s_iconst (v := (1 : Int32)) C dX12_levelAt_29 (by decide) ?_
      refine s_isub C dX12_levelAt_30 ?_
      refine s_iload_n C dX12_levelAt_31 rfl 2 rfl ?_
      refine s_isub C dX12_levelAt_32 ?_
      refine g_nmI (fun x7 => ?_)
      refine s_istore_n (L' := [(3, .int x7), (0, .ref (xa X 0 n0)), (1, .int p1), (2, .int p2)]) C dX12_levelAt_33 rfl (hN 3 (by decide)) rfl ?_
      refine s_iload_n C dX12_levelAt_34 rfl 0 rfl ?_
      refine s_if_ge (tgt := 42) C dX12_levelAt_35 (by decide) (fun c8 => ?_) (fun c8 => ?_)
      ·
        refine s_aload_n C dX12_levelAt_42 rfl 1 rfl ?_
        refine s_getF C (fgX12_51_0 _) g0 dX12_levelAt_43 ?_
        refine s_iload_n C dX12_levelAt_46 rfl 0 rfl ?_
        refine s_callV C R0 (kX3_levelsAfter (xl X) 0 (by decide) x7) (Nat.le_trans (by decide) V) mmX3_levelsAfter miX3_levelsAfter q1362 (rc12 _) (by decide) rfl rfl rfl (Nat.le_of_ble_eq_true rfl) ⟨Nat.le_of_ble_eq_true rfl, Nat.le_of_ble_eq_true rfl, Nat.le_of_ble_eq_true rfl, Nat.le_of_ble_eq_true rfl⟩ dX12_levelAt_47 (fun x10 μ9 => ?_)
        refine g_st (st' := [.int x10]) rfl ?_
        refine s_iload_n C dX12_levelAt_50 rfl 2 rfl ?_
        refine s_ishr C dX12_levelAt_51 ?_
        refine s_iconst (v := (1 : Int32)) C dX12_levelAt_52 (by decide) ?_
        refine s_iand C dX12_levelAt_53 ?_
        exact g_wid (ca1 := 1) (sl1 := 6) (by decide) (by decide) <| g_sub [] rfl (hj54 μ9 ((x10 >>> (p1 &&& 31)) &&& (1 : Int32)))
      ·
        refine s_iconst (v := (-1 : Int32)) C dX12_levelAt_38 (by decide) ?_
        refine s_goto (tgt := 54) C dX12_levelAt_39 (by decide) ?_
        exact g_wid (ca1 := 1) (sl1 := 6) (by decide) (by decide) <| g_sub [] rfl (hj54 μ2 (-1 : Int32))
    ·
      exact g_wid (ca1 := 1) (sl1 := 6) (by decide) (by decide) <| g_sub [] rfl (hj14 μ2)
/-! PinEngines.edges(I)I -/
def fX12_edges (n0 : Nat) (p1 : Int32) (μ : Mem) : Option (RX Int32) :=
  bndX (fX12_checkPin p1 μ) fun _ μ1 =>
  ckI p1 (16) <|
  some (.inr (μ1.1 17 (2 * 0) p1.toNatClampNeg), μ1)
set_option maxHeartbeats 4000000 in
set_option maxRecDepth 100000 in
theorem kX12_edges (l : Launch) (hls : l.stackTraces = false) (n0 : Nat) (g0 : n0 < 1) (p1 : Int32) : KonX 0 l yX12_edges cX12_edges 2 (some .int) 7 109 1 6 (fun ad => [.ref (ad 0 n0), .int p1]) rvI (fun μ => fX12_edges n0 p1 μ) := by
  refine konX_of (by decide) (fun _ => Nat.le_of_ble_eq_true rfl) (fun X r0 μ hXl hXn V C E => ?_)
  have hN : ∀ i : Nat, i < 2 → i < xn X := fun i h => hXn.symm ▸ h
  have R0 := fex_rm E
  have hT : (xl X).stackTraces = false := hXl.symm ▸ hls
  show G X r0 0 0 μ 0 [(0, .ref (xa X 0 n0)), (1, .int p1)] [] (fX12_edges n0 p1 μ)
  unfold fX12_edges
  refine s_iload_n C dX12_edges_0 rfl 1 rfl ?_
  refine s_callSX C E (kX12_checkPin (xl X) hT p1) (Nat.le_trans (by decide) V) mmX12_checkPin q1218 q1217 rfl rfl rfl (Nat.le_of_ble_eq_true rfl) ⟨Nat.le_of_ble_eq_true rfl, Nat.le_of_ble_eq_true rfl, Nat.le_of_ble_eq_true rfl, Nat.le_of_ble_eq_true rfl⟩ dX12_edges_1 (fun _ μ1 => ?_)
  refine g_st (st' := []) rfl ?_
  refine s_aload_n C dX12_edges_4 rfl 0 rfl ?_
  refine s_getF C (fgX12_51_0 _) g0 dX12_edges_5 ?_
  refine s_getF C (fgX12_223_12 _) (by decide) dX12_edges_8 ?_
  have b2 : 2 * 0 < 26 := by omega
  refine s_iload_n C dX12_edges_11 rfl 1 rfl ?_
  refine s_iald C (ag17 _) b2 dX12_edges_12 ?_
  exact s_iretX C E ⟨by decide, by decide⟩ dX12_edges_13
/-! PinEngines.highTime(I)I -/
def fX12_highTime (n0 : Nat) (p1 : Int32) (μ : Mem) : Option (RX Int32) :=
  bndX (fX12_checkPin p1 μ) fun _ μ1 =>
  bnd (fX3_highCycles 0 p1 μ1) fun x3 μ2 =>
  some (.inr x3, μ2)
set_option maxHeartbeats 4000000 in
set_option maxRecDepth 100000 in
theorem kX12_highTime (l : Launch) (hls : l.stackTraces = false) (n0 : Nat) (g0 : n0 < 1) (p1 : Int32) : KonX 0 l yX12_highTime cX12_highTime 2 (some .int) 7 109 1 6 (fun ad => [.ref (ad 0 n0), .int p1]) rvI (fun μ => fX12_highTime n0 p1 μ) := by
  refine konX_of (by decide) (fun _ => Nat.le_of_ble_eq_true rfl) (fun X r0 μ hXl hXn V C E => ?_)
  have hN : ∀ i : Nat, i < 2 → i < xn X := fun i h => hXn.symm ▸ h
  have R0 := fex_rm E
  have hT : (xl X).stackTraces = false := hXl.symm ▸ hls
  show G X r0 0 0 μ 0 [(0, .ref (xa X 0 n0)), (1, .int p1)] [] (fX12_highTime n0 p1 μ)
  unfold fX12_highTime
  refine s_iload_n C dX12_highTime_0 rfl 1 rfl ?_
  refine s_callSX C E (kX12_checkPin (xl X) hT p1) (Nat.le_trans (by decide) V) mmX12_checkPin q1218 q1217 rfl rfl rfl (Nat.le_of_ble_eq_true rfl) ⟨Nat.le_of_ble_eq_true rfl, Nat.le_of_ble_eq_true rfl, Nat.le_of_ble_eq_true rfl, Nat.le_of_ble_eq_true rfl⟩ dX12_highTime_1 (fun _ μ1 => ?_)
  refine g_st (st' := []) rfl ?_
  refine s_aload_n C dX12_highTime_4 rfl 0 rfl ?_
  refine s_getF C (fgX12_51_0 _) g0 dX12_highTime_5 ?_
  refine s_iload_n C dX12_highTime_8 rfl 1 rfl ?_
  refine s_callV C R0 (kX3_highCycles (xl X) 0 (by decide) p1) (Nat.le_trans (by decide) V) mmX3_highCycles miX3_highCycles q1380 (rc12 _) (by decide) rfl rfl rfl (Nat.le_of_ble_eq_true rfl) ⟨Nat.le_of_ble_eq_true rfl, Nat.le_of_ble_eq_true rfl, Nat.le_of_ble_eq_true rfl, Nat.le_of_ble_eq_true rfl⟩ dX12_highTime_9 (fun x3 μ2 => ?_)
  refine g_st (st' := [.int x3]) rfl ?_
  exact s_iretX C E ⟨by decide, by decide⟩ dX12_highTime_12
