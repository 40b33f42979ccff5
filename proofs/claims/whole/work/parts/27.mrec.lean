/-! PinEngines.query(I)I -/
def fX12_query (fu : Nat) (n0 : Nat) (p1 : Int32) (μ : Mem) : Option (RX Int32) :=
  jn (fun (μ1 : Mem) =>
    some (.inl 2, μ1)
  ) fun j19 =>
  if p1 < 0 then (
    j19 μ
  ) else (
    if (200 : Int32) < p1 then (
      j19 μ
    ) else (
      if p1 ≤ (μ.1 0 n0 1) then (
        nm (wI μ 0 n0 1 (0 : Int32)) fun μ5 =>
        bnd (fX11_scan fu 0 p1 μ5) fun _ μ6 =>
        bnd (fX11_takeRole 0 (8192 : Int32) μ6) fun a8 μ7 =>
        ckB a8 74 <|
        bnd (fgX6 fu 30 0 0 (0 : Int32) μ7) fun x11 μ10 =>
        nm (μ10.2.1 0 n0 4) fun a12 =>
        ckB a12 2 <|
        bnd (fX4_engineMask fu a12 μ10) fun x15 μ14 =>
        nm ((x11 &&& x15)) fun x16 =>
        bnd (fX11_expectEnd 0 μ14) fun _ μ17 =>
        nm (wI μ17 0 n0 2 (μ17.1 2 0 8)) fun μ18 =>
        if (μ18.1 2 0 7) = 0 then (
          jn (fun (μ20 : Mem) (x21 : Int32) =>
            some (.inr x21, μ20)
          ) fun j126 =>
          if ¬ a8 = 65 then (
            bnd (fX12_firstEngine fu x16 μ18) fun x24 μ23 =>
            j126 μ23 x24
          ) else (
            bnd (fJ6_bitCount_0f7a4 x16 μ18) fun x26 μ25 =>
            j126 μ25 x26
          )
        ) else (
          some (.inr ((-1000000000 : Int32) - (μ18.1 2 0 7)), μ18)
        )
      ) else (
        j19 μ
      )
    )
  )
set_option maxHeartbeats 4000000 in
set_option maxRecDepth 100000 in
theorem kX12_query (l : Launch) (hls : l.stackTraces = false) (fu : Nat) (n0 : Nat) (g0 : n0 < 1) (p1 : Int32) : KonX 0 l yX12_query cX12_query 4 (some .int) 35 807 1 6 (fun ad => [.ref (ad 0 n0), .int p1]) rvI (fun μ => fX12_query fu n0 p1 μ) := by
  refine konX_of (by decide) (fun _ => Nat.le_of_ble_eq_true rfl) (fun X r0 μ hXl hXn V C E => ?_)
  have hN : ∀ i : Nat, i < 4 → i < xn X := fun i h => hXn.symm ▸ h
  have R0 := fex_rm E
  have hT : (xl X).stackTraces = false := hXl.symm ▸ hls
  show G X r0 0 0 μ 0 [(0, .ref (xa X 0 n0)), (1, .int p1)] [] (fX12_query fu n0 p1 μ)
  unfold fX12_query
  refine g_jn (P := fun j19 => ∀ (μ1 : Mem), G X r0 0 0 μ1 19 [] [] (j19 μ1)) ?_ (fun j19 hj19 => ?_)
  · intro μ1
    exact s_throw (k := 2) (names := ["java/lang/RuntimeException", "java/lang/Exception"]) hT C E (by decide +kernel) (by decide +kernel) q903 q177 th12i tg12i dX12_query_19 dX12_query_22 dX12_query_23 dX12_query_26 ⟨by decide, by decide, by decide, by decide⟩
  refine s_iload_n C dX12_query_0 rfl 1 rfl ?_
  refine s_if_lt (tgt := 19) C dX12_query_1 (by decide) (fun c2 => ?_) (fun c2 => ?_)
  ·
    exact g_wid (ca1 := 0) (sl1 := 0) (by decide) (by decide) <| g_sub [] rfl (hj19 μ)
  ·
    refine s_iload_n C dX12_query_4 rfl 1 rfl ?_
    refine s_sipush (v := (200 : Int32)) C dX12_query_5 (by decide) ?_
    refine s_icmp_gt (tgt := 19) C dX12_query_8 (by decide) (fun c3 => ?_) (fun c3 => ?_)
    ·
      exact g_wid (ca1 := 0) (sl1 := 0) (by decide) (by decide) <| g_sub [] rfl (hj19 μ)
    ·
      refine s_iload_n C dX12_query_11 rfl 1 rfl ?_
      refine s_aload_n C dX12_query_12 rfl 0 rfl ?_
      refine s_getI C (fgX12_13_0 _) g0 dX12_query_13 ?_
      refine s_icmp_le (tgt := 27) C dX12_query_16 (by decide) (fun c4 => ?_) (fun c4 => ?_)
      ·
        refine s_aload_n C dX12_query_27 rfl 0 rfl ?_
        refine s_iconst (v := (0 : Int32)) C dX12_query_28 (by decide) ?_
        refine s_putI C (fpX12_13_0 _) g0 dX12_query_29 ?_
        refine g_nmM (fun μ5 => ?_)
        refine s_aload_n C dX12_query_32 rfl 0 rfl ?_
        refine s_getF C (fgX12_25_0 _) g0 dX12_query_33 ?_
        refine s_iload_n C dX12_query_36 rfl 1 rfl ?_
        refine s_callV C R0 (kX11_scan (xl X) fu 0 (by decide) p1) (Nat.le_trans (by decide) V) mmX11_scan miX11_scan q966 (rc2 _) (by decide) rfl rfl rfl (Nat.le_of_ble_eq_true rfl) ⟨Nat.le_of_ble_eq_true rfl, Nat.le_of_ble_eq_true rfl, Nat.le_of_ble_eq_true rfl, Nat.le_of_ble_eq_true rfl⟩ dX12_query_37 (fun _ μ6 => ?_)
        refine g_st (st' := []) rfl ?_
        refine s_aload_n C dX12_query_40 rfl 0 rfl ?_
        refine s_getF C (fgX12_25_0 _) g0 dX12_query_41 ?_
        refine s_sipush (v := (8192 : Int32)) C dX12_query_44 (by decide) ?_
        refine s_callV C R0 (kX11_takeRole (xl X) 0 (by decide) (8192 : Int32)) (Nat.le_trans (by decide) V) mmX11_takeRole miX11_takeRole q1945 (rc2 _) (by decide) rfl rfl rfl (Nat.le_of_ble_eq_true rfl) ⟨Nat.le_of_ble_eq_true rfl, Nat.le_of_ble_eq_true rfl, Nat.le_of_ble_eq_true rfl, Nat.le_of_ble_eq_true rfl⟩ dX12_query_47 (fun a8 μ7 => ?_)
        refine g_st (st' := [.ref (xa X 50 a8)]) rfl ?_
        refine g_ckB (fun b9 => ?_)
        refine s_astore_n (L' := [(2, .ref (xa X 50 a8)), (0, .ref (xa X 0 n0)), (1, .int p1)]) C dX12_query_50 rfl (hN 2 (by decide)) rfl ?_
        refine s_aload_n C dX12_query_51 rfl 1 rfl ?_
        refine s_getF C (fgX12_72_0 _) g0 dX12_query_52 ?_
        refine s_iconst (v := (0 : Int32)) C dX12_query_55 (by decide) ?_
        refine s_callVN (host := "PinEngines") C R0 ((kgX6 fu 30 (xl X)).1 0 (by decide) (0 : Int32)) (Nat.le_trans (by decide) V) mmX6_readTest miX6_readTest qn1946 (rc23 _) (by decide) rfl rfl rfl (Nat.le_of_ble_eq_true rfl) ⟨Nat.le_of_ble_eq_true rfl, Nat.le_of_ble_eq_true rfl, Nat.le_of_ble_eq_true rfl, Nat.le_of_ble_eq_true rfl⟩ dX12_query_56 (fun x11 μ10 => ?_)
        refine g_st (st' := [.int x11]) rfl ?_
        refine s_aload_n C dX12_query_59 rfl 1 rfl ?_
        refine s_getM C (fgX12_32_0 _) g0 dX12_query_60 ?_
        refine g_nmA (fun a12 => ?_)
        refine g_ckB (fun b13 => ?_)
        refine s_callV C R0 (kX4_engineMask (xl X) fu a12 b13) (Nat.le_trans (by decide) V) mmX4_engineMask miX4_engineMask q811 (rc5 _) b13 rfl rfl rfl (Nat.le_of_ble_eq_true rfl) ⟨Nat.le_of_ble_eq_true rfl, Nat.le_of_ble_eq_true rfl, Nat.le_of_ble_eq_true rfl, Nat.le_of_ble_eq_true rfl⟩ dX12_query_63 (fun x15 μ14 => ?_)
        refine g_st (st' := [.int x15, .int x11]) rfl ?_
        refine s_iand C dX12_query_66 ?_
        refine g_nmI (fun x16 => ?_)
        refine s_istore_n (L' := [(3, .int x16), (2, .ref (xa X 50 a8)), (0, .ref (xa X 0 n0)), (1, .int p1)]) C dX12_query_67 rfl (hN 3 (by decide)) rfl ?_
        refine s_aload_n C dX12_query_68 rfl 2 rfl ?_
        refine s_getF C (fgX12_25_0 _) g0 dX12_query_69 ?_
        refine s_callV C R0 (kX11_expectEnd (xl X) 0 (by decide)) (Nat.le_trans (by decide) V) mmX11_expectEnd miX11_expectEnd q1999 (rc2 _) (by decide) rfl rfl rfl (Nat.le_of_ble_eq_true rfl) ⟨Nat.le_of_ble_eq_true rfl, Nat.le_of_ble_eq_true rfl, Nat.le_of_ble_eq_true rfl, Nat.le_of_ble_eq_true rfl⟩ dX12_query_72 (fun _ μ17 => ?_)
        refine g_st (st' := []) rfl ?_
        refine s_aload_n C dX12_query_75 rfl 2 rfl ?_
        refine s_aload_n C dX12_query_76 rfl 2 rfl ?_
        refine s_getF C (fgX12_25_0 _) g0 dX12_query_77 ?_
        refine s_getI C (fgX12_117_2 _) (by decide) dX12_query_80 ?_
        refine s_putI C (fpX12_17_0 _) g0 dX12_query_83 ?_
        refine g_nmM (fun μ18 => ?_)
        refine s_aload_n C dX12_query_86 rfl 2 rfl ?_
        refine s_getF C (fgX12_25_0 _) g0 dX12_query_87 ?_
        refine s_getI C (fgX12_120_2 _) (by decide) dX12_query_90 ?_
        refine s_if_eq (tgt := 108) C dX12_query_93 (by decide) (fun c19 => ?_) (fun c19 => ?_)
        ·
          refine g_jn (P := fun j126 => ∀ (μ20 : Mem) (x21 : Int32), G X r0 0 0 μ20 126 [] [.int x21] (j126 μ20 x21)) ?_ (fun j126 hj126 => ?_)
          · intro μ20 x21
            exact s_iretX C E ⟨by decide, by decide⟩ dX12_query_126
          refine s_aload_n C dX12_query_108 rfl 1 rfl ?_
          refine s_gsym (i := 65) C (by decide) rfl q2004 dX12_query_109 ?_
          refine s_acmp_ne (tgt := 122) C b9 (by decide) dX12_query_112 (by decide) (fun c22 => ?_) (fun c22 => ?_)
          ·
            refine s_iload_n C dX12_query_122 rfl 0 rfl ?_
            refine s_callS C R0 (kX12_firstEngine (xl X) fu x16) (Nat.le_trans (by decide) V) mmX12_firstEngine q2010 q2009 rfl rfl rfl rfl (Nat.le_of_ble_eq_true rfl) ⟨Nat.le_of_ble_eq_true rfl, Nat.le_of_ble_eq_true rfl, Nat.le_of_ble_eq_true rfl, Nat.le_of_ble_eq_true rfl⟩ dX12_query_123 (fun x24 μ23 => ?_)
            refine g_st (st' := [.int x24]) rfl ?_
            exact g_wid (ca1 := 0) (sl1 := 0) (by decide) (by decide) <| g_sub [] rfl (hj126 μ23 x24)
          ·
            refine s_iload_n C dX12_query_115 rfl 0 rfl ?_
            refine s_callF C R0 (kJ6_bitCount_0f7a4 (xl X) x16) (Nat.le_trans (by decide) V) mmJ6_bitCount_0f7a4 q2007 q2006 rfl rfl rfl (Nat.le_of_ble_eq_true rfl) ⟨Nat.le_of_ble_eq_true rfl, Nat.le_of_ble_eq_true rfl, Nat.le_of_ble_eq_true rfl, Nat.le_of_ble_eq_true rfl⟩ dX12_query_116 (fun x26 μ25 => ?_)
            refine g_st (st' := [.int x26]) rfl ?_
            refine s_goto (tgt := 126) C dX12_query_119 (by decide) ?_
            exact g_wid (ca1 := 0) (sl1 := 0) (by decide) (by decide) <| g_sub [] rfl (hj126 μ25 x26)
        ·
          refine s_ldcw (v := (-1000000000 : Int32)) C q2003 dX12_query_96 ?_
          refine s_aload_n C dX12_query_99 rfl 2 rfl ?_
          refine s_getF C (fgX12_25_0 _) g0 dX12_query_100 ?_
          refine s_getI C (fgX12_120_2 _) (by decide) dX12_query_103 ?_
          refine s_isub C dX12_query_106 ?_
          exact s_iretX C E ⟨by decide, by decide⟩ dX12_query_107
      ·
        exact g_wid (ca1 := 0) (sl1 := 0) (by decide) (by decide) <| g_sub [] rfl (hj19 μ)
/-! PinEnginesModel.writeNumber(I)V -/
def fX13_writeNumber (fu : Nat) (n0 : Nat) (p1 : Int32) (μ : Mem) : Option (Unit × Mem) :=
  bnd (fX13_write_ fu n0 13 μ) fun _ μ1 =>
  bnd (fgX13d 12 0 n0 p1 μ1) fun _ μ2 =>
  some ((), μ2)
set_option maxHeartbeats 4000000 in
set_option maxRecDepth 100000 in
theorem kX13_writeNumber (l : Launch) (fu : Nat) (n0 : Nat) (g0 : n0 < 1) (p1 : Int32) : Kon 1 l yX13_writeNumber cX13_writeNumber 2 (none) 13 273 0 0 (fun ad => [.ref (ad 26 n0), .int p1]) rvV (fun μ => fX13_writeNumber fu n0 p1 μ) := by
  refine kon_of (by decide) (fun _ => Nat.le_of_ble_eq_true rfl) (fun X r0 μ hXl hXn V C E => ?_)
  have hN : ∀ i : Nat, i < 2 → i < xn X := fun i h => hXn.symm ▸ h
  have R0 := fen_rm E
  show G X r0 0 0 μ 0 [(0, .ref (xa X 26 n0)), (1, .int p1)] [] (fX13_writeNumber fu n0 p1 μ)
  unfold fX13_writeNumber
  refine s_aload_n C dX13_writeNumber_0 rfl 0 rfl ?_
  refine s_ldcs (i := 13) C (List.mem_of_getElem? (i := 13) rfl) dX13_writeNumber_1 ?_
  refine s_callV C R0 (kX13_write_ (xl X) fu n0 g0 13 (by decide)) (Nat.le_trans (by decide) V) mmX13_write_ miX13_write_ q2812 (rc26 (Nat.le_trans (by decide) V)) g0 rfl rfl rfl (Nat.le_of_ble_eq_true rfl) ⟨Nat.le_of_ble_eq_true rfl, Nat.le_of_ble_eq_true rfl, Nat.le_of_ble_eq_true rfl, Nat.le_of_ble_eq_true rfl⟩ dX13_writeNumber_3 (fun _ μ1 => ?_)
  refine g_st (st' := []) rfl ?_
  refine s_aload_n C dX13_writeNumber_6 rfl 0 rfl ?_
  refine s_iload_n C dX13_writeNumber_7 rfl 1 rfl ?_
  refine s_callV C R0 ((kgX13d 12 (xl X)) n0 g0 p1) (Nat.le_trans (by decide) V) mmX13_digits miX13_digits q2828 (rc26 (Nat.le_trans (by decide) V)) g0 rfl rfl rfl (Nat.le_of_ble_eq_true rfl) ⟨Nat.le_of_ble_eq_true rfl, Nat.le_of_ble_eq_true rfl, Nat.le_of_ble_eq_true rfl, Nat.le_of_ble_eq_true rfl⟩ dX13_writeNumber_8 (fun _ μ2 => ?_)
  refine g_st (st' := []) rfl ?_
  exact s_vret C E dX13_writeNumber_11
/-! PinEnginesModel.writeAccess(I)V -/
def fX13_writeAccess (fu : Nat) (n0 : Nat) (p1 : Int32) (μ : Mem) : Option (Unit × Mem) :=
  jn (fun (μ1 : Mem) =>
    some ((), μ1)
  ) fun j53 =>
  bnd (fX13_code n0 p1 (1 : Int32) μ) fun x3 μ2 =>
  ckI x3 (stl.getD 2 0) <|
  bnd (fX13_write_ fu n0 (strAt 2 x3.toNatClampNeg) μ2) fun _ μ5 =>
  bnd (fX13_code n0 p1 (2 : Int32) μ5) fun x7 μ6 =>
  if (16 : Int32) ≤ x7 then (
    jn (fun (μ9 : Mem) (a10 : Nat) (a12 : Nat) =>
      bnd (fX13_write_ fu a10 a12 μ9) fun _ μ14 =>
      j53 μ14
    ) fun j50 =>
    if ¬ x7 = (16 : Int32) then (
      j50 μ6 n0 23
    ) else (
      j50 μ6 n0 22
    )
  ) else (
    bnd (fX13_writeNumber fu n0 x7 μ6) fun _ μ16 =>
    j53 μ16
  )
set_option maxHeartbeats 4000000 in
set_option maxRecDepth 100000 in
theorem kX13_writeAccess (l : Launch) (fu : Nat) (n0 : Nat) (g0 : n0 < 1) (p1 : Int32) : Kon 1 l yX13_writeAccess cX13_writeAccess 3 (none) 14 294 0 0 (fun ad => [.ref (ad 26 n0), .int p1]) rvV (fun μ => fX13_writeAccess fu n0 p1 μ) := by
  refine kon_of (by decide) (fun _ => Nat.le_of_ble_eq_true rfl) (fun X r0 μ hXl hXn V C E => ?_)
  have hN : ∀ i : Nat, i < 3 → i < xn X := fun i h => hXn.symm ▸ h
  have R0 := fen_rm E
  show G X r0 0 0 μ 0 [(0, .ref (xa X 26 n0)), (1, .int p1)] [] (fX13_writeAccess fu n0 p1 μ)
  unfold fX13_writeAccess
  refine g_jn (P := fun j53 => ∀ (μ1 : Mem), G X r0 0 0 μ1 53 [] [] (j53 μ1)) ?_ (fun j53 hj53 => ?_)
  · intro μ1
    exact s_vret C E dX13_writeAccess_53
  refine s_aload_n C dX13_writeAccess_0 rfl 0 rfl ?_
  refine s_aload_n C dX13_writeAccess_1 rfl 0 rfl ?_
  refine s_getF C (fgX13_126_26 (Nat.le_trans (by decide) V)) g0 dX13_writeAccess_2 ?_
  refine s_aload_n C dX13_writeAccess_5 rfl 0 rfl ?_
  refine s_iload_n C dX13_writeAccess_6 rfl 1 rfl ?_
  refine s_iconst (v := (1 : Int32)) C dX13_writeAccess_7 (by decide) ?_
  refine s_callV C R0 (kX13_code (xl X) n0 g0 p1 (1 : Int32)) (Nat.le_trans (by decide) V) mmX13_code miX13_code q2465 (rc26 (Nat.le_trans (by decide) V)) g0 rfl rfl rfl (Nat.le_of_ble_eq_true rfl) ⟨Nat.le_of_ble_eq_true rfl, Nat.le_of_ble_eq_true rfl, Nat.le_of_ble_eq_true rfl, Nat.le_of_ble_eq_true rfl⟩ dX13_writeAccess_8 (fun x3 μ2 => ?_)
  refine g_st (st' := [.int x3, .ref (xa X 30 2), .ref (xa X 26 n0)]) rfl ?_
  refine s_aaldF C (ag30 (Nat.le_trans (by decide) V)) (fun _ => rfl) (by decide) dX13_writeAccess_11 (fun c4 => ?_)
  refine s_callV C R0 (kX13_write_ (xl X) fu n0 g0 (strAt 2 x3.toNatClampNeg) (strAt_lt _ _)) (Nat.le_trans (by decide) V) mmX13_write_ miX13_write_ q2812 (rc26 (Nat.le_trans (by decide) V)) g0 rfl rfl rfl (Nat.le_of_ble_eq_true rfl) ⟨Nat.le_of_ble_eq_true rfl, Nat.le_of_ble_eq_true rfl, Nat.le_of_ble_eq_true rfl, Nat.le_of_ble_eq_true rfl⟩ dX13_writeAccess_12 (fun _ μ5 => ?_)
  refine g_st (st' := []) rfl ?_
  refine s_aload_n C dX13_writeAccess_15 rfl 0 rfl ?_
  refine s_iload_n C dX13_writeAccess_16 rfl 1 rfl ?_
  refine s_iconst (v := (2 : Int32)) C dX13_writeAccess_17 (by decide) ?_
  refine s_callV C R0 (kX13_code (xl X) n0 g0 p1 (2 : Int32)) (Nat.le_trans (by decide) V) mmX13_code miX13_code q2465 (rc26 (Nat.le_trans (by decide) V)) g0 rfl rfl rfl (Nat.le_of_ble_eq_true rfl) ⟨Nat.le_of_ble_eq_true rfl, Nat.le_of_ble_eq_true rfl, Nat.le_of_ble_eq_true rfl, Nat.le_of_ble_eq_true rfl⟩ dX13_writeAccess_18 (fun x7 μ6 => ?_)
  refine g_st (st' := [.int x7]) rfl ?_
  refine s_istore_n (L' := [(2, .int x7), (0, .ref (xa X 26 n0)), (1, .int p1)]) C dX13_writeAccess_21 rfl (hN 2 (by decide)) rfl ?_
  refine s_iload_n C dX13_writeAccess_22 rfl 0 rfl ?_
  refine s_bipush (v := (16 : Int32)) C dX13_writeAccess_23 (by decide) ?_
  refine s_icmp_ge (tgt := 36) C dX13_writeAccess_25 (by decide) (fun c8 => ?_) (fun c8 => ?_)
  ·
    refine g_jn (P := fun j50 => ∀ (μ9 : Mem) (a10 : Nat) (a12 : Nat), a10 < 1 → a12 < 70 → G X r0 0 0 μ9 50 [] [.ref (xa X 51 a12), .ref (xa X 26 a10)] (j50 μ9 a10 a12)) ?_ (fun j50 hj50 => ?_)
    · intro μ9 a10 a12 b11 b13
      refine s_callV C R0 (kX13_write_ (xl X) fu a10 b11 a12 b13) (Nat.le_trans (by decide) V) mmX13_write_ miX13_write_ q2812 (rc26 (Nat.le_trans (by decide) V)) b11 rfl rfl rfl (Nat.le_of_ble_eq_true rfl) ⟨Nat.le_of_ble_eq_true rfl, Nat.le_of_ble_eq_true rfl, Nat.le_of_ble_eq_true rfl, Nat.le_of_ble_eq_true rfl⟩ dX13_writeAccess_50 (fun _ μ14 => ?_)
      refine g_st (st' := []) rfl ?_
      exact g_sub [] rfl (hj53 μ14)
    refine s_aload_n C dX13_writeAccess_36 rfl 1 rfl ?_
    refine s_iload_n C dX13_writeAccess_37 rfl 0 rfl ?_
    refine s_bipush (v := (16 : Int32)) C dX13_writeAccess_38 (by decide) ?_
    refine s_icmp_ne (tgt := 48) C dX13_writeAccess_40 (by decide) (fun c15 => ?_) (fun c15 => ?_)
    ·
      refine s_ldcs (i := 23) C (List.mem_of_getElem? (i := 23) rfl) dX13_writeAccess_48 ?_
      exact g_sub [] rfl (hj50 μ6 n0 23 g0 (by decide))
    ·
      refine s_ldcs (i := 22) C (List.mem_of_getElem? (i := 22) rfl) dX13_writeAccess_43 ?_
      refine s_goto (tgt := 50) C dX13_writeAccess_45 (by decide) ?_
      exact g_sub [] rfl (hj50 μ6 n0 22 g0 (by decide))
  ·
    refine s_aload_n C dX13_writeAccess_28 rfl 1 rfl ?_
    refine s_iload_n C dX13_writeAccess_29 rfl 0 rfl ?_
    refine s_callV C R0 (kX13_writeNumber (xl X) fu n0 g0 x7) (Nat.le_trans (by decide) V) mmX13_writeNumber miX13_writeNumber q2824 (rc26 (Nat.le_trans (by decide) V)) g0 rfl rfl rfl (Nat.le_of_ble_eq_true rfl) ⟨Nat.le_of_ble_eq_true rfl, Nat.le_of_ble_eq_true rfl, Nat.le_of_ble_eq_true rfl, Nat.le_of_ble_eq_true rfl⟩ dX13_writeAccess_30 (fun _ μ16 => ?_)
    refine g_st (st' := []) rfl ?_
    refine s_goto (tgt := 53) C dX13_writeAccess_33 (by decide) ?_
    exact g_sub [] rfl (hj53 μ16)
/-! PinEnginesModel.writeOperands(II)V -/
def fX13_writeOperands (fu : Nat) (n0 : Nat) (p1 : Int32) (p2 : Int32) (μ : Mem) : Option (Unit × Mem) :=
  jn (fun (μ1 : Mem) =>
    some ((), μ1)
  ) fun j280 =>
  jn (fun (μ2 : Mem) (x3 : Int32) (x4 : Int32) =>
    ckI x3 (stl.getD 2 0) <|
    bnd (fX13_write_ fu n0 (strAt 2 x3.toNatClampNeg) μ2) fun _ μ6 =>
    bnd (fX13_writeNumber fu n0 x4 μ6) fun _ μ7 =>
    j280 μ7
  ) fun j248 =>
  jn (fun (μ8 : Mem) (x9 : Int32) (x10 : Int32) =>
    jn (fun (μ11 : Mem) (a12 : Nat) (x14 : Int32) =>
      jn (fun (μ15 : Mem) (a16 : Nat) (x18 : Int32) (a19 : Nat) =>
        jn (fun (μ21 : Mem) (a22 : Nat) (x24 : Int32) =>
          bnd (fX13_writeIf fu a22 x24 50 μ21) fun _ μ25 =>
          j280 μ25
        ) fun j185 =>
        bnd (fX13_writeIf fu a16 x18 a19 μ15) fun _ μ26 =>
        if ¬ x10 = (1 : Int32) then (
          j185 μ26 n0 (0 : Int32)
        ) else (
          j185 μ26 n0 (1 : Int32)
        )
      ) fun j170 =>
      if ¬ p2 = (4 : Int32) then (
        j170 μ11 a12 x14 51
      ) else (
        j170 μ11 a12 x14 49
      )
    ) fun j158 =>
    if ¬ x9 = (1 : Int32) then (
      j158 μ8 n0 (0 : Int32)
    ) else (
      j158 μ8 n0 (1 : Int32)
    )
  ) fun j147 =>
  jn (fun (μ30 : Mem) (x31 : Int32) =>
    bnd (fX13_writeNumber fu n0 x31 μ30) fun _ μ32 =>
    j280 μ32
  ) fun j275 =>
  jn (fun (μ33 : Mem) =>
    bnd (fX13_writeAccess fu n0 p1 μ33) fun _ μ34 =>
    j280 μ34
  ) fun j267 =>
  bnd (fX13_code n0 p1 (1 : Int32) μ) fun x36 μ35 =>
  bnd (fX13_code n0 p1 (2 : Int32) μ35) fun x38 μ37 =>
  if p2 = (0 : Int32) then (
    jn (fun (μ40 : Mem) (a41 : Nat) (x43 : Int32) =>
      ckI x36 (stl.getD 1 0) <|
      bnd (fX13_writeIf fu a41 x43 (strAt 1 x36.toNatClampNeg) μ40) fun _ μ45 =>
      bnd (fX13_writeNumber fu n0 x38 μ45) fun _ μ46 =>
      j280 μ46
    ) fun j94 =>
    if x36 ≤ 0 then (
      j94 μ37 n0 (0 : Int32)
    ) else (
      j94 μ37 n0 (1 : Int32)
    )
  ) else (
  if p2 = (1 : Int32) then (
    jn (fun (μ49 : Mem) (a50 : Nat) (a52 : Nat) =>
      bnd (fX13_write_ fu a50 a52 μ49) fun _ μ54 =>
      bnd (fX13_code n0 p1 (3 : Int32) μ54) fun x56 μ55 =>
      bnd (fX13_writeNumber fu n0 x56 μ55) fun _ μ57 =>
      j280 μ57
    ) fun j131 =>
    bnd (fX13_writeNumber fu n0 x36 μ37) fun _ μ58 =>
    if ¬ x38 = (1 : Int32) then (
      j131 μ58 n0 19
    ) else (
      j131 μ58 n0 48
    )
  ) else (
  if p2 = (2 : Int32) then (
    j248 μ37 x36 x38
  ) else (
  if p2 = (3 : Int32) then (
    j248 μ37 x36 x38
  ) else (
  if p2 = (4 : Int32) then (
    j147 μ37 x36 x38
  ) else (
  if p2 = (5 : Int32) then (
    j147 μ37 x36 x38
  ) else (
  if p2 = (6 : Int32) then (
    jn (fun (μ65 : Mem) (a66 : Nat) (x68 : Int32) =>
      jn (fun (μ69 : Mem) (a70 : Nat) (x72 : Int32) (a73 : Nat) =>
        bnd (fX13_writeIf fu a70 x72 a73 μ69) fun _ μ75 =>
        bnd (fX13_code n0 p1 (3 : Int32) μ75) fun x77 μ76 =>
        ckI x77 (stl.getD 2 0) <|
        bnd (fX13_write_ fu n0 (strAt 2 x77.toNatClampNeg) μ76) fun _ μ79 =>
        j280 μ79
      ) fun j227 =>
      if ¬ x38 = (1 : Int32) then (
        j227 μ65 a66 x68 53
      ) else (
        j227 μ65 a66 x68 52
      )
    ) fun j214 =>
    ckI x36 (stl.getD 2 0) <|
    bnd (fX13_write_ fu n0 (strAt 2 x36.toNatClampNeg) μ37) fun _ μ82 =>
    if x38 ≤ 0 then (
      j214 μ82 n0 (0 : Int32)
    ) else (
      j214 μ82 n0 (1 : Int32)
    )
  ) else (
  if p2 = (7 : Int32) then (
    j275 μ37 x36
  ) else (
  if p2 = (8 : Int32) then (
    j275 μ37 x36
  ) else (
  if p2 = (9 : Int32) then (
    j275 μ37 x36
  ) else (
  if p2 = (10 : Int32) then (
    j248 μ37 x36 x38
  ) else (
  if p2 = (11 : Int32) then (
    j267 μ37
  ) else (
  if p2 = (12 : Int32) then (
    j267 μ37
  ) else (
  j275 μ37 x36
  )))))))))))))
set_option maxHeartbeats 4000000 in
set_option maxRecDepth 100000 in
theorem kX13_writeOperands (l : Launch) (fu : Nat) (n0 : Nat) (g0 : n0 < 1) (p1 : Int32) (p2 : Int32) : Kon 1 l yX13_writeOperands cX13_writeOperands 5 (none) 15 316 0 0 (fun ad => [.ref (ad 26 n0), .int p1, .int p2]) rvV (fun μ => fX13_writeOperands fu n0 p1 p2 μ) := by
  refine kon_of (by decide) (fun _ => Nat.le_of_ble_eq_true rfl) (fun X r0 μ hXl hXn V C E => ?_)
  have hN : ∀ i : Nat, i < 5 → i < xn X := fun i h => hXn.symm ▸ h
  have R0 := fen_rm E
  show G X r0 0 0 μ 0 [(0, .ref (xa X 26 n0)), (1, .int p1), (2, .int p2)] [] (fX13_writeOperands fu n0 p1 p2 μ)
  unfold fX13_writeOperands
  refine g_jn (P := fun j280 => ∀ (μ1 : Mem), G X r0 0 0 μ1 280 [] [] (j280 μ1)) ?_ (fun j280 hj280 => ?_)
  · intro μ1
    exact s_vret C E dX13_writeOperands_280
  refine g_jn (P := fun j248 => ∀ (μ2 : Mem) (x3 : Int32) (x4 : Int32), G X r0 0 0 μ2 248 [(0, .ref (xa X 26 n0)), (3, .int x3), (4, .int x4)] [] (j248 μ2 x3 x4)) ?_ (fun j248 hj248 => ?_)
  · intro μ2 x3 x4
    refine s_aload_n C dX13_writeOperands_248 rfl 0 rfl ?_
    refine s_aload_n C dX13_writeOperands_249 rfl 0 rfl ?_
    refine s_getF C (fgX13_126_26 (Nat.le_trans (by decide) V)) g0 dX13_writeOperands_250 ?_
    refine s_iload_n C dX13_writeOperands_253 rfl 1 rfl ?_
    refine s_aaldF C (ag30 (Nat.le_trans (by decide) V)) (fun _ => rfl) (by decide) dX13_writeOperands_254 (fun c5 => ?_)
    refine s_callV C R0 (kX13_write_ (xl X) fu n0 g0 (strAt 2 x3.toNatClampNeg) (strAt_lt _ _)) (Nat.le_trans (by decide) V) mmX13_write_ miX13_write_ q2812 (rc26 (Nat.le_trans (by decide) V)) g0 rfl rfl rfl (Nat.le_of_ble_eq_true rfl) ⟨Nat.le_of_ble_eq_true rfl, Nat.le_of_ble_eq_true rfl, Nat.le_of_ble_eq_true rfl, Nat.le_of_ble_eq_true rfl⟩ dX13_writeOperands_255 (fun _ μ6 => ?_)
    refine g_st (st' := []) rfl ?_
    refine s_aload_n C dX13_writeOperands_258 rfl 0 rfl ?_
    refine s_iload C dX13_writeOperands_259 2 rfl ?_
    refine s_callV C R0 (kX13_writeNumber (xl X) fu n0 g0 x4) (Nat.le_trans (by decide) V) mmX13_writeNumber miX13_writeNumber q2824 (rc26 (Nat.le_trans (by decide) V)) g0 rfl rfl rfl (Nat.le_of_ble_eq_true rfl) ⟨Nat.le_of_ble_eq_true rfl, Nat.le_of_ble_eq_true rfl, Nat.le_of_ble_eq_true rfl, Nat.le_of_ble_eq_true rfl⟩ dX13_writeOperands_261 (fun _ μ7 => ?_)
    refine g_st (st' := []) rfl ?_
    refine s_goto (tgt := 280) C dX13_writeOperands_264 (by decide) ?_
    exact g_sub [] rfl (hj280 μ7)
  refine g_jn (P := fun j147 => ∀ (μ8 : Mem) (x9 : Int32) (x10 : Int32), G X r0 0 0 μ8 147 [(0, .ref (xa X 26 n0)), (2, .int p2), (3, .int x9), (4, .int x10)] [] (j147 μ8 x9 x10)) ?_ (fun j147 hj147 => ?_)
  · intro μ8 x9 x10
    refine g_jn (P := fun j158 => ∀ (μ11 : Mem) (a12 : Nat) (x14 : Int32), a12 < 1 → G X r0 0 0 μ11 158 [(0, .ref (xa X 26 n0)), (2, .int p2), (4, .int x10)] [.int x14, .ref (xa X 26 a12)] (j158 μ11 a12 x14)) ?_ (fun j158 hj158 => ?_)
    · intro μ11 a12 x14 b13
      refine g_jn (P := fun j170 => ∀ (μ15 : Mem) (a16 : Nat) (x18 : Int32) (a19 : Nat), a16 < 1 → a19 < 70 → G X r0 0 0 μ15 170 [(0, .ref (xa X 26 n0)), (4, .int x10)] [.ref (xa X 51 a19), .int x18, .ref (xa X 26 a16)] (j170 μ15 a16 x18 a19)) ?_ (fun j170 hj170 => ?_)
      · intro μ15 a16 x18 a19 b17 b20
        refine g_jn (P := fun j185 => ∀ (μ21 : Mem) (a22 : Nat) (x24 : Int32), a22 < 1 → G X r0 0 0 μ21 185 [] [.int x24, .ref (xa X 26 a22)] (j185 μ21 a22 x24)) ?_ (fun j185 hj185 => ?_)
        · intro μ21 a22 x24 b23
          refine s_ldcs (i := 50) C (List.mem_of_getElem? (i := 50) rfl) dX13_writeOperands_185 ?_
          refine s_callV C R0 (kX13_writeIf (xl X) fu a22 b23 x24 50 (by decide)) (Nat.le_trans (by decide) V) mmX13_writeIf miX13_writeIf q2820 (rc26 (Nat.le_trans (by decide) V)) b23 rfl rfl rfl (Nat.le_of_ble_eq_true rfl) ⟨Nat.le_of_ble_eq_true rfl, Nat.le_of_ble_eq_true rfl, Nat.le_of_ble_eq_true rfl, Nat.le_of_ble_eq_true rfl⟩ dX13_writeOperands_187 (fun _ μ25 => ?_)
          refine g_st (st' := []) rfl ?_
          refine s_goto (tgt := 280) C dX13_writeOperands_190 (by decide) ?_
          exact g_sub [] rfl (hj280 μ25)
        refine s_callV C R0 (kX13_writeIf (xl X) fu a16 b17 x18 a19 b20) (Nat.le_trans (by decide) V) mmX13_writeIf miX13_writeIf q2820 (rc26 (Nat.le_trans (by decide) V)) b17 rfl rfl rfl (Nat.le_of_ble_eq_true rfl) ⟨Nat.le_of_ble_eq_true rfl, Nat.le_of_ble_eq_true rfl, Nat.le_of_ble_eq_true rfl, Nat.le_of_ble_eq_true rfl⟩ dX13_writeOperands_170 (fun _ μ26 => ?_)
        refine g_st (st' := []) rfl ?_
        refine s_aload_n C dX13_writeOperands_173 rfl 0 rfl ?_
        refine s_iload C dX13_writeOperands_174 1 rfl ?_
        refine s_iconst (v := (1 : Int32)) C dX13_writeOperands_176 (by decide) ?_
        refine s_icmp_ne (tgt := 184) C dX13_writeOperands_177 (by decide) (fun c27 => ?_) (fun c27 => ?_)
        ·
          refine s_iconst (v := (0 : Int32)) C dX13_writeOperands_184 (by decide) ?_
          exact g_sub [] rfl (hj185 μ26 n0 (0 : Int32) g0)
        ·
          refine s_iconst (v := (1 : Int32)) C dX13_writeOperands_180 (by decide) ?_
          refine s_goto (tgt := 185) C dX13_writeOperands_181 (by decide) ?_
          exact g_sub [] rfl (hj185 μ26 n0 (1 : Int32) g0)
      refine s_iload_n C dX13_writeOperands_158 rfl 1 rfl ?_
      refine s_iconst (v := (4 : Int32)) C dX13_writeOperands_159 (by decide) ?_
      refine s_icmp_ne (tgt := 168) C dX13_writeOperands_160 (by decide) (fun c28 => ?_) (fun c28 => ?_)
      ·
        refine s_ldcs (i := 51) C (List.mem_of_getElem? (i := 51) rfl) dX13_writeOperands_168 ?_
        exact g_sub [0, 2] rfl (hj170 μ11 a12 x14 51 b13 (by decide))
      ·
        refine s_ldcs (i := 49) C (List.mem_of_getElem? (i := 49) rfl) dX13_writeOperands_163 ?_
        refine s_goto (tgt := 170) C dX13_writeOperands_165 (by decide) ?_
        exact g_sub [0, 2] rfl (hj170 μ11 a12 x14 49 b13 (by decide))
    refine s_aload_n C dX13_writeOperands_147 rfl 0 rfl ?_
    refine s_iload_n C dX13_writeOperands_148 rfl 2 rfl ?_
    refine s_iconst (v := (1 : Int32)) C dX13_writeOperands_149 (by decide) ?_
    refine s_icmp_ne (tgt := 157) C dX13_writeOperands_150 (by decide) (fun c29 => ?_) (fun c29 => ?_)
    ·
      refine s_iconst (v := (0 : Int32)) C dX13_writeOperands_157 (by decide) ?_
      exact g_sub [0, 1, 3] rfl (hj158 μ8 n0 (0 : Int32) g0)
    ·
      refine s_iconst (v := (1 : Int32)) C dX13_writeOperands_153 (by decide) ?_
      refine s_goto (tgt := 158) C dX13_writeOperands_154 (by decide) ?_
      exact g_sub [0, 1, 3] rfl (hj158 μ8 n0 (1 : Int32) g0)
  refine g_jn (P := fun j275 => ∀ (μ30 : Mem) (x31 : Int32), G X r0 0 0 μ30 275 [(0, .ref (xa X 26 n0)), (3, .int x31)] [] (j275 μ30 x31)) ?_ (fun j275 hj275 => ?_)
  · intro μ30 x31
    refine s_aload_n C dX13_writeOperands_275 rfl 0 rfl ?_
    refine s_iload_n C dX13_writeOperands_276 rfl 1 rfl ?_
    refine s_callV C R0 (kX13_writeNumber (xl X) fu n0 g0 x31) (Nat.le_trans (by decide) V) mmX13_writeNumber miX13_writeNumber q2824 (rc26 (Nat.le_trans (by decide) V)) g0 rfl rfl rfl (Nat.le_of_ble_eq_true rfl) ⟨Nat.le_of_ble_eq_true rfl, Nat.le_of_ble_eq_true rfl, Nat.le_of_ble_eq_true rfl, Nat.le_of_ble_eq_true rfl⟩ dX13_writeOperands_277 (fun _ μ32 => ?_)
    refine g_st (st' := []) rfl ?_
    exact g_sub [] rfl (hj280 μ32)
  refine g_jn (P := fun j267 => ∀ (μ33 : Mem), G X r0 0 0 μ33 267 [(0, .ref (xa X 26 n0)), (1, .int p1)] [] (j267 μ33)) ?_ (fun j267 hj267 => ?_)
  · intro μ33
    refine s_aload_n C dX13_writeOperands_267 rfl 0 rfl ?_
    refine s_iload_n C dX13_writeOperands_268 rfl 1 rfl ?_
    refine s_callV C R0 (kX13_writeAccess (xl X) fu n0 g0 p1) (Nat.le_trans (by decide) V) mmX13_writeAccess miX13_writeAccess q2832 (rc26 (Nat.le_trans (by decide) V)) g0 rfl rfl rfl (Nat.le_of_ble_eq_true rfl) ⟨Nat.le_of_ble_eq_true rfl, Nat.le_of_ble_eq_true rfl, Nat.le_of_ble_eq_true rfl, Nat.le_of_ble_eq_true rfl⟩ dX13_writeOperands_269 (fun _ μ34 => ?_)
    refine g_st (st' := []) rfl ?_
    refine s_goto (tgt := 280) C dX13_writeOperands_272 (by decide) ?_
    exact g_sub [] rfl (hj280 μ34)
  refine s_aload_n C dX13_writeOperands_0 rfl 0 rfl ?_
  refine s_iload_n C dX13_writeOperands_1 rfl 1 rfl ?_
  refine s_iconst (v := (1 : Int32)) C dX13_writeOperands_2 (by decide) ?_
  refine s_callV C R0 (kX13_code (xl X) n0 g0 p1 (1 : Int32)) (Nat.le_trans (by decide) V) mmX13_code miX13_code q2465 (rc26 (Nat.le_trans (by decide) V)) g0 rfl rfl rfl (Nat.le_of_ble_eq_true rfl) ⟨Nat.le_of_ble_eq_true rfl, Nat.le_of_ble_eq_true rfl, Nat.le_of_ble_eq_true rfl, Nat.le_of_ble_eq_true rfl⟩ dX13_writeOperands_3 (fun x36 μ35 => ?_)
  refine g_st (st' := [.int x36]) rfl ?_
  refine s_istore_n (L' := [(3, .int x36), (0, .ref (xa X 26 n0)), (1, .int p1), (2, .int p2)]) C dX13_writeOperands_6 rfl (hN 3 (by decide)) rfl ?_
  refine s_aload_n C dX13_writeOperands_7 rfl 1 rfl ?_
  refine s_iload_n C dX13_writeOperands_8 rfl 2 rfl ?_
  refine s_iconst (v := (2 : Int32)) C dX13_writeOperands_9 (by decide) ?_
  refine s_callV C R0 (kX13_code (xl X) n0 g0 p1 (2 : Int32)) (Nat.le_trans (by decide) V) mmX13_code miX13_code q2465 (rc26 (Nat.le_trans (by decide) V)) g0 rfl rfl rfl (Nat.le_of_ble_eq_true rfl) ⟨Nat.le_of_ble_eq_true rfl, Nat.le_of_ble_eq_true rfl, Nat.le_of_ble_eq_true rfl, Nat.le_of_ble_eq_true rfl⟩ dX13_writeOperands_10 (fun x38 μ37 => ?_)
  refine g_st (st' := [.int x38]) rfl ?_
  refine s_istore (L' := [(4, .int x38), (3, .int x36), (0, .ref (xa X 26 n0)), (1, .int p1), (2, .int p2)]) C dX13_writeOperands_13 (hN 4 (by decide)) rfl ?_
  refine s_iload_n C dX13_writeOperands_15 rfl 4 rfl ?_
  refine g_cases (v := (0 : Int32)) (fun c39 => ?_) (fun c39 => ?_)
  ·
    refine s_tin (tgt := 84) C dX13_writeOperands_16 c39 (by decide) (by decide) rfl (by decide) ?_
    refine g_jn (P := fun j94 => ∀ (μ40 : Mem) (a41 : Nat) (x43 : Int32), a41 < 1 → G X r0 0 0 μ40 94 [(0, .ref (xa X 26 n0)), (3, .int x36), (4, .int x38)] [.int x43, .ref (xa X 26 a41)] (j94 μ40 a41 x43)) ?_ (fun j94 hj94 => ?_)
    · intro μ40 a41 x43 b42
      refine s_aload_n C dX13_writeOperands_94 rfl 0 rfl ?_
      refine s_getF C (fgX13_105_26 (Nat.le_trans (by decide) V)) g0 dX13_writeOperands_95 ?_
      refine s_iload_n C dX13_writeOperands_98 rfl 1 rfl ?_
      refine s_aaldF C (ag30 (Nat.le_trans (by decide) V)) (fun _ => rfl) (by decide) dX13_writeOperands_99 (fun c44 => ?_)
      refine s_callV C R0 (kX13_writeIf (xl X) fu a41 b42 x43 (strAt 1 x36.toNatClampNeg) (strAt_lt _ _)) (Nat.le_trans (by decide) V) mmX13_writeIf miX13_writeIf q2820 (rc26 (Nat.le_trans (by decide) V)) b42 rfl rfl rfl (Nat.le_of_ble_eq_true rfl) ⟨Nat.le_of_ble_eq_true rfl, Nat.le_of_ble_eq_true rfl, Nat.le_of_ble_eq_true rfl, Nat.le_of_ble_eq_true rfl⟩ dX13_writeOperands_100 (fun _ μ45 => ?_)
      refine g_st (st' := []) rfl ?_
      refine s_aload_n C dX13_writeOperands_103 rfl 0 rfl ?_
      refine s_iload C dX13_writeOperands_104 2 rfl ?_
      refine s_callV C R0 (kX13_writeNumber (xl X) fu n0 g0 x38) (Nat.le_trans (by decide) V) mmX13_writeNumber miX13_writeNumber q2824 (rc26 (Nat.le_trans (by decide) V)) g0 rfl rfl rfl (Nat.le_of_ble_eq_true rfl) ⟨Nat.le_of_ble_eq_true rfl, Nat.le_of_ble_eq_true rfl, Nat.le_of_ble_eq_true rfl, Nat.le_of_ble_eq_true rfl⟩ dX13_writeOperands_106 (fun _ μ46 => ?_)
      refine g_st (st' := []) rfl ?_
      refine s_goto (tgt := 280) C dX13_writeOperands_109 (by decide) ?_
      exact g_sub [] rfl (hj280 μ46)
    refine s_aload_n C dX13_writeOperands_84 rfl 2 rfl ?_
    refine s_iload_n C dX13_writeOperands_85 rfl 1 rfl ?_
    refine s_if_le (tgt := 93) C dX13_writeOperands_86 (by decide) (fun c47 => ?_) (fun c47 => ?_)
    ·
      refine s_iconst (v := (0 : Int32)) C dX13_writeOperands_93 (by decide) ?_
      exact g_sub [2, 1, 0] rfl (hj94 μ37 n0 (0 : Int32) g0)
    ·
      refine s_iconst (v := (1 : Int32)) C dX13_writeOperands_89 (by decide) ?_
      refine s_goto (tgt := 94) C dX13_writeOperands_90 (by decide) ?_
      exact g_sub [2, 1, 0] rfl (hj94 μ37 n0 (1 : Int32) g0)
  ·
    refine g_cases (v := (1 : Int32)) (fun c48 => ?_) (fun c48 => ?_)
    ·
      refine s_tin (tgt := 112) C dX13_writeOperands_16 c48 (by decide) (by decide) rfl (by decide) ?_
      refine g_jn (P := fun j131 => ∀ (μ49 : Mem) (a50 : Nat) (a52 : Nat), a50 < 1 → a52 < 70 → G X r0 0 0 μ49 131 [(0, .ref (xa X 26 n0)), (1, .int p1)] [.ref (xa X 51 a52), .ref (xa X 26 a50)] (j131 μ49 a50 a52)) ?_ (fun j131 hj131 => ?_)
      · intro μ49 a50 a52 b51 b53
        refine s_callV C R0 (kX13_write_ (xl X) fu a50 b51 a52 b53) (Nat.le_trans (by decide) V) mmX13_write_ miX13_write_ q2812 (rc26 (Nat.le_trans (by decide) V)) b51 rfl rfl rfl (Nat.le_of_ble_eq_true rfl) ⟨Nat.le_of_ble_eq_true rfl, Nat.le_of_ble_eq_true rfl, Nat.le_of_ble_eq_true rfl, Nat.le_of_ble_eq_true rfl⟩ dX13_writeOperands_131 (fun _ μ54 => ?_)
        refine g_st (st' := []) rfl ?_
        refine s_aload_n C dX13_writeOperands_134 rfl 0 rfl ?_
        refine s_aload_n C dX13_writeOperands_135 rfl 0 rfl ?_
        refine s_iload_n C dX13_writeOperands_136 rfl 1 rfl ?_
        refine s_iconst (v := (3 : Int32)) C dX13_writeOperands_137 (by decide) ?_
        refine s_callV C R0 (kX13_code (xl X) n0 g0 p1 (3 : Int32)) (Nat.le_trans (by decide) V) mmX13_code miX13_code q2465 (rc26 (Nat.le_trans (by decide) V)) g0 rfl rfl rfl (Nat.le_of_ble_eq_true rfl) ⟨Nat.le_of_ble_eq_true rfl, Nat.le_of_ble_eq_true rfl, Nat.le_of_ble_eq_true rfl, Nat.le_of_ble_eq_true rfl⟩ dX13_writeOperands_138 (fun x56 μ55 => ?_)
        refine g_st (st' := [.int x56, .ref (xa X 26 n0)]) rfl ?_
        refine s_callV C R0 (kX13_writeNumber (xl X) fu n0 g0 x56) (Nat.le_trans (by decide) V) mmX13_writeNumber miX13_writeNumber q2824 (rc26 (Nat.le_trans (by decide) V)) g0 rfl rfl rfl (Nat.le_of_ble_eq_true rfl) ⟨Nat.le_of_ble_eq_true rfl, Nat.le_of_ble_eq_true rfl, Nat.le_of_ble_eq_true rfl, Nat.le_of_ble_eq_true rfl⟩ dX13_writeOperands_141 (fun _ μ57 => ?_)
        refine g_st (st' := []) rfl ?_
        refine s_goto (tgt := 280) C dX13_writeOperands_144 (by decide) ?_
        exact g_sub [] rfl (hj280 μ57)
      refine s_aload_n C dX13_writeOperands_112 rfl 2 rfl ?_
      refine s_iload_n C dX13_writeOperands_113 rfl 1 rfl ?_
      refine s_callV C R0 (kX13_writeNumber (xl X) fu n0 g0 x36) (Nat.le_trans (by decide) V) mmX13_writeNumber miX13_writeNumber q2824 (rc26 (Nat.le_trans (by decide) V)) g0 rfl rfl rfl (Nat.le_of_ble_eq_true rfl) ⟨Nat.le_of_ble_eq_true rfl, Nat.le_of_ble_eq_true rfl, Nat.le_of_ble_eq_true rfl, Nat.le_of_ble_eq_true rfl⟩ dX13_writeOperands_114 (fun _ μ58 => ?_)
      refine g_st (st' := []) rfl ?_
      refine s_aload_n C dX13_writeOperands_117 rfl 2 rfl ?_
      refine s_iload C dX13_writeOperands_118 0 rfl ?_
      refine s_iconst (v := (1 : Int32)) C dX13_writeOperands_120 (by decide) ?_
      refine s_icmp_ne (tgt := 129) C dX13_writeOperands_121 (by decide) (fun c59 => ?_) (fun c59 => ?_)
      ·
        refine s_ldcs (i := 19) C (List.mem_of_getElem? (i := 19) rfl) dX13_writeOperands_129 ?_
        exact g_sub [2, 3] rfl (hj131 μ58 n0 19 g0 (by decide))
      ·
        refine s_ldcs (i := 48) C (List.mem_of_getElem? (i := 48) rfl) dX13_writeOperands_124 ?_
        refine s_goto (tgt := 131) C dX13_writeOperands_126 (by decide) ?_
        exact g_sub [2, 3] rfl (hj131 μ58 n0 48 g0 (by decide))
    ·
      refine g_cases (v := (2 : Int32)) (fun c60 => ?_) (fun c60 => ?_)
      ·
        refine s_tin (tgt := 248) C dX13_writeOperands_16 c60 (by decide) (by decide) rfl (by decide) ?_
        exact g_sub [2, 1, 0] rfl (hj248 μ37 x36 x38)
      ·
        refine g_cases (v := (3 : Int32)) (fun c61 => ?_) (fun c61 => ?_)
        ·
          refine s_tin (tgt := 248) C dX13_writeOperands_16 c61 (by decide) (by decide) rfl (by decide) ?_
          exact g_sub [2, 1, 0] rfl (hj248 μ37 x36 x38)
        ·
          refine g_cases (v := (4 : Int32)) (fun c62 => ?_) (fun c62 => ?_)
          ·
            refine s_tin (tgt := 147) C dX13_writeOperands_16 c62 (by decide) (by decide) rfl (by decide) ?_
            exact g_sub [2, 4, 1, 0] rfl (hj147 μ37 x36 x38)
          ·
            refine g_cases (v := (5 : Int32)) (fun c63 => ?_) (fun c63 => ?_)
            ·
              refine s_tin (tgt := 147) C dX13_writeOperands_16 c63 (by decide) (by decide) rfl (by decide) ?_
              exact g_sub [2, 4, 1, 0] rfl (hj147 μ37 x36 x38)
            ·
              refine g_cases (v := (6 : Int32)) (fun c64 => ?_) (fun c64 => ?_)
              ·
                refine s_tin (tgt := 193) C dX13_writeOperands_16 c64 (by decide) (by decide) rfl (by decide) ?_
                refine g_jn (P := fun j214 => ∀ (μ65 : Mem) (a66 : Nat) (x68 : Int32), a66 < 1 → G X r0 0 0 μ65 214 [(0, .ref (xa X 26 n0)), (1, .int p1), (4, .int x38)] [.int x68, .ref (xa X 26 a66)] (j214 μ65 a66 x68)) ?_ (fun j214 hj214 => ?_)
                · intro μ65 a66 x68 b67
                  refine g_jn (P := fun j227 => ∀ (μ69 : Mem) (a70 : Nat) (x72 : Int32) (a73 : Nat), a70 < 1 → a73 < 70 → G X r0 0 0 μ69 227 [(0, .ref (xa X 26 n0)), (1, .int p1)] [.ref (xa X 51 a73), .int x72, .ref (xa X 26 a70)] (j227 μ69 a70 x72 a73)) ?_ (fun j227 hj227 => ?_)
                  · intro μ69 a70 x72 a73 b71 b74
                    refine s_callV C R0 (kX13_writeIf (xl X) fu a70 b71 x72 a73 b74) (Nat.le_trans (by decide) V) mmX13_writeIf miX13_writeIf q2820 (rc26 (Nat.le_trans (by decide) V)) b71 rfl rfl rfl (Nat.le_of_ble_eq_true rfl) ⟨Nat.le_of_ble_eq_true rfl, Nat.le_of_ble_eq_true rfl, Nat.le_of_ble_eq_true rfl, Nat.le_of_ble_eq_true rfl⟩ dX13_writeOperands_227 (fun _ μ75 => ?_)
                    refine g_st (st' := []) rfl ?_
                    refine s_aload_n C dX13_writeOperands_230 rfl 0 rfl ?_
                    refine s_aload_n C dX13_writeOperands_231 rfl 0 rfl ?_
                    refine s_getF C (fgX13_126_26 (Nat.le_trans (by decide) V)) g0 dX13_writeOperands_232 ?_
                    refine s_aload_n C dX13_writeOperands_235 rfl 0 rfl ?_
                    refine s_iload_n C dX13_writeOperands_236 rfl 1 rfl ?_
                    refine s_iconst (v := (3 : Int32)) C dX13_writeOperands_237 (by decide) ?_
                    refine s_callV C R0 (kX13_code (xl X) n0 g0 p1 (3 : Int32)) (Nat.le_trans (by decide) V) mmX13_code miX13_code q2465 (rc26 (Nat.le_trans (by decide) V)) g0 rfl rfl rfl (Nat.le_of_ble_eq_true rfl) ⟨Nat.le_of_ble_eq_true rfl, Nat.le_of_ble_eq_true rfl, Nat.le_of_ble_eq_true rfl, Nat.le_of_ble_eq_true rfl⟩ dX13_writeOperands_238 (fun x77 μ76 => ?_)
                    refine g_st (st' := [.int x77, .ref (xa X 30 2), .ref (xa X 26 n0)]) rfl ?_
                    refine s_aaldF C (ag30 (Nat.le_trans (by decide) V)) (fun _ => rfl) (by decide) dX13_writeOperands_241 (fun c78 => ?_)
                    refine s_callV C R0 (kX13_write_ (xl X) fu n0 g0 (strAt 2 x77.toNatClampNeg) (strAt_lt _ _)) (Nat.le_trans (by decide) V) mmX13_write_ miX13_write_ q2812 (rc26 (Nat.le_trans (by decide) V)) g0 rfl rfl rfl (Nat.le_of_ble_eq_true rfl) ⟨Nat.le_of_ble_eq_true rfl, Nat.le_of_ble_eq_true rfl, Nat.le_of_ble_eq_true rfl, Nat.le_of_ble_eq_true rfl⟩ dX13_writeOperands_242 (fun _ μ79 => ?_)
                    refine g_st (st' := []) rfl ?_
                    refine s_goto (tgt := 280) C dX13_writeOperands_245 (by decide) ?_
                    exact g_sub [] rfl (hj280 μ79)
                  refine s_iload C dX13_writeOperands_214 2 rfl ?_
                  refine s_iconst (v := (1 : Int32)) C dX13_writeOperands_216 (by decide) ?_
                  refine s_icmp_ne (tgt := 225) C dX13_writeOperands_217 (by decide) (fun c80 => ?_) (fun c80 => ?_)
                  ·
                    refine s_ldcs (i := 53) C (List.mem_of_getElem? (i := 53) rfl) dX13_writeOperands_225 ?_
                    exact g_sub [0, 1] rfl (hj227 μ65 a66 x68 53 b67 (by decide))
                  ·
                    refine s_ldcs (i := 52) C (List.mem_of_getElem? (i := 52) rfl) dX13_writeOperands_220 ?_
                    refine s_goto (tgt := 227) C dX13_writeOperands_222 (by decide) ?_
                    exact g_sub [0, 1] rfl (hj227 μ65 a66 x68 52 b67 (by decide))
                refine s_aload_n C dX13_writeOperands_193 rfl 2 rfl ?_
                refine s_aload_n C dX13_writeOperands_194 rfl 2 rfl ?_
                refine s_getF C (fgX13_126_26 (Nat.le_trans (by decide) V)) g0 dX13_writeOperands_195 ?_
                refine s_iload_n C dX13_writeOperands_198 rfl 1 rfl ?_
                refine s_aaldF C (ag30 (Nat.le_trans (by decide) V)) (fun _ => rfl) (by decide) dX13_writeOperands_199 (fun c81 => ?_)
                refine s_callV C R0 (kX13_write_ (xl X) fu n0 g0 (strAt 2 x36.toNatClampNeg) (strAt_lt _ _)) (Nat.le_trans (by decide) V) mmX13_write_ miX13_write_ q2812 (rc26 (Nat.le_trans (by decide) V)) g0 rfl rfl rfl (Nat.le_of_ble_eq_true rfl) ⟨Nat.le_of_ble_eq_true rfl, Nat.le_of_ble_eq_true rfl, Nat.le_of_ble_eq_true rfl, Nat.le_of_ble_eq_true rfl⟩ dX13_writeOperands_200 (fun _ μ82 => ?_)
                refine g_st (st' := []) rfl ?_
                refine s_aload_n C dX13_writeOperands_203 rfl 2 rfl ?_
                refine s_iload C dX13_writeOperands_204 0 rfl ?_
                refine s_if_le (tgt := 213) C dX13_writeOperands_206 (by decide) (fun c83 => ?_) (fun c83 => ?_)
                ·
                  refine s_iconst (v := (0 : Int32)) C dX13_writeOperands_213 (by decide) ?_
                  exact g_sub [2, 3, 0] rfl (hj214 μ82 n0 (0 : Int32) g0)
                ·
                  refine s_iconst (v := (1 : Int32)) C dX13_writeOperands_209 (by decide) ?_
                  refine s_goto (tgt := 214) C dX13_writeOperands_210 (by decide) ?_
                  exact g_sub [2, 3, 0] rfl (hj214 μ82 n0 (1 : Int32) g0)
              ·
                refine g_cases (v := (7 : Int32)) (fun c84 => ?_) (fun c84 => ?_)
                ·
                  refine s_tin (tgt := 275) C dX13_writeOperands_16 c84 (by decide) (by decide) rfl (by decide) ?_
                  exact g_sub [2, 1] rfl (hj275 μ37 x36)
                ·
                  refine g_cases (v := (8 : Int32)) (fun c85 => ?_) (fun c85 => ?_)
                  ·
                    refine s_tin (tgt := 275) C dX13_writeOperands_16 c85 (by decide) (by decide) rfl (by decide) ?_
                    exact g_sub [2, 1] rfl (hj275 μ37 x36)
                  ·
                    refine g_cases (v := (9 : Int32)) (fun c86 => ?_) (fun c86 => ?_)
                    ·
                      refine s_tin (tgt := 275) C dX13_writeOperands_16 c86 (by decide) (by decide) rfl (by decide) ?_
                      exact g_sub [2, 1] rfl (hj275 μ37 x36)
                    ·
                      refine g_cases (v := (10 : Int32)) (fun c87 => ?_) (fun c87 => ?_)
                      ·
                        refine s_tin (tgt := 248) C dX13_writeOperands_16 c87 (by decide) (by decide) rfl (by decide) ?_
                        exact g_sub [2, 1, 0] rfl (hj248 μ37 x36 x38)
                      ·
                        refine g_cases (v := (11 : Int32)) (fun c88 => ?_) (fun c88 => ?_)
                        ·
                          refine s_tin (tgt := 267) C dX13_writeOperands_16 c88 (by decide) (by decide) rfl (by decide) ?_
                          exact g_sub [2, 3] rfl (hj267 μ37)
                        ·
                          refine g_cases (v := (12 : Int32)) (fun c89 => ?_) (fun c89 => ?_)
                          ·
                            refine s_tin (tgt := 267) C dX13_writeOperands_16 c89 (by decide) (by decide) rfl (by decide) ?_
                            exact g_sub [2, 3] rfl (hj267 μ37)
                          ·
                            refine s_tout (tgt := 275) C dX13_writeOperands_16 (by have := ine (i := 0) (by decide) c39; have := ine (i := 1) (by decide) c48; have := ine (i := 2) (by decide) c60; have := ine (i := 3) (by decide) c61; have := ine (i := 4) (by decide) c62; have := ine (i := 5) (by decide) c63; have := ine (i := 6) (by decide) c64; have := ine (i := 7) (by decide) c84; have := ine (i := 8) (by decide) c85; have := ine (i := 9) (by decide) c86; have := ine (i := 10) (by decide) c87; have := ine (i := 11) (by decide) c88; have := ine (i := 12) (by decide) c89; omega) (by decide) ?_
                            exact g_sub [2, 1] rfl (hj275 μ37 x36)
/-! PinEnginesModel.format(I)I -/
def fX13_format (fu : Nat) (n0 : Nat) (p1 : Int32) (μ : Mem) : Option (Int32 × Mem) :=
  nm (wI μ 26 n0 6 (0 : Int32)) fun μ1 =>
  ckI (0 : Int32) (if 0 = 4 then 7000 else 700) <|
  bnd (fX13_inRange p1 (0 : Int32) ((μ1.1 27 0 (0 : Int32).toNatClampNeg) - (1 : Int32)) μ1) fun x3 μ2 =>
  if ¬ x3 = 0 then (
    jn (fun (μ5 : Mem) =>
      jn (fun (μ6 : Mem) =>
        some ((μ6.1 26 n0 41), μ6)
      ) fun j106 =>
      bnd (fX13_code n0 p1 (5 : Int32) μ5) fun x8 μ7 =>
      if x8 ≤ 0 then (
        j106 μ7
      ) else (
        bnd (fX13_write_ fu n0 34 μ7) fun _ μ10 =>
        bnd (fX13_code n0 p1 (5 : Int32) μ10) fun x12 μ11 =>
        bnd (fX13_writeNumber fu n0 x12 μ11) fun _ μ13 =>
        j106 μ13
      )
    ) fun j81 =>
    nm (wI μ2 26 n0 41 (0 : Int32)) fun μ14 =>
    bnd (fX13_code n0 p1 (0 : Int32) μ14) fun x16 μ15 =>
    ckI x16 (stl.getD 0 0) <|
    bnd (fX13_write_ fu n0 (strAt 0 x16.toNatClampNeg) μ15) fun _ μ18 =>
    bnd (fX13_writeOperands fu n0 p1 x16 μ18) fun _ μ19 =>
    bnd (fX13_code n0 p1 (4 : Int32) μ19) fun x21 μ20 =>
    if x21 = (-1 : Int32) then (
      j81 μ20
    ) else (
      bnd (fX13_write_ fu n0 33 μ20) fun _ μ23 =>
      bnd (fX13_code n0 p1 (4 : Int32) μ23) fun x25 μ24 =>
      bnd (fX13_writeNumber fu n0 x25 μ24) fun _ μ26 =>
      j81 μ26
    )
  ) else (
    bnd (fX13_raise n0 (1 : Int32) μ2) fun x28 μ27 =>
    some (x28, μ27)
  )
set_option maxHeartbeats 4000000 in
set_option maxRecDepth 100000 in
theorem kX13_format (l : Launch) (fu : Nat) (n0 : Nat) (g0 : n0 < 1) (p1 : Int32) : Kon 1 l yX13_format cX13_format 3 (some .int) 16 340 0 0 (fun ad => [.ref (ad 26 n0), .int p1]) rvI (fun μ => fX13_format fu n0 p1 μ) := by
  refine kon_of (by decide) (fun _ => Nat.le_of_ble_eq_true rfl) (fun X r0 μ hXl hXn V C E => ?_)
  have hN : ∀ i : Nat, i < 3 → i < xn X := fun i h => hXn.symm ▸ h
  have R0 := fen_rm E
  show G X r0 0 0 μ 0 [(0, .ref (xa X 26 n0)), (1, .int p1)] [] (fX13_format fu n0 p1 μ)
  unfold fX13_format
  refine s_aload_n C dX13_format_0 rfl 0 rfl ?_
  refine s_iconst (v := (0 : Int32)) C dX13_format_1 (by decide) ?_
  refine s_putI C (fpX13_231_26 (Nat.le_trans (by decide) V)) g0 dX13_format_2 ?_
  refine g_nmM (fun μ1 => ?_)
  refine s_iload_n C dX13_format_5 rfl 1 rfl ?_
  refine s_iconst (v := (0 : Int32)) C dX13_format_6 (by decide) ?_
  refine s_aload_n C dX13_format_7 rfl 0 rfl ?_
  refine s_getF C (fgX13_9_26 (Nat.le_trans (by decide) V)) g0 dX13_format_8 ?_
  refine s_iconst (v := (0 : Int32)) C dX13_format_11 (by decide) ?_
  refine s_iald C (ag27 (Nat.le_trans (by decide) V)) (by decide) dX13_format_12 ?_
  refine s_iconst (v := (1 : Int32)) C dX13_format_13 (by decide) ?_
  refine s_isub C dX13_format_14 ?_
  refine s_callS C R0 (kX13_inRange (xl X) p1 (0 : Int32) ((μ1.1 27 0 (0 : Int32).toNatClampNeg) - (1 : Int32))) (Nat.le_trans (by decide) V) mmX13_inRange q2257 q2256 rfl rfl rfl rfl (Nat.le_of_ble_eq_true rfl) ⟨Nat.le_of_ble_eq_true rfl, Nat.le_of_ble_eq_true rfl, Nat.le_of_ble_eq_true rfl, Nat.le_of_ble_eq_true rfl⟩ dX13_format_15 (fun x3 μ2 => ?_)
  refine g_st (st' := [.int x3]) rfl ?_
  refine s_if_ne (tgt := 27) C dX13_format_18 (by decide) (fun c4 => ?_) (fun c4 => ?_)
  ·
    refine g_jn (P := fun j81 => ∀ (μ5 : Mem), G X r0 0 0 μ5 81 [(0, .ref (xa X 26 n0)), (1, .int p1)] [] (j81 μ5)) ?_ (fun j81 hj81 => ?_)
    · intro μ5
      refine g_jn (P := fun j106 => ∀ (μ6 : Mem), G X r0 0 0 μ6 106 [(0, .ref (xa X 26 n0))] [] (j106 μ6)) ?_ (fun j106 hj106 => ?_)
      · intro μ6
        refine s_aload_n C dX13_format_106 rfl 0 rfl ?_
        refine s_getI C (fgX13_630_26 (Nat.le_trans (by decide) V)) g0 dX13_format_107 ?_
        exact s_iret C E dX13_format_110
      refine s_aload_n C dX13_format_81 rfl 0 rfl ?_
      refine s_iload_n C dX13_format_82 rfl 1 rfl ?_
      refine s_iconst (v := (5 : Int32)) C dX13_format_83 (by decide) ?_
      refine s_callV C R0 (kX13_code (xl X) n0 g0 p1 (5 : Int32)) (Nat.le_trans (by decide) V) mmX13_code miX13_code q2465 (rc26 (Nat.le_trans (by decide) V)) g0 rfl rfl rfl (Nat.le_of_ble_eq_true rfl) ⟨Nat.le_of_ble_eq_true rfl, Nat.le_of_ble_eq_true rfl, Nat.le_of_ble_eq_true rfl, Nat.le_of_ble_eq_true rfl⟩ dX13_format_84 (fun x8 μ7 => ?_)
      refine g_st (st' := [.int x8]) rfl ?_
      refine s_if_le (tgt := 106) C dX13_format_87 (by decide) (fun c9 => ?_) (fun c9 => ?_)
      ·
        exact g_sub [0] rfl (hj106 μ7)
      ·
        refine s_aload_n C dX13_format_90 rfl 0 rfl ?_
        refine s_ldcs (i := 34) C (List.mem_of_getElem? (i := 34) rfl) dX13_format_91 ?_
        refine s_callV C R0 (kX13_write_ (xl X) fu n0 g0 34 (by decide)) (Nat.le_trans (by decide) V) mmX13_write_ miX13_write_ q2812 (rc26 (Nat.le_trans (by decide) V)) g0 rfl rfl rfl (Nat.le_of_ble_eq_true rfl) ⟨Nat.le_of_ble_eq_true rfl, Nat.le_of_ble_eq_true rfl, Nat.le_of_ble_eq_true rfl, Nat.le_of_ble_eq_true rfl⟩ dX13_format_93 (fun _ μ10 => ?_)
        refine g_st (st' := []) rfl ?_
        refine s_aload_n C dX13_format_96 rfl 0 rfl ?_
        refine s_aload_n C dX13_format_97 rfl 0 rfl ?_
        refine s_iload_n C dX13_format_98 rfl 1 rfl ?_
        refine s_iconst (v := (5 : Int32)) C dX13_format_99 (by decide) ?_
        refine s_callV C R0 (kX13_code (xl X) n0 g0 p1 (5 : Int32)) (Nat.le_trans (by decide) V) mmX13_code miX13_code q2465 (rc26 (Nat.le_trans (by decide) V)) g0 rfl rfl rfl (Nat.le_of_ble_eq_true rfl) ⟨Nat.le_of_ble_eq_true rfl, Nat.le_of_ble_eq_true rfl, Nat.le_of_ble_eq_true rfl, Nat.le_of_ble_eq_true rfl⟩ dX13_format_100 (fun x12 μ11 => ?_)
        refine g_st (st' := [.int x12, .ref (xa X 26 n0)]) rfl ?_
        refine s_callV C R0 (kX13_writeNumber (xl X) fu n0 g0 x12) (Nat.le_trans (by decide) V) mmX13_writeNumber miX13_writeNumber q2824 (rc26 (Nat.le_trans (by decide) V)) g0 rfl rfl rfl (Nat.le_of_ble_eq_true rfl) ⟨Nat.le_of_ble_eq_true rfl, Nat.le_of_ble_eq_true rfl, Nat.le_of_ble_eq_true rfl, Nat.le_of_ble_eq_true rfl⟩ dX13_format_103 (fun _ μ13 => ?_)
        refine g_st (st' := []) rfl ?_
        exact g_sub [0] rfl (hj106 μ13)
    refine s_aload_n C dX13_format_27 rfl 0 rfl ?_
    refine s_iconst (v := (0 : Int32)) C dX13_format_28 (by decide) ?_
    refine s_putI C (fpX13_630_26 (Nat.le_trans (by decide) V)) g0 dX13_format_29 ?_
    refine g_nmM (fun μ14 => ?_)
    refine s_aload_n C dX13_format_32 rfl 0 rfl ?_
    refine s_iload_n C dX13_format_33 rfl 1 rfl ?_
    refine s_iconst (v := (0 : Int32)) C dX13_format_34 (by decide) ?_
    refine s_callV C R0 (kX13_code (xl X) n0 g0 p1 (0 : Int32)) (Nat.le_trans (by decide) V) mmX13_code miX13_code q2465 (rc26 (Nat.le_trans (by decide) V)) g0 rfl rfl rfl (Nat.le_of_ble_eq_true rfl) ⟨Nat.le_of_ble_eq_true rfl, Nat.le_of_ble_eq_true rfl, Nat.le_of_ble_eq_true rfl, Nat.le_of_ble_eq_true rfl⟩ dX13_format_35 (fun x16 μ15 => ?_)
    refine g_st (st' := [.int x16]) rfl ?_
    refine s_istore_n (L' := [(2, .int x16), (0, .ref (xa X 26 n0)), (1, .int p1)]) C dX13_format_38 rfl (hN 2 (by decide)) rfl ?_
    refine s_aload_n C dX13_format_39 rfl 1 rfl ?_
    refine s_aload_n C dX13_format_40 rfl 1 rfl ?_
    refine s_getF C (fgX13_85_26 (Nat.le_trans (by decide) V)) g0 dX13_format_41 ?_
    refine s_iload_n C dX13_format_44 rfl 0 rfl ?_
    refine s_aaldF C (ag30 (Nat.le_trans (by decide) V)) (fun _ => rfl) (by decide) dX13_format_45 (fun c17 => ?_)
    refine s_callV C R0 (kX13_write_ (xl X) fu n0 g0 (strAt 0 x16.toNatClampNeg) (strAt_lt _ _)) (Nat.le_trans (by decide) V) mmX13_write_ miX13_write_ q2812 (rc26 (Nat.le_trans (by decide) V)) g0 rfl rfl rfl (Nat.le_of_ble_eq_true rfl) ⟨Nat.le_of_ble_eq_true rfl, Nat.le_of_ble_eq_true rfl, Nat.le_of_ble_eq_true rfl, Nat.le_of_ble_eq_true rfl⟩ dX13_format_46 (fun _ μ18 => ?_)
    refine g_st (st' := []) rfl ?_
    refine s_aload_n C dX13_format_49 rfl 1 rfl ?_
    refine s_iload_n C dX13_format_50 rfl 2 rfl ?_
    refine s_iload_n C dX13_format_51 rfl 0 rfl ?_
    refine s_callV C R0 (kX13_writeOperands (xl X) fu n0 g0 p1 x16) (Nat.le_trans (by decide) V) mmX13_writeOperands miX13_writeOperands q2816 (rc26 (Nat.le_trans (by decide) V)) g0 rfl rfl rfl (Nat.le_of_ble_eq_true rfl) ⟨Nat.le_of_ble_eq_true rfl, Nat.le_of_ble_eq_true rfl, Nat.le_of_ble_eq_true rfl, Nat.le_of_ble_eq_true rfl⟩ dX13_format_52 (fun _ μ19 => ?_)
    refine g_st (st' := []) rfl ?_
    refine s_aload_n C dX13_format_55 rfl 1 rfl ?_
    refine s_iload_n C dX13_format_56 rfl 2 rfl ?_
    refine s_iconst (v := (4 : Int32)) C dX13_format_57 (by decide) ?_
    refine s_callV C R0 (kX13_code (xl X) n0 g0 p1 (4 : Int32)) (Nat.le_trans (by decide) V) mmX13_code miX13_code q2465 (rc26 (Nat.le_trans (by decide) V)) g0 rfl rfl rfl (Nat.le_of_ble_eq_true rfl) ⟨Nat.le_of_ble_eq_true rfl, Nat.le_of_ble_eq_true rfl, Nat.le_of_ble_eq_true rfl, Nat.le_of_ble_eq_true rfl⟩ dX13_format_58 (fun x21 μ20 => ?_)
    refine g_st (st' := [.int x21]) rfl ?_
    refine s_iconst (v := (-1 : Int32)) C dX13_format_61 (by decide) ?_
    refine s_icmp_eq (tgt := 81) C dX13_format_62 (by decide) (fun c22 => ?_) (fun c22 => ?_)
    ·
      exact g_sub [1, 2] rfl (hj81 μ20)
    ·
      refine s_aload_n C dX13_format_65 rfl 1 rfl ?_
      refine s_ldcs (i := 33) C (List.mem_of_getElem? (i := 33) rfl) dX13_format_66 ?_
      refine s_callV C R0 (kX13_write_ (xl X) fu n0 g0 33 (by decide)) (Nat.le_trans (by decide) V) mmX13_write_ miX13_write_ q2812 (rc26 (Nat.le_trans (by decide) V)) g0 rfl rfl rfl (Nat.le_of_ble_eq_true rfl) ⟨Nat.le_of_ble_eq_true rfl, Nat.le_of_ble_eq_true rfl, Nat.le_of_ble_eq_true rfl, Nat.le_of_ble_eq_true rfl⟩ dX13_format_68 (fun _ μ23 => ?_)
      refine g_st (st' := []) rfl ?_
      refine s_aload_n C dX13_format_71 rfl 1 rfl ?_
      refine s_aload_n C dX13_format_72 rfl 1 rfl ?_
      refine s_iload_n C dX13_format_73 rfl 2 rfl ?_
      refine s_iconst (v := (4 : Int32)) C dX13_format_74 (by decide) ?_
      refine s_callV C R0 (kX13_code (xl X) n0 g0 p1 (4 : Int32)) (Nat.le_trans (by decide) V) mmX13_code miX13_code q2465 (rc26 (Nat.le_trans (by decide) V)) g0 rfl rfl rfl (Nat.le_of_ble_eq_true rfl) ⟨Nat.le_of_ble_eq_true rfl, Nat.le_of_ble_eq_true rfl, Nat.le_of_ble_eq_true rfl, Nat.le_of_ble_eq_true rfl⟩ dX13_format_75 (fun x25 μ24 => ?_)
      refine g_st (st' := [.int x25, .ref (xa X 26 n0)]) rfl ?_
      refine s_callV C R0 (kX13_writeNumber (xl X) fu n0 g0 x25) (Nat.le_trans (by decide) V) mmX13_writeNumber miX13_writeNumber q2824 (rc26 (Nat.le_trans (by decide) V)) g0 rfl rfl rfl (Nat.le_of_ble_eq_true rfl) ⟨Nat.le_of_ble_eq_true rfl, Nat.le_of_ble_eq_true rfl, Nat.le_of_ble_eq_true rfl, Nat.le_of_ble_eq_true rfl⟩ dX13_format_78 (fun _ μ26 => ?_)
      refine g_st (st' := []) rfl ?_
      exact g_sub [1, 2] rfl (hj81 μ26)
  ·
    refine s_aload_n C dX13_format_21 rfl 0 rfl ?_
    refine s_iconst (v := (1 : Int32)) C dX13_format_22 (by decide) ?_
    refine s_callV C R0 (kX13_raise (xl X) n0 g0 (1 : Int32)) (Nat.le_trans (by decide) V) mmX13_raise miX13_raise q2259 (rc26 (Nat.le_trans (by decide) V)) g0 rfl rfl rfl (Nat.le_of_ble_eq_true rfl) ⟨Nat.le_of_ble_eq_true rfl, Nat.le_of_ble_eq_true rfl, Nat.le_of_ble_eq_true rfl, Nat.le_of_ble_eq_true rfl⟩ dX13_format_23 (fun x28 μ27 => ?_)
    refine g_st (st' := [.int x28]) rfl ?_
    exact s_iret C E dX13_format_26
/-! PinEnginesModel.query(I)I -/
def fX13_query (fu : Nat) (n0 : Nat) (p1 : Int32) (μ : Mem) : Option (Int32 × Mem) :=
  nm (wI μ 26 n0 6 (0 : Int32)) fun μ1 =>
  bnd (fX13_inRange p1 (0 : Int32) (if (200 : Int32) < (μ1.1 26 n0 21) then (200 : Int32) else (μ1.1 26 n0 21)) μ1) fun x3 μ2 =>
  if ¬ x3 = 0 then (
    jn (fun (μ5 : Mem) (x6 : Int32) (a7 : Nat) (x9 : Int32) =>
      jn (fun (μ10 : Mem) (a11 : Nat) (x13 : Int32) =>
        bnd (fX13_check a11 x13 (1 : Int32) μ10) fun _ μ14 =>
        bnd (fX13_finish n0 μ14) fun x16 μ15 =>
        if x16 = 0 then (
          jn (lp (fun _ _ _ => none) fu (fun j122 (μ18 : Mem) (x19 : Int32) (x20 : Int32) =>
            if (4 : Int32) ≤ x20 then (
              jn (fun (μ22 : Mem) (x23 : Int32) =>
                some (x23, μ22)
              ) fun j175 =>
              if x6 = 0 then (
                j175 μ18 x19
              ) else (
                j175 μ18 (-1 : Int32)
              )
            ) else (
              jn (fun (μ25 : Mem) (x26 : Int32) (x27 : Int32) =>
                nm (x27 + (1 : Int32)) fun x28 =>
                j122 μ25 x26 x28
              ) fun j160 =>
              bnd (fX13_setting n0 x20 (0 : Int32) μ18) fun x30 μ29 =>
              if x30 = 0 then (
                j160 μ29 x19 x20
              ) else (
                bnd (fX13_holdsFor fu n0 x20 μ29) fun x33 μ32 =>
                if ¬ x33 = 0 then (
                  if x6 = 0 then (
                    nm (x19 + (1 : Int32)) fun x36 =>
                    j160 μ32 x36 x20
                  ) else (
                    some (x20, μ32)
                  )
                ) else (
                  j160 μ32 x19 x20
                )
              )
            )
          )) fun j122 =>
          j122 μ15 (0 : Int32) (0 : Int32)
        ) else (
          some (((-1000000000 : Int32) - (μ15.1 26 n0 26)), μ15)
        )
      ) fun j97 =>
      jn (fun (μ37 : Mem) (a38 : Nat) =>
        j97 μ37 a38 (1 : Int32)
      ) fun j92 =>
      bnd (fX13_check a7 x9 (1 : Int32) μ5) fun _ μ40 =>
      bnd (fX13_advance fu n0 μ40) fun _ μ41 =>
      bnd (fgX13c fu 30 0 n0 μ41) fun _ μ42 =>
      if ¬ (μ42.1 26 n0 26) = 0 then (
        j92 μ42 n0
      ) else (
        if ¬ (μ42.1 26 n0 25) = 0 then (
          j97 μ42 n0 (0 : Int32)
        ) else (
          j92 μ42 n0
        )
      )
    ) fun j65 =>
    jn (fun (μ45 : Mem) (x46 : Int32) (a47 : Nat) =>
      j65 μ45 x46 a47 (1 : Int32)
    ) fun j60 =>
    nm (wI μ2 26 n0 46 (0 : Int32)) fun μ49 =>
    bnd (fX13_startText fu n0 p1 μ49) fun _ μ50 =>
    bnd (fX13_isWord fu n0 55 μ50) fun x52 μ51 =>
    if ¬ x52 = 0 then (
      j60 μ51 x52 n0
    ) else (
      bnd (fX13_isWord fu n0 54 μ51) fun x55 μ54 =>
      if x55 = 0 then (
        j65 μ54 x52 n0 (0 : Int32)
      ) else (
        j60 μ54 x52 n0
      )
    )
  ) else (
    bnd (fX13_raise n0 (1 : Int32) μ2) fun x58 μ57 =>
    some (x58, μ57)
  )
set_option maxHeartbeats 4000000 in
set_option maxRecDepth 100000 in
theorem kX13_query (l : Launch) (fu : Nat) (n0 : Nat) (g0 : n0 < 1) (p1 : Int32) : Kon 1 l yX13_query cX13_query 5 (some .int) 38 801 0 0 (fun ad => [.ref (ad 26 n0), .int p1]) rvI (fun μ => fX13_query fu n0 p1 μ) := by
  refine kon_of (by decide) (fun _ => Nat.le_of_ble_eq_true rfl) (fun X r0 μ hXl hXn V C E => ?_)
  have hN : ∀ i : Nat, i < 5 → i < xn X := fun i h => hXn.symm ▸ h
  have R0 := fen_rm E
  show G X r0 0 0 μ 0 [(0, .ref (xa X 26 n0)), (1, .int p1)] [] (fX13_query fu n0 p1 μ)
  unfold fX13_query
  refine s_aload_n C dX13_query_0 rfl 0 rfl ?_
  refine s_iconst (v := (0 : Int32)) C dX13_query_1 (by decide) ?_
  refine s_putI C (fpX13_231_26 (Nat.le_trans (by decide) V)) g0 dX13_query_2 ?_
  refine g_nmM (fun μ1 => ?_)
  refine s_iload_n C dX13_query_5 rfl 1 rfl ?_
  refine s_iconst (v := (0 : Int32)) C dX13_query_6 (by decide) ?_
  refine s_aload_n C dX13_query_7 rfl 0 rfl ?_
  refine s_getI C (fgX13_466_26 (Nat.le_trans (by decide) V)) g0 dX13_query_8 ?_
  refine s_sipush (v := (200 : Int32)) C dX13_query_11 (by decide) ?_
  refine s_mmin C R0 q2512 q726 q172 q727 ⟨Nat.le_of_ble_eq_true rfl, Nat.le_of_ble_eq_true rfl, Nat.le_of_ble_eq_true rfl, Nat.le_of_ble_eq_true rfl⟩ dX13_query_14 ?_
  refine s_callS C R0 (kX13_inRange (xl X) p1 (0 : Int32) (if (200 : Int32) < (μ1.1 26 n0 21) then (200 : Int32) else (μ1.1 26 n0 21))) (Nat.le_trans (by decide) V) mmX13_inRange q2257 q2256 rfl rfl rfl rfl (Nat.le_of_ble_eq_true rfl) ⟨Nat.le_of_ble_eq_true rfl, Nat.le_of_ble_eq_true rfl, Nat.le_of_ble_eq_true rfl, Nat.le_of_ble_eq_true rfl⟩ dX13_query_17 (fun x3 μ2 => ?_)
  refine g_st (st' := [.int x3]) rfl ?_
  refine s_if_ne (tgt := 29) C dX13_query_20 (by decide) (fun c4 => ?_) (fun c4 => ?_)
  ·
    refine g_jn (P := fun j65 => ∀ (μ5 : Mem) (x6 : Int32) (a7 : Nat) (x9 : Int32), a7 < 1 → G X r0 0 0 μ5 65 [(0, .ref (xa X 26 n0)), (2, .int x6)] [.int x9, .ref (xa X 26 a7)] (j65 μ5 x6 a7 x9)) ?_ (fun j65 hj65 => ?_)
    · intro μ5 x6 a7 x9 b8
      refine g_jn (P := fun j97 => ∀ (μ10 : Mem) (a11 : Nat) (x13 : Int32), a11 < 1 → G X r0 0 0 μ10 97 [(0, .ref (xa X 26 n0)), (2, .int x6)] [.int x13, .ref (xa X 26 a11)] (j97 μ10 a11 x13)) ?_ (fun j97 hj97 => ?_)
      · intro μ10 a11 x13 b12
        refine s_iconst (v := (1 : Int32)) C dX13_query_97 (by decide) ?_
        refine s_callV C R0 (kX13_check (xl X) a11 b12 x13 (1 : Int32)) (Nat.le_trans (by decide) V) mmX13_check miX13_check q2680 (rc26 (Nat.le_trans (by decide) V)) b12 rfl rfl rfl (Nat.le_of_ble_eq_true rfl) ⟨Nat.le_of_ble_eq_true rfl, Nat.le_of_ble_eq_true rfl, Nat.le_of_ble_eq_true rfl, Nat.le_of_ble_eq_true rfl⟩ dX13_query_98 (fun _ μ14 => ?_)
        refine g_st (st' := []) rfl ?_
        refine s_aload_n C dX13_query_101 rfl 0 rfl ?_
        refine s_callV C R0 (kX13_finish (xl X) n0 g0) (Nat.le_trans (by decide) V) mmX13_finish miX13_finish q2804 (rc26 (Nat.le_trans (by decide) V)) g0 rfl rfl rfl (Nat.le_of_ble_eq_true rfl) ⟨Nat.le_of_ble_eq_true rfl, Nat.le_of_ble_eq_true rfl, Nat.le_of_ble_eq_true rfl, Nat.le_of_ble_eq_true rfl⟩ dX13_query_102 (fun x16 μ15 => ?_)
        refine g_st (st' := [.int x16]) rfl ?_
        refine s_if_eq (tgt := 117) C dX13_query_105 (by decide) (fun c17 => ?_) (fun c17 => ?_)
        ·
          refine g_jl (P := fun j122 => ∀ (μ18 : Mem) (x19 : Int32) (x20 : Int32), G X r0 0 0 μ18 122 [(0, .ref (xa X 26 n0)), (2, .int x6), (3, .int x19), (4, .int x20)] [] (j122 μ18 x19 x20)) (fun _ _ _ => g_none) (fun j122 hj122 => ?_) (fun j122 hj122 => ?_)
          · intro μ18 x19 x20
            refine s_iload C dX13_query_122 3 rfl ?_
            refine s_iconst (v := (4 : Int32)) C dX13_query_124 (by decide) ?_
            refine s_icmp_ge (tgt := 166) C dX13_query_125 (by decide) (fun c21 => ?_) (fun c21 => ?_)
            ·
              refine g_jn (P := fun j175 => ∀ (μ22 : Mem) (x23 : Int32), G X r0 0 0 μ22 175 [] [.int x23] (j175 μ22 x23)) ?_ (fun j175 hj175 => ?_)
              · intro μ22 x23
                exact s_iret C E dX13_query_175
              refine s_iload_n C dX13_query_166 rfl 1 rfl ?_
              refine s_if_eq (tgt := 174) C dX13_query_167 (by decide) (fun c24 => ?_) (fun c24 => ?_)
              ·
                refine s_iload_n C dX13_query_174 rfl 2 rfl ?_
                exact g_sub [] rfl (hj175 μ18 x19)
              ·
                refine s_iconst (v := (-1 : Int32)) C dX13_query_170 (by decide) ?_
                refine s_goto (tgt := 175) C dX13_query_171 (by decide) ?_
                exact g_sub [] rfl (hj175 μ18 (-1 : Int32))
            ·
              refine g_jn (P := fun j160 => ∀ (μ25 : Mem) (x26 : Int32) (x27 : Int32), G X r0 0 0 μ25 160 [(0, .ref (xa X 26 n0)), (2, .int x6), (3, .int x26), (4, .int x27)] [] (j160 μ25 x26 x27)) ?_ (fun j160 hj160 => ?_)
              · intro μ25 x26 x27
                refine g_nmQ (fun x28 ex28 => ?_)
                refine s_iinc (v := x28) (j := 3) (L' := [(4, .int x28), (0, .ref (xa X 26 n0)), (2, .int x6), (3, .int x26)]) C dX13_query_160 rfl (by rw [ex28]; rfl) (hN 4 (by decide)) rfl ?_
                refine s_goto (tgt := 122) C dX13_query_163 (by decide) ?_
                exact g_sub [1, 2, 3, 0] rfl (hj122 μ25 x26 x28)
              refine s_aload_n C dX13_query_128 rfl 0 rfl ?_
              refine s_iload C dX13_query_129 3 rfl ?_
              refine s_iconst (v := (0 : Int32)) C dX13_query_131 (by decide) ?_
              refine s_callV C R0 (kX13_setting (xl X) n0 g0 x20 (0 : Int32)) (Nat.le_trans (by decide) V) mmX13_setting miX13_setting q2241 (rc26 (Nat.le_trans (by decide) V)) g0 rfl rfl rfl (Nat.le_of_ble_eq_true rfl) ⟨Nat.le_of_ble_eq_true rfl, Nat.le_of_ble_eq_true rfl, Nat.le_of_ble_eq_true rfl, Nat.le_of_ble_eq_true rfl⟩ dX13_query_132 (fun x30 μ29 => ?_)
              refine g_st (st' := [.int x30]) rfl ?_
              refine s_if_eq (tgt := 160) C dX13_query_135 (by decide) (fun c31 => ?_) (fun c31 => ?_)
              ·
                exact g_sub [0, 1, 2, 3] rfl (hj160 μ29 x19 x20)
              ·
                refine s_aload_n C dX13_query_138 rfl 0 rfl ?_
                refine s_iload C dX13_query_139 3 rfl ?_
                refine s_callV C R0 (kX13_holdsFor (xl X) fu n0 g0 x20) (Nat.le_trans (by decide) V) mmX13_holdsFor miX13_holdsFor q2870 (rc26 (Nat.le_trans (by decide) V)) g0 rfl rfl rfl (Nat.le_of_ble_eq_true rfl) ⟨Nat.le_of_ble_eq_true rfl, Nat.le_of_ble_eq_true rfl, Nat.le_of_ble_eq_true rfl, Nat.le_of_ble_eq_true rfl⟩ dX13_query_141 (fun x33 μ32 => ?_)
                refine g_st (st' := [.int x33]) rfl ?_
                refine s_if_ne (tgt := 150) C dX13_query_144 (by decide) (fun c34 => ?_) (fun c34 => ?_)
                ·
                  refine s_iload_n C dX13_query_150 rfl 1 rfl ?_
                  refine s_if_eq (tgt := 157) C dX13_query_151 (by decide) (fun c35 => ?_) (fun c35 => ?_)
                  ·
                    refine g_nmQ (fun x36 ex36 => ?_)
                    refine s_iinc (v := x36) (j := 2) (L' := [(3, .int x36), (0, .ref (xa X 26 n0)), (2, .int x6), (4, .int x20)]) C dX13_query_157 rfl (by rw [ex36]; rfl) (hN 3 (by decide)) rfl ?_
                    exact g_sub [1, 2, 0, 3] rfl (hj160 μ32 x36 x20)
                  ·
                    refine s_iload C dX13_query_154 3 rfl ?_
                    exact s_iret C E dX13_query_156
                ·
                  refine s_goto (tgt := 160) C dX13_query_147 (by decide) ?_
                  exact g_sub [0, 1, 2, 3] rfl (hj160 μ32 x19 x20)
          refine s_iconst (v := (0 : Int32)) C dX13_query_117 (by decide) ?_
          refine s_istore_n (L' := [(3, .int (0 : Int32)), (0, .ref (xa X 26 n0)), (2, .int x6)]) C dX13_query_118 rfl (hN 3 (by decide)) rfl ?_
          refine s_iconst (v := (0 : Int32)) C dX13_query_119 (by decide) ?_
          refine s_istore (L' := [(4, .int (0 : Int32)), (3, .int (0 : Int32)), (0, .ref (xa X 26 n0)), (2, .int x6)]) C dX13_query_120 (hN 4 (by decide)) rfl ?_
          exact g_sub [2, 3, 1, 0] rfl (hj122 μ15 (0 : Int32) (0 : Int32))
        ·
          refine s_ldcw (v := (-1000000000 : Int32)) C q2869 dX13_query_108 ?_
          refine s_aload_n C dX13_query_111 rfl 0 rfl ?_
          refine s_getI C (fgX13_490_26 (Nat.le_trans (by decide) V)) g0 dX13_query_112 ?_
          refine s_isub C dX13_query_115 ?_
          exact s_iret C E dX13_query_116
      refine g_jn (P := fun j92 => ∀ (μ37 : Mem) (a38 : Nat), a38 < 1 → G X r0 0 0 μ37 92 [(0, .ref (xa X 26 n0)), (2, .int x6)] [.ref (xa X 26 a38)] (j92 μ37 a38)) ?_ (fun j92 hj92 => ?_)
      · intro μ37 a38 b39
        refine s_iconst (v := (1 : Int32)) C dX13_query_92 (by decide) ?_
        refine s_goto (tgt := 97) C dX13_query_93 (by decide) ?_
        exact g_sub [0, 1] rfl (hj97 μ37 a38 (1 : Int32) b39)
      refine s_iconst (v := (1 : Int32)) C dX13_query_65 (by decide) ?_
      refine s_callV C R0 (kX13_check (xl X) a7 b8 x9 (1 : Int32)) (Nat.le_trans (by decide) V) mmX13_check miX13_check q2680 (rc26 (Nat.le_trans (by decide) V)) b8 rfl rfl rfl (Nat.le_of_ble_eq_true rfl) ⟨Nat.le_of_ble_eq_true rfl, Nat.le_of_ble_eq_true rfl, Nat.le_of_ble_eq_true rfl, Nat.le_of_ble_eq_true rfl⟩ dX13_query_66 (fun _ μ40 => ?_)
      refine g_st (st' := []) rfl ?_
      refine s_aload_n C dX13_query_69 rfl 0 rfl ?_
      refine s_callV C R0 (kX13_advance (xl X) fu n0 g0) (Nat.le_trans (by decide) V) mmX13_advance miX13_advance q2692 (rc26 (Nat.le_trans (by decide) V)) g0 rfl rfl rfl (Nat.le_of_ble_eq_true rfl) ⟨Nat.le_of_ble_eq_true rfl, Nat.le_of_ble_eq_true rfl, Nat.le_of_ble_eq_true rfl, Nat.le_of_ble_eq_true rfl⟩ dX13_query_70 (fun _ μ41 => ?_)
      refine g_st (st' := []) rfl ?_
      refine s_aload_n C dX13_query_73 rfl 0 rfl ?_
      refine s_callV C R0 ((kgX13c fu 30 (xl X)).1 n0 g0) (Nat.le_trans (by decide) V) mmX13_compileTest miX13_compileTest q2844 (rc26 (Nat.le_trans (by decide) V)) g0 rfl rfl rfl (Nat.le_of_ble_eq_true rfl) ⟨Nat.le_of_ble_eq_true rfl, Nat.le_of_ble_eq_true rfl, Nat.le_of_ble_eq_true rfl, Nat.le_of_ble_eq_true rfl⟩ dX13_query_74 (fun _ μ42 => ?_)
      refine g_st (st' := []) rfl ?_
      refine s_aload_n C dX13_query_77 rfl 0 rfl ?_
      refine s_aload_n C dX13_query_78 rfl 0 rfl ?_
      refine s_getI C (fgX13_490_26 (Nat.le_trans (by decide) V)) g0 dX13_query_79 ?_
      refine s_if_ne (tgt := 92) C dX13_query_82 (by decide) (fun c43 => ?_) (fun c43 => ?_)
      ·
        exact g_sub [0, 1] rfl (hj92 μ42 n0 g0)
      ·
        refine s_aload_n C dX13_query_85 rfl 0 rfl ?_
        refine s_getI C (fgX13_481_26 (Nat.le_trans (by decide) V)) g0 dX13_query_86 ?_
        refine s_if_ne (tgt := 96) C dX13_query_89 (by decide) (fun c44 => ?_) (fun c44 => ?_)
        ·
          refine s_iconst (v := (0 : Int32)) C dX13_query_96 (by decide) ?_
          exact g_sub [0, 1] rfl (hj97 μ42 n0 (0 : Int32) g0)
        ·
          exact g_sub [0, 1] rfl (hj92 μ42 n0 g0)
    refine g_jn (P := fun j60 => ∀ (μ45 : Mem) (x46 : Int32) (a47 : Nat), a47 < 1 → G X r0 0 0 μ45 60 [(0, .ref (xa X 26 n0)), (2, .int x46)] [.ref (xa X 26 a47)] (j60 μ45 x46 a47)) ?_ (fun j60 hj60 => ?_)
    · intro μ45 x46 a47 b48
      refine s_iconst (v := (1 : Int32)) C dX13_query_60 (by decide) ?_
      refine s_goto (tgt := 65) C dX13_query_61 (by decide) ?_
      exact g_sub [0, 1] rfl (hj65 μ45 x46 a47 (1 : Int32) b48)
    refine s_aload_n C dX13_query_29 rfl 0 rfl ?_
    refine s_iconst (v := (0 : Int32)) C dX13_query_30 (by decide) ?_
    refine s_putI C (fpX13_651_26 (Nat.le_trans (by decide) V)) g0 dX13_query_31 ?_
    refine g_nmM (fun μ49 => ?_)
    refine s_aload_n C dX13_query_34 rfl 0 rfl ?_
    refine s_iload_n C dX13_query_35 rfl 1 rfl ?_
    refine s_callV C R0 (kX13_startText (xl X) fu n0 g0 p1) (Nat.le_trans (by decide) V) mmX13_startText miX13_startText q2642 (rc26 (Nat.le_trans (by decide) V)) g0 rfl rfl rfl (Nat.le_of_ble_eq_true rfl) ⟨Nat.le_of_ble_eq_true rfl, Nat.le_of_ble_eq_true rfl, Nat.le_of_ble_eq_true rfl, Nat.le_of_ble_eq_true rfl⟩ dX13_query_36 (fun _ μ50 => ?_)
    refine g_st (st' := []) rfl ?_
    refine s_aload_n C dX13_query_39 rfl 0 rfl ?_
    refine s_ldcs (i := 55) C (List.mem_of_getElem? (i := 55) rfl) dX13_query_40 ?_
    refine s_callV C R0 (kX13_isWord (xl X) fu n0 g0 55 (by decide)) (Nat.le_trans (by decide) V) mmX13_isWord miX13_isWord q2670 (rc26 (Nat.le_trans (by decide) V)) g0 rfl rfl rfl (Nat.le_of_ble_eq_true rfl) ⟨Nat.le_of_ble_eq_true rfl, Nat.le_of_ble_eq_true rfl, Nat.le_of_ble_eq_true rfl, Nat.le_of_ble_eq_true rfl⟩ dX13_query_42 (fun x52 μ51 => ?_)
    refine g_st (st' := [.int x52]) rfl ?_
    refine s_istore_n (L' := [(2, .int x52), (0, .ref (xa X 26 n0)), (1, .int p1)]) C dX13_query_45 rfl (hN 2 (by decide)) rfl ?_
    refine s_aload_n C dX13_query_46 rfl 1 rfl ?_
    refine s_iload_n C dX13_query_47 rfl 0 rfl ?_
    refine s_if_ne (tgt := 60) C dX13_query_48 (by decide) (fun c53 => ?_) (fun c53 => ?_)
    ·
      exact g_sub [1, 0] rfl (hj60 μ51 x52 n0 g0)
    ·
      refine s_aload_n C dX13_query_51 rfl 1 rfl ?_
      refine s_ldcs (i := 54) C (List.mem_of_getElem? (i := 54) rfl) dX13_query_52 ?_
      refine s_callV C R0 (kX13_isWord (xl X) fu n0 g0 54 (by decide)) (Nat.le_trans (by decide) V) mmX13_isWord miX13_isWord q2670 (rc26 (Nat.le_trans (by decide) V)) g0 rfl rfl rfl (Nat.le_of_ble_eq_true rfl) ⟨Nat.le_of_ble_eq_true rfl, Nat.le_of_ble_eq_true rfl, Nat.le_of_ble_eq_true rfl, Nat.le_of_ble_eq_true rfl⟩ dX13_query_54 (fun x55 μ54 => ?_)
      refine g_st (st' := [.int x55, .ref (xa X 26 n0)]) rfl ?_
      refine s_if_eq (tgt := 64) C dX13_query_57 (by decide) (fun c56 => ?_) (fun c56 => ?_)
      ·
        refine s_iconst (v := (0 : Int32)) C dX13_query_64 (by decide) ?_
        exact g_sub [1, 0] rfl (hj65 μ54 x52 n0 (0 : Int32) g0)
      ·
        exact g_sub [1, 0] rfl (hj60 μ54 x52 n0 g0)
  ·
    refine s_aload_n C dX13_query_23 rfl 0 rfl ?_
    refine s_iconst (v := (1 : Int32)) C dX13_query_24 (by decide) ?_
    refine s_callV C R0 (kX13_raise (xl X) n0 g0 (1 : Int32)) (Nat.le_trans (by decide) V) mmX13_raise miX13_raise q2259 (rc26 (Nat.le_trans (by decide) V)) g0 rfl rfl rfl (Nat.le_of_ble_eq_true rfl) ⟨Nat.le_of_ble_eq_true rfl, Nat.le_of_ble_eq_true rfl, Nat.le_of_ble_eq_true rfl, Nat.le_of_ble_eq_true rfl⟩ dX13_query_25 (fun x58 μ57 => ?_)
    refine g_st (st' := [.int x58]) rfl ?_
    exact s_iret C E dX13_query_28
