/-! the law's cases -/
def lcs_11 (fu gu : Nat) (xs : Nat → Int32) (SL : Nat) (i : Int32) (μ : Mem) : Option Mem :=
  bnd (fX12_portOwner 0 μ) fun x2 μ1 =>
  bndJ μ1 (fX13_portOwner 0 (kJ μ μ1)) fun x4 μ3 =>
  if x2 = x4 then (
    some μ3
  ) else (
    none
  )
set_option maxHeartbeats 4000000 in
set_option maxRecDepth 100000 in
theorem lcz_11 {X : CX} (hT : (xl X).stackTraces = false) (V : 2 ≤ xv X) (C : Ok X RL cL_law) (R0 : Rm X 2048 84000 601024 7293034) (hN : ∀ i : Nat, i < 8 → i < xn X) {bs SL : Nat} {xs : Nat → Int32} (S : Scr X bs SL xs) (fu gu : Nat) {ca sl : Nat} (hc : ca + 0 ≤ 601024) (hs : sl + 0 ≤ 7293034) (i : Int32) (μ r0 : Mem) (H0 : J X (ca + 0) (sl + 0) r0 2636 [(4, .int i), (0, .ref bs), (1, .ref (xa X 0 0)), (2, .ref (xa X 26 0)), (3, .ref (xa X 31 0))] []) : G X r0 ca sl μ 704 [(4, .int i), (0, .ref bs), (1, .ref (xa X 0 0)), (2, .ref (xa X 26 0)), (3, .ref (xa X 31 0))] [] (lcs_11 fu gu xs SL i μ) := by
  unfold lcs_11
  refine s_aload_n C dL_law_704 rfl 2 rfl ?_
  refine s_callV C R0 (kX12_portOwner (xl X) 0 (by decide)) (Nat.le_trans (by decide) V) mmX12_portOwner miX12_portOwner q819 (rc0 _) (by decide) rfl rfl rfl (Nat.le_of_ble_eq_true rfl) ⟨Nat.le_of_ble_eq_true rfl, Nat.le_of_ble_eq_true rfl, by omega, by omega⟩ dL_law_705 (fun x2 μ1 => ?_)
  refine g_st (st' := [.int x2]) rfl ?_
  refine s_aload_n C dL_law_708 rfl 3 rfl ?_
  refine s_callM C R0 V (kX13_portOwner (xl X) 0 (by decide)) mmX13_portOwner miX13_portOwner q2291 (rc26 (Nat.le_trans (by decide) V)) (by decide) rfl rfl rfl (Nat.le_of_ble_eq_true rfl) ⟨Nat.le_of_ble_eq_true rfl, Nat.le_of_ble_eq_true rfl, by omega, by omega⟩ dL_law_709 (fun x4 μ3 => ?_)
  refine g_st (st' := [.int x4, .int x2]) rfl ?_
  refine s_icmp_eq (tgt := 2636) C dL_law_712 (by decide) (fun c5 => ?_) (fun c5 => ?_)
  ·
    exact g_endL (ca1 := ca + 0) (sl1 := sl + 0) (by omega) (by omega) [0, 1, 2, 3, 4] rfl H0
  ·
    refine s_iconst (v := (0 : Int32)) C dL_law_715 (by decide) ?_
    exact g_none

def lcs_12 (fu gu : Nat) (xs : Nat → Int32) (SL : Nat) (i : Int32) (μ : Mem) : Option Mem :=
  ckI (i + (1 : Int32)) SL <|
  bnd (fL_pc 0 (xs (i + (1 : Int32)).toNatClampNeg) 0 μ) fun x2 μ1 =>
  ckI (i + (1 : Int32)) SL <|
  bndJ μ1 (fX13_pc 0 (xs (i + (1 : Int32)).toNatClampNeg) (kJ μ μ1)) fun x4 μ3 =>
  bndJ μ3 (fX13_thrown 0 (kJ μ μ3)) fun x6 μ5 =>
  if x6 = x2 then (
    jn (fun (μ8 : Mem) =>
      some μ8
    ) fun j770 =>
    if ¬ x2 = 0 then (
      j770 μ5
    ) else (
      ckI (0 : Int32) (1) <|
      if (lg_cmp (μ5.2.2 31 0 (0 : Int32).toNatClampNeg) (x4.toInt64)) = 0 then (
        j770 μ5
      ) else (
        none
      )
    )
  ) else (
    none
  )
set_option maxHeartbeats 4000000 in
set_option maxRecDepth 100000 in
theorem lcz_12 {X : CX} (hT : (xl X).stackTraces = false) (V : 2 ≤ xv X) (C : Ok X RL cL_law) (R0 : Rm X 2048 84000 601024 7293034) (hN : ∀ i : Nat, i < 8 → i < xn X) {bs SL : Nat} {xs : Nat → Int32} (S : Scr X bs SL xs) (fu gu : Nat) {ca sl : Nat} (hc : ca + 1 ≤ 601024) (hs : sl + 6 ≤ 7293034) (i : Int32) (μ r0 : Mem) (H0 : J X (ca + 1) (sl + 6) r0 2636 [(4, .int i), (0, .ref bs), (1, .ref (xa X 0 0)), (2, .ref (xa X 26 0)), (3, .ref (xa X 31 0))] []) : G X r0 ca sl μ 717 [(4, .int i), (0, .ref bs), (1, .ref (xa X 0 0)), (2, .ref (xa X 26 0)), (3, .ref (xa X 31 0))] [] (lcs_12 fu gu xs SL i μ) := by
  unfold lcs_12
  refine s_aload_n C dL_law_717 rfl 2 rfl ?_
  refine s_aload_n C dL_law_718 rfl 1 rfl ?_
  refine s_iload C dL_law_719 0 rfl ?_
  refine s_iconst (v := (1 : Int32)) C dL_law_721 (by decide) ?_
  refine s_iadd C dL_law_722 ?_
  refine s_sld C S dL_law_723 ?_
  refine s_aload_n C dL_law_724 rfl 4 rfl ?_
  refine s_callH (n := 3) C R0 (kL_pc (xl X) hT 0 (by decide) (xs (i + (1 : Int32)).toNatClampNeg) 0 (by decide)) (Nat.le_trans (by decide) V) q154 q1269 ⟨by decide +kernel, by decide +kernel, by decide +kernel⟩ q1268 q1267 rfl rfl rfl (Nat.le_of_ble_eq_true rfl) ⟨Nat.le_of_ble_eq_true rfl, Nat.le_of_ble_eq_true rfl, by omega, by omega⟩ dL_law_725 (fun x2 μ1 => ?_)
  refine g_st (st' := [.int x2]) rfl ?_
  refine s_istore (L' := [(5, .int x2), (4, .int i), (0, .ref bs), (1, .ref (xa X 0 0)), (2, .ref (xa X 26 0)), (3, .ref (xa X 31 0))]) C dL_law_728 (hN 5 (by decide)) rfl ?_
  refine s_aload_n C dL_law_730 rfl 4 rfl ?_
  refine s_aload_n C dL_law_731 rfl 2 rfl ?_
  refine s_iload C dL_law_732 1 rfl ?_
  refine s_iconst (v := (1 : Int32)) C dL_law_734 (by decide) ?_
  refine s_iadd C dL_law_735 ?_
  refine s_sld C S dL_law_736 ?_
  refine s_callM C R0 V (kX13_pc (xl X) 0 (by decide) (xs (i + (1 : Int32)).toNatClampNeg)) mmX13_pc miX13_pc q2295 (rc26 (Nat.le_trans (by decide) V)) (by decide) rfl rfl rfl (Nat.le_of_ble_eq_true rfl) ⟨Nat.le_of_ble_eq_true rfl, Nat.le_of_ble_eq_true rfl, by omega, by omega⟩ dL_law_737 (fun x4 μ3 => ?_)
  refine g_st (st' := [.int x4]) rfl ?_
  refine s_istore (L' := [(6, .int x4), (5, .int x2), (4, .int i), (0, .ref bs), (1, .ref (xa X 0 0)), (2, .ref (xa X 26 0)), (3, .ref (xa X 31 0))]) C dL_law_740 (hN 6 (by decide)) rfl ?_
  refine s_aload_n C dL_law_742 rfl 5 rfl ?_
  refine s_callM C R0 V (kX13_thrown (xl X) 0 (by decide)) mmX13_thrown miX13_thrown q2229 (rc26 (Nat.le_trans (by decide) V)) (by decide) rfl rfl rfl (Nat.le_of_ble_eq_true rfl) ⟨Nat.le_of_ble_eq_true rfl, Nat.le_of_ble_eq_true rfl, by omega, by omega⟩ dL_law_743 (fun x6 μ5 => ?_)
  refine g_st (st' := [.int x6]) rfl ?_
  refine s_iload C dL_law_746 1 rfl ?_
  refine s_icmp_eq (tgt := 753) C dL_law_748 (by decide) (fun c7 => ?_) (fun c7 => ?_)
  ·
    refine g_jn (P := fun j770 => ∀ (μ8 : Mem), G X r0 (ca + 1) (sl + 6) μ8 770 [(0, .ref bs), (1, .ref (xa X 0 0)), (2, .ref (xa X 26 0)), (3, .ref (xa X 31 0)), (4, .int i)] [] (j770 μ8)) ?_ (fun j770 hj770 => ?_)
    · intro μ8
      refine s_goto (tgt := 2636) C dL_law_770 (by decide) ?_
      exact g_endL (ca1 := ca + 1) (sl1 := sl + 6) (by omega) (by omega) [4, 0, 1, 2, 3] rfl H0
    refine s_iload C dL_law_753 1 rfl ?_
    refine s_if_ne (tgt := 770) C dL_law_755 (by decide) (fun c9 => ?_) (fun c9 => ?_)
    ·
      exact g_wid (ca1 := ca + 1) (sl1 := sl + 6) (by omega) (by omega) <| g_sub [3, 4, 5, 6, 2] rfl (hj770 μ5)
    ·
      refine s_aload_n C dL_law_758 rfl 6 rfl ?_
      refine s_iconst (v := (0 : Int32)) C dL_law_759 (by decide) ?_
      refine s_lald C (ag31 V) (by decide) dL_law_760 ?_
      refine s_iload C dL_law_761 0 rfl ?_
      refine s_i2l C dL_law_763 ?_
      refine s_lcmp C dL_law_764 ?_
      refine s_if_eq (tgt := 770) C dL_law_765 (by decide) (fun c10 => ?_) (fun c10 => ?_)
      ·
        exact g_wid (ca1 := ca + 1) (sl1 := sl + 6) (by omega) (by omega) <| g_sub [3, 4, 5, 6, 2] rfl (hj770 μ5)
      ·
        refine s_iconst (v := (0 : Int32)) C dL_law_768 (by decide) ?_
        exact g_none
  ·
    refine s_iconst (v := (0 : Int32)) C dL_law_751 (by decide) ?_
    exact g_none

def lcs_13 (fu gu : Nat) (xs : Nat → Int32) (SL : Nat) (i : Int32) (μ : Mem) : Option Mem :=
  ckI (i + (1 : Int32)) SL <|
  ckI (i + (2 : Int32)) SL <|
  bnd (fL_register 0 (xs (i + (1 : Int32)).toNatClampNeg) (xs (i + (2 : Int32)).toNatClampNeg) 0 μ) fun x2 μ1 =>
  ckI (i + (1 : Int32)) SL <|
  ckI (i + (2 : Int32)) SL <|
  bndJ μ1 (fX13_register 0 (xs (i + (1 : Int32)).toNatClampNeg) (xs (i + (2 : Int32)).toNatClampNeg) (kJ μ μ1)) fun x4 μ3 =>
  bndJ μ3 (fX13_thrown 0 (kJ μ μ3)) fun x6 μ5 =>
  if x6 = x2 then (
    jn (fun (μ8 : Mem) =>
      some μ8
    ) fun j838 =>
    if ¬ x2 = 0 then (
      j838 μ5
    ) else (
      ckI (0 : Int32) (1) <|
      if (lg_cmp (μ5.2.2 31 0 (0 : Int32).toNatClampNeg) (x4.toInt64)) = 0 then (
        j838 μ5
      ) else (
        none
      )
    )
  ) else (
    none
  )
set_option maxHeartbeats 4000000 in
set_option maxRecDepth 100000 in
theorem lcz_13 {X : CX} (hT : (xl X).stackTraces = false) (V : 2 ≤ xv X) (C : Ok X RL cL_law) (R0 : Rm X 2048 84000 601024 7293034) (hN : ∀ i : Nat, i < 8 → i < xn X) {bs SL : Nat} {xs : Nat → Int32} (S : Scr X bs SL xs) (fu gu : Nat) {ca sl : Nat} (hc : ca + 2 ≤ 601024) (hs : sl + 12 ≤ 7293034) (i : Int32) (μ r0 : Mem) (H0 : J X (ca + 2) (sl + 12) r0 2636 [(4, .int i), (0, .ref bs), (1, .ref (xa X 0 0)), (2, .ref (xa X 26 0)), (3, .ref (xa X 31 0))] []) : G X r0 ca sl μ 773 [(4, .int i), (0, .ref bs), (1, .ref (xa X 0 0)), (2, .ref (xa X 26 0)), (3, .ref (xa X 31 0))] [] (lcs_13 fu gu xs SL i μ) := by
  unfold lcs_13
  refine s_aload_n C dL_law_773 rfl 2 rfl ?_
  refine s_aload_n C dL_law_774 rfl 1 rfl ?_
  refine s_iload C dL_law_775 0 rfl ?_
  refine s_iconst (v := (1 : Int32)) C dL_law_777 (by decide) ?_
  refine s_iadd C dL_law_778 ?_
  refine s_sld C S dL_law_779 ?_
  refine s_aload_n C dL_law_780 rfl 1 rfl ?_
  refine s_iload C dL_law_781 0 rfl ?_
  refine s_iconst (v := (2 : Int32)) C dL_law_783 (by decide) ?_
  refine s_iadd C dL_law_784 ?_
  refine s_sld C S dL_law_785 ?_
  refine s_aload_n C dL_law_786 rfl 4 rfl ?_
  refine s_callH (n := 4) C R0 (kL_register (xl X) hT 0 (by decide) (xs (i + (1 : Int32)).toNatClampNeg) (xs (i + (2 : Int32)).toNatClampNeg) 0 (by decide)) (Nat.le_trans (by decide) V) q154 q1281 ⟨by decide +kernel, by decide +kernel, by decide +kernel⟩ q1280 q1279 rfl rfl rfl (Nat.le_of_ble_eq_true rfl) ⟨Nat.le_of_ble_eq_true rfl, Nat.le_of_ble_eq_true rfl, by omega, by omega⟩ dL_law_787 (fun x2 μ1 => ?_)
  refine g_st (st' := [.int x2]) rfl ?_
  refine s_istore (L' := [(5, .int x2), (4, .int i), (0, .ref bs), (1, .ref (xa X 0 0)), (2, .ref (xa X 26 0)), (3, .ref (xa X 31 0))]) C dL_law_790 (hN 5 (by decide)) rfl ?_
  refine s_aload_n C dL_law_792 rfl 4 rfl ?_
  refine s_aload_n C dL_law_793 rfl 2 rfl ?_
  refine s_iload C dL_law_794 1 rfl ?_
  refine s_iconst (v := (1 : Int32)) C dL_law_796 (by decide) ?_
  refine s_iadd C dL_law_797 ?_
  refine s_sld C S dL_law_798 ?_
  refine s_aload_n C dL_law_799 rfl 2 rfl ?_
  refine s_iload C dL_law_800 1 rfl ?_
  refine s_iconst (v := (2 : Int32)) C dL_law_802 (by decide) ?_
  refine s_iadd C dL_law_803 ?_
  refine s_sld C S dL_law_804 ?_
  refine s_callM C R0 V (kX13_register (xl X) 0 (by decide) (xs (i + (1 : Int32)).toNatClampNeg) (xs (i + (2 : Int32)).toNatClampNeg)) mmX13_register miX13_register q2311 (rc26 (Nat.le_trans (by decide) V)) (by decide) rfl rfl rfl (Nat.le_of_ble_eq_true rfl) ⟨Nat.le_of_ble_eq_true rfl, Nat.le_of_ble_eq_true rfl, by omega, by omega⟩ dL_law_805 (fun x4 μ3 => ?_)
  refine g_st (st' := [.int x4]) rfl ?_
  refine s_istore (L' := [(6, .int x4), (5, .int x2), (4, .int i), (0, .ref bs), (1, .ref (xa X 0 0)), (2, .ref (xa X 26 0)), (3, .ref (xa X 31 0))]) C dL_law_808 (hN 6 (by decide)) rfl ?_
  refine s_aload_n C dL_law_810 rfl 5 rfl ?_
  refine s_callM C R0 V (kX13_thrown (xl X) 0 (by decide)) mmX13_thrown miX13_thrown q2229 (rc26 (Nat.le_trans (by decide) V)) (by decide) rfl rfl rfl (Nat.le_of_ble_eq_true rfl) ⟨Nat.le_of_ble_eq_true rfl, Nat.le_of_ble_eq_true rfl, by omega, by omega⟩ dL_law_811 (fun x6 μ5 => ?_)
  refine g_st (st' := [.int x6]) rfl ?_
  refine s_iload C dL_law_814 1 rfl ?_
  refine s_icmp_eq (tgt := 821) C dL_law_816 (by decide) (fun c7 => ?_) (fun c7 => ?_)
  ·
    refine g_jn (P := fun j838 => ∀ (μ8 : Mem), G X r0 (ca + 2) (sl + 12) μ8 838 [(0, .ref bs), (1, .ref (xa X 0 0)), (2, .ref (xa X 26 0)), (3, .ref (xa X 31 0)), (4, .int i)] [] (j838 μ8)) ?_ (fun j838 hj838 => ?_)
    · intro μ8
      refine s_goto (tgt := 2636) C dL_law_838 (by decide) ?_
      exact g_endL (ca1 := ca + 2) (sl1 := sl + 12) (by omega) (by omega) [4, 0, 1, 2, 3] rfl H0
    refine s_iload C dL_law_821 1 rfl ?_
    refine s_if_ne (tgt := 838) C dL_law_823 (by decide) (fun c9 => ?_) (fun c9 => ?_)
    ·
      exact g_wid (ca1 := ca + 2) (sl1 := sl + 12) (by omega) (by omega) <| g_sub [3, 4, 5, 6, 2] rfl (hj838 μ5)
    ·
      refine s_aload_n C dL_law_826 rfl 6 rfl ?_
      refine s_iconst (v := (0 : Int32)) C dL_law_827 (by decide) ?_
      refine s_lald C (ag31 V) (by decide) dL_law_828 ?_
      refine s_iload C dL_law_829 0 rfl ?_
      refine s_i2l C dL_law_831 ?_
      refine s_lcmp C dL_law_832 ?_
      refine s_if_eq (tgt := 838) C dL_law_833 (by decide) (fun c10 => ?_) (fun c10 => ?_)
      ·
        exact g_wid (ca1 := ca + 2) (sl1 := sl + 12) (by omega) (by omega) <| g_sub [3, 4, 5, 6, 2] rfl (hj838 μ5)
      ·
        refine s_iconst (v := (0 : Int32)) C dL_law_836 (by decide) ?_
        exact g_none
  ·
    refine s_iconst (v := (0 : Int32)) C dL_law_819 (by decide) ?_
    exact g_none

def lcs_14 (fu gu : Nat) (xs : Nat → Int32) (SL : Nat) (i : Int32) (μ : Mem) : Option Mem :=
  ckI (i + (1 : Int32)) SL <|
  bnd (fL_fill 0 (xs (i + (1 : Int32)).toNatClampNeg) 0 μ) fun x2 μ1 =>
  ckI (i + (1 : Int32)) SL <|
  bndJ μ1 (fX13_fill 0 (xs (i + (1 : Int32)).toNatClampNeg) (kJ μ μ1)) fun x4 μ3 =>
  bndJ μ3 (fX13_thrown 0 (kJ μ μ3)) fun x6 μ5 =>
  if x6 = x2 then (
    jn (fun (μ8 : Mem) =>
      some μ8
    ) fun j894 =>
    if ¬ x2 = 0 then (
      j894 μ5
    ) else (
      ckI (0 : Int32) (1) <|
      if (lg_cmp (μ5.2.2 31 0 (0 : Int32).toNatClampNeg) (x4.toInt64)) = 0 then (
        j894 μ5
      ) else (
        none
      )
    )
  ) else (
    none
  )
set_option maxHeartbeats 4000000 in
set_option maxRecDepth 100000 in
theorem lcz_14 {X : CX} (hT : (xl X).stackTraces = false) (V : 2 ≤ xv X) (C : Ok X RL cL_law) (R0 : Rm X 2048 84000 601024 7293034) (hN : ∀ i : Nat, i < 8 → i < xn X) {bs SL : Nat} {xs : Nat → Int32} (S : Scr X bs SL xs) (fu gu : Nat) {ca sl : Nat} (hc : ca + 1 ≤ 601024) (hs : sl + 6 ≤ 7293034) (i : Int32) (μ r0 : Mem) (H0 : J X (ca + 1) (sl + 6) r0 2636 [(4, .int i), (0, .ref bs), (1, .ref (xa X 0 0)), (2, .ref (xa X 26 0)), (3, .ref (xa X 31 0))] []) : G X r0 ca sl μ 841 [(4, .int i), (0, .ref bs), (1, .ref (xa X 0 0)), (2, .ref (xa X 26 0)), (3, .ref (xa X 31 0))] [] (lcs_14 fu gu xs SL i μ) := by
  unfold lcs_14
  refine s_aload_n C dL_law_841 rfl 2 rfl ?_
  refine s_aload_n C dL_law_842 rfl 1 rfl ?_
  refine s_iload C dL_law_843 0 rfl ?_
  refine s_iconst (v := (1 : Int32)) C dL_law_845 (by decide) ?_
  refine s_iadd C dL_law_846 ?_
  refine s_sld C S dL_law_847 ?_
  refine s_aload_n C dL_law_848 rfl 4 rfl ?_
  refine s_callH (n := 3) C R0 (kL_fill (xl X) hT 0 (by decide) (xs (i + (1 : Int32)).toNatClampNeg) 0 (by decide)) (Nat.le_trans (by decide) V) q154 q1288 ⟨by decide +kernel, by decide +kernel, by decide +kernel⟩ q1287 q1286 rfl rfl rfl (Nat.le_of_ble_eq_true rfl) ⟨Nat.le_of_ble_eq_true rfl, Nat.le_of_ble_eq_true rfl, by omega, by omega⟩ dL_law_849 (fun x2 μ1 => ?_)
  refine g_st (st' := [.int x2]) rfl ?_
  refine s_istore (L' := [(5, .int x2), (4, .int i), (0, .ref bs), (1, .ref (xa X 0 0)), (2, .ref (xa X 26 0)), (3, .ref (xa X 31 0))]) C dL_law_852 (hN 5 (by decide)) rfl ?_
  refine s_aload_n C dL_law_854 rfl 4 rfl ?_
  refine s_aload_n C dL_law_855 rfl 2 rfl ?_
  refine s_iload C dL_law_856 1 rfl ?_
  refine s_iconst (v := (1 : Int32)) C dL_law_858 (by decide) ?_
  refine s_iadd C dL_law_859 ?_
  refine s_sld C S dL_law_860 ?_
  refine s_callM C R0 V (kX13_fill (xl X) 0 (by decide) (xs (i + (1 : Int32)).toNatClampNeg)) mmX13_fill miX13_fill q2315 (rc26 (Nat.le_trans (by decide) V)) (by decide) rfl rfl rfl (Nat.le_of_ble_eq_true rfl) ⟨Nat.le_of_ble_eq_true rfl, Nat.le_of_ble_eq_true rfl, by omega, by omega⟩ dL_law_861 (fun x4 μ3 => ?_)
  refine g_st (st' := [.int x4]) rfl ?_
  refine s_istore (L' := [(6, .int x4), (5, .int x2), (4, .int i), (0, .ref bs), (1, .ref (xa X 0 0)), (2, .ref (xa X 26 0)), (3, .ref (xa X 31 0))]) C dL_law_864 (hN 6 (by decide)) rfl ?_
  refine s_aload_n C dL_law_866 rfl 5 rfl ?_
  refine s_callM C R0 V (kX13_thrown (xl X) 0 (by decide)) mmX13_thrown miX13_thrown q2229 (rc26 (Nat.le_trans (by decide) V)) (by decide) rfl rfl rfl (Nat.le_of_ble_eq_true rfl) ⟨Nat.le_of_ble_eq_true rfl, Nat.le_of_ble_eq_true rfl, by omega, by omega⟩ dL_law_867 (fun x6 μ5 => ?_)
  refine g_st (st' := [.int x6]) rfl ?_
  refine s_iload C dL_law_870 1 rfl ?_
  refine s_icmp_eq (tgt := 877) C dL_law_872 (by decide) (fun c7 => ?_) (fun c7 => ?_)
  ·
    refine g_jn (P := fun j894 => ∀ (μ8 : Mem), G X r0 (ca + 1) (sl + 6) μ8 894 [(0, .ref bs), (1, .ref (xa X 0 0)), (2, .ref (xa X 26 0)), (3, .ref (xa X 31 0)), (4, .int i)] [] (j894 μ8)) ?_ (fun j894 hj894 => ?_)
    · intro μ8
      refine s_goto (tgt := 2636) C dL_law_894 (by decide) ?_
      exact g_endL (ca1 := ca + 1) (sl1 := sl + 6) (by omega) (by omega) [4, 0, 1, 2, 3] rfl H0
    refine s_iload C dL_law_877 1 rfl ?_
    refine s_if_ne (tgt := 894) C dL_law_879 (by decide) (fun c9 => ?_) (fun c9 => ?_)
    ·
      exact g_wid (ca1 := ca + 1) (sl1 := sl + 6) (by omega) (by omega) <| g_sub [3, 4, 5, 6, 2] rfl (hj894 μ5)
    ·
      refine s_aload_n C dL_law_882 rfl 6 rfl ?_
      refine s_iconst (v := (0 : Int32)) C dL_law_883 (by decide) ?_
      refine s_lald C (ag31 V) (by decide) dL_law_884 ?_
      refine s_iload C dL_law_885 0 rfl ?_
      refine s_i2l C dL_law_887 ?_
      refine s_lcmp C dL_law_888 ?_
      refine s_if_eq (tgt := 894) C dL_law_889 (by decide) (fun c10 => ?_) (fun c10 => ?_)
      ·
        exact g_wid (ca1 := ca + 1) (sl1 := sl + 6) (by omega) (by omega) <| g_sub [3, 4, 5, 6, 2] rfl (hj894 μ5)
      ·
        refine s_iconst (v := (0 : Int32)) C dL_law_892 (by decide) ?_
        exact g_none
  ·
    refine s_iconst (v := (0 : Int32)) C dL_law_875 (by decide) ?_
    exact g_none

def lcs_15 (fu gu : Nat) (xs : Nat → Int32) (SL : Nat) (i : Int32) (μ : Mem) : Option Mem :=
  ckI (i + (1 : Int32)) SL <|
  bnd (fL_spent 0 (xs (i + (1 : Int32)).toNatClampNeg) 0 μ) fun x2 μ1 =>
  ckI (i + (1 : Int32)) SL <|
  bndJ μ1 (fX13_spent 0 (xs (i + (1 : Int32)).toNatClampNeg) (kJ μ μ1)) fun x4 μ3 =>
  bndJ μ3 (fX13_thrown 0 (kJ μ μ3)) fun x6 μ5 =>
  if x6 = x2 then (
    jn (fun (μ8 : Mem) =>
      some μ8
    ) fun j950 =>
    if ¬ x2 = 0 then (
      j950 μ5
    ) else (
      ckI (0 : Int32) (1) <|
      if (lg_cmp (μ5.2.2 31 0 (0 : Int32).toNatClampNeg) (x4.toInt64)) = 0 then (
        j950 μ5
      ) else (
        none
      )
    )
  ) else (
    none
  )
set_option maxHeartbeats 4000000 in
set_option maxRecDepth 100000 in
theorem lcz_15 {X : CX} (hT : (xl X).stackTraces = false) (V : 2 ≤ xv X) (C : Ok X RL cL_law) (R0 : Rm X 2048 84000 601024 7293034) (hN : ∀ i : Nat, i < 8 → i < xn X) {bs SL : Nat} {xs : Nat → Int32} (S : Scr X bs SL xs) (fu gu : Nat) {ca sl : Nat} (hc : ca + 1 ≤ 601024) (hs : sl + 6 ≤ 7293034) (i : Int32) (μ r0 : Mem) (H0 : J X (ca + 1) (sl + 6) r0 2636 [(4, .int i), (0, .ref bs), (1, .ref (xa X 0 0)), (2, .ref (xa X 26 0)), (3, .ref (xa X 31 0))] []) : G X r0 ca sl μ 897 [(4, .int i), (0, .ref bs), (1, .ref (xa X 0 0)), (2, .ref (xa X 26 0)), (3, .ref (xa X 31 0))] [] (lcs_15 fu gu xs SL i μ) := by
  unfold lcs_15
  refine s_aload_n C dL_law_897 rfl 2 rfl ?_
  refine s_aload_n C dL_law_898 rfl 1 rfl ?_
  refine s_iload C dL_law_899 0 rfl ?_
  refine s_iconst (v := (1 : Int32)) C dL_law_901 (by decide) ?_
  refine s_iadd C dL_law_902 ?_
  refine s_sld C S dL_law_903 ?_
  refine s_aload_n C dL_law_904 rfl 4 rfl ?_
  refine s_callH (n := 3) C R0 (kL_spent (xl X) hT 0 (by decide) (xs (i + (1 : Int32)).toNatClampNeg) 0 (by decide)) (Nat.le_trans (by decide) V) q154 q1295 ⟨by decide +kernel, by decide +kernel, by decide +kernel⟩ q1294 q1293 rfl rfl rfl (Nat.le_of_ble_eq_true rfl) ⟨Nat.le_of_ble_eq_true rfl, Nat.le_of_ble_eq_true rfl, by omega, by omega⟩ dL_law_905 (fun x2 μ1 => ?_)
  refine g_st (st' := [.int x2]) rfl ?_
  refine s_istore (L' := [(5, .int x2), (4, .int i), (0, .ref bs), (1, .ref (xa X 0 0)), (2, .ref (xa X 26 0)), (3, .ref (xa X 31 0))]) C dL_law_908 (hN 5 (by decide)) rfl ?_
  refine s_aload_n C dL_law_910 rfl 4 rfl ?_
  refine s_aload_n C dL_law_911 rfl 2 rfl ?_
  refine s_iload C dL_law_912 1 rfl ?_
  refine s_iconst (v := (1 : Int32)) C dL_law_914 (by decide) ?_
  refine s_iadd C dL_law_915 ?_
  refine s_sld C S dL_law_916 ?_
  refine s_callM C R0 V (kX13_spent (xl X) 0 (by decide) (xs (i + (1 : Int32)).toNatClampNeg)) mmX13_spent miX13_spent q2319 (rc26 (Nat.le_trans (by decide) V)) (by decide) rfl rfl rfl (Nat.le_of_ble_eq_true rfl) ⟨Nat.le_of_ble_eq_true rfl, Nat.le_of_ble_eq_true rfl, by omega, by omega⟩ dL_law_917 (fun x4 μ3 => ?_)
  refine g_st (st' := [.int x4]) rfl ?_
  refine s_istore (L' := [(6, .int x4), (5, .int x2), (4, .int i), (0, .ref bs), (1, .ref (xa X 0 0)), (2, .ref (xa X 26 0)), (3, .ref (xa X 31 0))]) C dL_law_920 (hN 6 (by decide)) rfl ?_
  refine s_aload_n C dL_law_922 rfl 5 rfl ?_
  refine s_callM C R0 V (kX13_thrown (xl X) 0 (by decide)) mmX13_thrown miX13_thrown q2229 (rc26 (Nat.le_trans (by decide) V)) (by decide) rfl rfl rfl (Nat.le_of_ble_eq_true rfl) ⟨Nat.le_of_ble_eq_true rfl, Nat.le_of_ble_eq_true rfl, by omega, by omega⟩ dL_law_923 (fun x6 μ5 => ?_)
  refine g_st (st' := [.int x6]) rfl ?_
  refine s_iload C dL_law_926 1 rfl ?_
  refine s_icmp_eq (tgt := 933) C dL_law_928 (by decide) (fun c7 => ?_) (fun c7 => ?_)
  ·
    refine g_jn (P := fun j950 => ∀ (μ8 : Mem), G X r0 (ca + 1) (sl + 6) μ8 950 [(0, .ref bs), (1, .ref (xa X 0 0)), (2, .ref (xa X 26 0)), (3, .ref (xa X 31 0)), (4, .int i)] [] (j950 μ8)) ?_ (fun j950 hj950 => ?_)
    · intro μ8
      refine s_goto (tgt := 2636) C dL_law_950 (by decide) ?_
      exact g_endL (ca1 := ca + 1) (sl1 := sl + 6) (by omega) (by omega) [4, 0, 1, 2, 3] rfl H0
    refine s_iload C dL_law_933 1 rfl ?_
    refine s_if_ne (tgt := 950) C dL_law_935 (by decide) (fun c9 => ?_) (fun c9 => ?_)
    ·
      exact g_wid (ca1 := ca + 1) (sl1 := sl + 6) (by omega) (by omega) <| g_sub [3, 4, 5, 6, 2] rfl (hj950 μ5)
    ·
      refine s_aload_n C dL_law_938 rfl 6 rfl ?_
      refine s_iconst (v := (0 : Int32)) C dL_law_939 (by decide) ?_
      refine s_lald C (ag31 V) (by decide) dL_law_940 ?_
      refine s_iload C dL_law_941 0 rfl ?_
      refine s_i2l C dL_law_943 ?_
      refine s_lcmp C dL_law_944 ?_
      refine s_if_eq (tgt := 950) C dL_law_945 (by decide) (fun c10 => ?_) (fun c10 => ?_)
      ·
        exact g_wid (ca1 := ca + 1) (sl1 := sl + 6) (by omega) (by omega) <| g_sub [3, 4, 5, 6, 2] rfl (hj950 μ5)
      ·
        refine s_iconst (v := (0 : Int32)) C dL_law_948 (by decide) ?_
        exact g_none
  ·
    refine s_iconst (v := (0 : Int32)) C dL_law_931 (by decide) ?_
    exact g_none

def lcs_16 (fu gu : Nat) (xs : Nat → Int32) (SL : Nat) (i : Int32) (μ : Mem) : Option Mem :=
  ckI (i + (1 : Int32)) SL <|
  bnd (fL_delayLeft 0 (xs (i + (1 : Int32)).toNatClampNeg) 0 μ) fun x2 μ1 =>
  ckI (i + (1 : Int32)) SL <|
  bndJ μ1 (fX13_delayLeft 0 (xs (i + (1 : Int32)).toNatClampNeg) (kJ μ μ1)) fun x4 μ3 =>
  bndJ μ3 (fX13_thrown 0 (kJ μ μ3)) fun x6 μ5 =>
  if x6 = x2 then (
    jn (fun (μ8 : Mem) =>
      some μ8
    ) fun j1006 =>
    if ¬ x2 = 0 then (
      j1006 μ5
    ) else (
      ckI (0 : Int32) (1) <|
      if (lg_cmp (μ5.2.2 31 0 (0 : Int32).toNatClampNeg) (x4.toInt64)) = 0 then (
        j1006 μ5
      ) else (
        none
      )
    )
  ) else (
    none
  )
set_option maxHeartbeats 4000000 in
set_option maxRecDepth 100000 in
theorem lcz_16 {X : CX} (hT : (xl X).stackTraces = false) (V : 2 ≤ xv X) (C : Ok X RL cL_law) (R0 : Rm X 2048 84000 601024 7293034) (hN : ∀ i : Nat, i < 8 → i < xn X) {bs SL : Nat} {xs : Nat → Int32} (S : Scr X bs SL xs) (fu gu : Nat) {ca sl : Nat} (hc : ca + 1 ≤ 601024) (hs : sl + 6 ≤ 7293034) (i : Int32) (μ r0 : Mem) (H0 : J X (ca + 1) (sl + 6) r0 2636 [(4, .int i), (0, .ref bs), (1, .ref (xa X 0 0)), (2, .ref (xa X 26 0)), (3, .ref (xa X 31 0))] []) : G X r0 ca sl μ 953 [(4, .int i), (0, .ref bs), (1, .ref (xa X 0 0)), (2, .ref (xa X 26 0)), (3, .ref (xa X 31 0))] [] (lcs_16 fu gu xs SL i μ) := by
  unfold lcs_16
  refine s_aload_n C dL_law_953 rfl 2 rfl ?_
  refine s_aload_n C dL_law_954 rfl 1 rfl ?_
  refine s_iload C dL_law_955 0 rfl ?_
  refine s_iconst (v := (1 : Int32)) C dL_law_957 (by decide) ?_
  refine s_iadd C dL_law_958 ?_
  refine s_sld C S dL_law_959 ?_
  refine s_aload_n C dL_law_960 rfl 4 rfl ?_
  refine s_callH (n := 3) C R0 (kL_delayLeft (xl X) hT 0 (by decide) (xs (i + (1 : Int32)).toNatClampNeg) 0 (by decide)) (Nat.le_trans (by decide) V) q154 q1302 ⟨by decide +kernel, by decide +kernel, by decide +kernel⟩ q1301 q1300 rfl rfl rfl (Nat.le_of_ble_eq_true rfl) ⟨Nat.le_of_ble_eq_true rfl, Nat.le_of_ble_eq_true rfl, by omega, by omega⟩ dL_law_961 (fun x2 μ1 => ?_)
  refine g_st (st' := [.int x2]) rfl ?_
  refine s_istore (L' := [(5, .int x2), (4, .int i), (0, .ref bs), (1, .ref (xa X 0 0)), (2, .ref (xa X 26 0)), (3, .ref (xa X 31 0))]) C dL_law_964 (hN 5 (by decide)) rfl ?_
  refine s_aload_n C dL_law_966 rfl 4 rfl ?_
  refine s_aload_n C dL_law_967 rfl 2 rfl ?_
  refine s_iload C dL_law_968 1 rfl ?_
  refine s_iconst (v := (1 : Int32)) C dL_law_970 (by decide) ?_
  refine s_iadd C dL_law_971 ?_
  refine s_sld C S dL_law_972 ?_
  refine s_callM C R0 V (kX13_delayLeft (xl X) 0 (by decide) (xs (i + (1 : Int32)).toNatClampNeg)) mmX13_delayLeft miX13_delayLeft q2323 (rc26 (Nat.le_trans (by decide) V)) (by decide) rfl rfl rfl (Nat.le_of_ble_eq_true rfl) ⟨Nat.le_of_ble_eq_true rfl, Nat.le_of_ble_eq_true rfl, by omega, by omega⟩ dL_law_973 (fun x4 μ3 => ?_)
  refine g_st (st' := [.int x4]) rfl ?_
  refine s_istore (L' := [(6, .int x4), (5, .int x2), (4, .int i), (0, .ref bs), (1, .ref (xa X 0 0)), (2, .ref (xa X 26 0)), (3, .ref (xa X 31 0))]) C dL_law_976 (hN 6 (by decide)) rfl ?_
  refine s_aload_n C dL_law_978 rfl 5 rfl ?_
  refine s_callM C R0 V (kX13_thrown (xl X) 0 (by decide)) mmX13_thrown miX13_thrown q2229 (rc26 (Nat.le_trans (by decide) V)) (by decide) rfl rfl rfl (Nat.le_of_ble_eq_true rfl) ⟨Nat.le_of_ble_eq_true rfl, Nat.le_of_ble_eq_true rfl, by omega, by omega⟩ dL_law_979 (fun x6 μ5 => ?_)
  refine g_st (st' := [.int x6]) rfl ?_
  refine s_iload C dL_law_982 1 rfl ?_
  refine s_icmp_eq (tgt := 989) C dL_law_984 (by decide) (fun c7 => ?_) (fun c7 => ?_)
  ·
    refine g_jn (P := fun j1006 => ∀ (μ8 : Mem), G X r0 (ca + 1) (sl + 6) μ8 1006 [(0, .ref bs), (1, .ref (xa X 0 0)), (2, .ref (xa X 26 0)), (3, .ref (xa X 31 0)), (4, .int i)] [] (j1006 μ8)) ?_ (fun j1006 hj1006 => ?_)
    · intro μ8
      refine s_goto (tgt := 2636) C dL_law_1006 (by decide) ?_
      exact g_endL (ca1 := ca + 1) (sl1 := sl + 6) (by omega) (by omega) [4, 0, 1, 2, 3] rfl H0
    refine s_iload C dL_law_989 1 rfl ?_
    refine s_if_ne (tgt := 1006) C dL_law_991 (by decide) (fun c9 => ?_) (fun c9 => ?_)
    ·
      exact g_wid (ca1 := ca + 1) (sl1 := sl + 6) (by omega) (by omega) <| g_sub [3, 4, 5, 6, 2] rfl (hj1006 μ5)
    ·
      refine s_aload_n C dL_law_994 rfl 6 rfl ?_
      refine s_iconst (v := (0 : Int32)) C dL_law_995 (by decide) ?_
      refine s_lald C (ag31 V) (by decide) dL_law_996 ?_
      refine s_iload C dL_law_997 0 rfl ?_
      refine s_i2l C dL_law_999 ?_
      refine s_lcmp C dL_law_1000 ?_
      refine s_if_eq (tgt := 1006) C dL_law_1001 (by decide) (fun c10 => ?_) (fun c10 => ?_)
      ·
        exact g_wid (ca1 := ca + 1) (sl1 := sl + 6) (by omega) (by omega) <| g_sub [3, 4, 5, 6, 2] rfl (hj1006 μ5)
      ·
        refine s_iconst (v := (0 : Int32)) C dL_law_1004 (by decide) ?_
        exact g_none
  ·
    refine s_iconst (v := (0 : Int32)) C dL_law_987 (by decide) ?_
    exact g_none

def lcs_17 (fu gu : Nat) (xs : Nat → Int32) (SL : Nat) (i : Int32) (μ : Mem) : Option Mem :=
  ckI (i + (1 : Int32)) SL <|
  bnd (fL_stall 0 (xs (i + (1 : Int32)).toNatClampNeg) 0 μ) fun x2 μ1 =>
  ckI (i + (1 : Int32)) SL <|
  bndJ μ1 (fX13_stall 0 (xs (i + (1 : Int32)).toNatClampNeg) (kJ μ μ1)) fun x4 μ3 =>
  bndJ μ3 (fX13_thrown 0 (kJ μ μ3)) fun x6 μ5 =>
  if x6 = x2 then (
    jn (fun (μ8 : Mem) =>
      some μ8
    ) fun j1062 =>
    if ¬ x2 = 0 then (
      j1062 μ5
    ) else (
      ckI (0 : Int32) (1) <|
      if (lg_cmp (μ5.2.2 31 0 (0 : Int32).toNatClampNeg) (x4.toInt64)) = 0 then (
        j1062 μ5
      ) else (
        none
      )
    )
  ) else (
    none
  )
set_option maxHeartbeats 4000000 in
set_option maxRecDepth 100000 in
theorem lcz_17 {X : CX} (hT : (xl X).stackTraces = false) (V : 2 ≤ xv X) (C : Ok X RL cL_law) (R0 : Rm X 2048 84000 601024 7293034) (hN : ∀ i : Nat, i < 8 → i < xn X) {bs SL : Nat} {xs : Nat → Int32} (S : Scr X bs SL xs) (fu gu : Nat) {ca sl : Nat} (hc : ca + 1 ≤ 601024) (hs : sl + 6 ≤ 7293034) (i : Int32) (μ r0 : Mem) (H0 : J X (ca + 1) (sl + 6) r0 2636 [(4, .int i), (0, .ref bs), (1, .ref (xa X 0 0)), (2, .ref (xa X 26 0)), (3, .ref (xa X 31 0))] []) : G X r0 ca sl μ 1009 [(4, .int i), (0, .ref bs), (1, .ref (xa X 0 0)), (2, .ref (xa X 26 0)), (3, .ref (xa X 31 0))] [] (lcs_17 fu gu xs SL i μ) := by
  unfold lcs_17
  refine s_aload_n C dL_law_1009 rfl 2 rfl ?_
  refine s_aload_n C dL_law_1010 rfl 1 rfl ?_
  refine s_iload C dL_law_1011 0 rfl ?_
  refine s_iconst (v := (1 : Int32)) C dL_law_1013 (by decide) ?_
  refine s_iadd C dL_law_1014 ?_
  refine s_sld C S dL_law_1015 ?_
  refine s_aload_n C dL_law_1016 rfl 4 rfl ?_
  refine s_callH (n := 3) C R0 (kL_stall (xl X) hT 0 (by decide) (xs (i + (1 : Int32)).toNatClampNeg) 0 (by decide)) (Nat.le_trans (by decide) V) q154 q1309 ⟨by decide +kernel, by decide +kernel, by decide +kernel⟩ q1308 q1307 rfl rfl rfl (Nat.le_of_ble_eq_true rfl) ⟨Nat.le_of_ble_eq_true rfl, Nat.le_of_ble_eq_true rfl, by omega, by omega⟩ dL_law_1017 (fun x2 μ1 => ?_)
  refine g_st (st' := [.int x2]) rfl ?_
  refine s_istore (L' := [(5, .int x2), (4, .int i), (0, .ref bs), (1, .ref (xa X 0 0)), (2, .ref (xa X 26 0)), (3, .ref (xa X 31 0))]) C dL_law_1020 (hN 5 (by decide)) rfl ?_
  refine s_aload_n C dL_law_1022 rfl 4 rfl ?_
  refine s_aload_n C dL_law_1023 rfl 2 rfl ?_
  refine s_iload C dL_law_1024 1 rfl ?_
  refine s_iconst (v := (1 : Int32)) C dL_law_1026 (by decide) ?_
  refine s_iadd C dL_law_1027 ?_
  refine s_sld C S dL_law_1028 ?_
  refine s_callM C R0 V (kX13_stall (xl X) 0 (by decide) (xs (i + (1 : Int32)).toNatClampNeg)) mmX13_stall miX13_stall q2327 (rc26 (Nat.le_trans (by decide) V)) (by decide) rfl rfl rfl (Nat.le_of_ble_eq_true rfl) ⟨Nat.le_of_ble_eq_true rfl, Nat.le_of_ble_eq_true rfl, by omega, by omega⟩ dL_law_1029 (fun x4 μ3 => ?_)
  refine g_st (st' := [.int x4]) rfl ?_
  refine s_istore (L' := [(6, .int x4), (5, .int x2), (4, .int i), (0, .ref bs), (1, .ref (xa X 0 0)), (2, .ref (xa X 26 0)), (3, .ref (xa X 31 0))]) C dL_law_1032 (hN 6 (by decide)) rfl ?_
  refine s_aload_n C dL_law_1034 rfl 5 rfl ?_
  refine s_callM C R0 V (kX13_thrown (xl X) 0 (by decide)) mmX13_thrown miX13_thrown q2229 (rc26 (Nat.le_trans (by decide) V)) (by decide) rfl rfl rfl (Nat.le_of_ble_eq_true rfl) ⟨Nat.le_of_ble_eq_true rfl, Nat.le_of_ble_eq_true rfl, by omega, by omega⟩ dL_law_1035 (fun x6 μ5 => ?_)
  refine g_st (st' := [.int x6]) rfl ?_
  refine s_iload C dL_law_1038 1 rfl ?_
  refine s_icmp_eq (tgt := 1045) C dL_law_1040 (by decide) (fun c7 => ?_) (fun c7 => ?_)
  ·
    refine g_jn (P := fun j1062 => ∀ (μ8 : Mem), G X r0 (ca + 1) (sl + 6) μ8 1062 [(0, .ref bs), (1, .ref (xa X 0 0)), (2, .ref (xa X 26 0)), (3, .ref (xa X 31 0)), (4, .int i)] [] (j1062 μ8)) ?_ (fun j1062 hj1062 => ?_)
    · intro μ8
      refine s_goto (tgt := 2636) C dL_law_1062 (by decide) ?_
      exact g_endL (ca1 := ca + 1) (sl1 := sl + 6) (by omega) (by omega) [4, 0, 1, 2, 3] rfl H0
    refine s_iload C dL_law_1045 1 rfl ?_
    refine s_if_ne (tgt := 1062) C dL_law_1047 (by decide) (fun c9 => ?_) (fun c9 => ?_)
    ·
      exact g_wid (ca1 := ca + 1) (sl1 := sl + 6) (by omega) (by omega) <| g_sub [3, 4, 5, 6, 2] rfl (hj1062 μ5)
    ·
      refine s_aload_n C dL_law_1050 rfl 6 rfl ?_
      refine s_iconst (v := (0 : Int32)) C dL_law_1051 (by decide) ?_
      refine s_lald C (ag31 V) (by decide) dL_law_1052 ?_
      refine s_iload C dL_law_1053 0 rfl ?_
      refine s_i2l C dL_law_1055 ?_
      refine s_lcmp C dL_law_1056 ?_
      refine s_if_eq (tgt := 1062) C dL_law_1057 (by decide) (fun c10 => ?_) (fun c10 => ?_)
      ·
        exact g_wid (ca1 := ca + 1) (sl1 := sl + 6) (by omega) (by omega) <| g_sub [3, 4, 5, 6, 2] rfl (hj1062 μ5)
      ·
        refine s_iconst (v := (0 : Int32)) C dL_law_1060 (by decide) ?_
        exact g_none
  ·
    refine s_iconst (v := (0 : Int32)) C dL_law_1043 (by decide) ?_
    exact g_none

def lcs_18 (fu gu : Nat) (xs : Nat → Int32) (SL : Nat) (i : Int32) (μ : Mem) : Option Mem :=
  ckI (i + (1 : Int32)) SL <|
  bnd (fL_isEnabled 0 (xs (i + (1 : Int32)).toNatClampNeg) 0 μ) fun x2 μ1 =>
  ckI (i + (1 : Int32)) SL <|
  bndJ μ1 (fX13_isEnabled 0 (xs (i + (1 : Int32)).toNatClampNeg) (kJ μ μ1)) fun x4 μ3 =>
  bndJ μ3 (fX13_thrown 0 (kJ μ μ3)) fun x6 μ5 =>
  if x6 = x2 then (
    jn (fun (μ8 : Mem) =>
      some μ8
    ) fun j1125 =>
    if ¬ x2 = 0 then (
      j1125 μ5
    ) else (
      jn (fun (μ10 : Mem) (y11 : Int64) (y12 : Int64) =>
        if (lg_cmp y11 y12) = 0 then (
          j1125 μ10
        ) else (
          none
        )
      ) fun j1119 =>
      ckI (0 : Int32) (1) <|
      if x4 = 0 then (
        j1119 μ5 (μ5.2.2 31 0 (0 : Int32).toNatClampNeg) (0 : Int64)
      ) else (
        j1119 μ5 (μ5.2.2 31 0 (0 : Int32).toNatClampNeg) (1 : Int64)
      )
    )
  ) else (
    none
  )
set_option maxHeartbeats 4000000 in
set_option maxRecDepth 100000 in
theorem lcz_18 {X : CX} (hT : (xl X).stackTraces = false) (V : 2 ≤ xv X) (C : Ok X RL cL_law) (R0 : Rm X 2048 84000 601024 7293034) (hN : ∀ i : Nat, i < 8 → i < xn X) {bs SL : Nat} {xs : Nat → Int32} (S : Scr X bs SL xs) (fu gu : Nat) {ca sl : Nat} (hc : ca + 1 ≤ 601024) (hs : sl + 6 ≤ 7293034) (i : Int32) (μ r0 : Mem) (H0 : J X (ca + 1) (sl + 6) r0 2636 [(4, .int i), (0, .ref bs), (1, .ref (xa X 0 0)), (2, .ref (xa X 26 0)), (3, .ref (xa X 31 0))] []) : G X r0 ca sl μ 1065 [(4, .int i), (0, .ref bs), (1, .ref (xa X 0 0)), (2, .ref (xa X 26 0)), (3, .ref (xa X 31 0))] [] (lcs_18 fu gu xs SL i μ) := by
  unfold lcs_18
  refine s_aload_n C dL_law_1065 rfl 2 rfl ?_
  refine s_aload_n C dL_law_1066 rfl 1 rfl ?_
  refine s_iload C dL_law_1067 0 rfl ?_
  refine s_iconst (v := (1 : Int32)) C dL_law_1069 (by decide) ?_
  refine s_iadd C dL_law_1070 ?_
  refine s_sld C S dL_law_1071 ?_
  refine s_aload_n C dL_law_1072 rfl 4 rfl ?_
  refine s_callH (n := 3) C R0 (kL_isEnabled (xl X) hT 0 (by decide) (xs (i + (1 : Int32)).toNatClampNeg) 0 (by decide)) (Nat.le_trans (by decide) V) q154 q1316 ⟨by decide +kernel, by decide +kernel, by decide +kernel⟩ q1315 q1314 rfl rfl rfl (Nat.le_of_ble_eq_true rfl) ⟨Nat.le_of_ble_eq_true rfl, Nat.le_of_ble_eq_true rfl, by omega, by omega⟩ dL_law_1073 (fun x2 μ1 => ?_)
  refine g_st (st' := [.int x2]) rfl ?_
  refine s_istore (L' := [(5, .int x2), (4, .int i), (0, .ref bs), (1, .ref (xa X 0 0)), (2, .ref (xa X 26 0)), (3, .ref (xa X 31 0))]) C dL_law_1076 (hN 5 (by decide)) rfl ?_
  refine s_aload_n C dL_law_1078 rfl 4 rfl ?_
  refine s_aload_n C dL_law_1079 rfl 2 rfl ?_
  refine s_iload C dL_law_1080 1 rfl ?_
  refine s_iconst (v := (1 : Int32)) C dL_law_1082 (by decide) ?_
  refine s_iadd C dL_law_1083 ?_
  refine s_sld C S dL_law_1084 ?_
  refine s_callM C R0 V (kX13_isEnabled (xl X) 0 (by decide) (xs (i + (1 : Int32)).toNatClampNeg)) mmX13_isEnabled miX13_isEnabled q2331 (rc26 (Nat.le_trans (by decide) V)) (by decide) rfl rfl rfl (Nat.le_of_ble_eq_true rfl) ⟨Nat.le_of_ble_eq_true rfl, Nat.le_of_ble_eq_true rfl, by omega, by omega⟩ dL_law_1085 (fun x4 μ3 => ?_)
  refine g_st (st' := [.int x4]) rfl ?_
  refine s_istore (L' := [(6, .int x4), (5, .int x2), (4, .int i), (0, .ref bs), (1, .ref (xa X 0 0)), (2, .ref (xa X 26 0)), (3, .ref (xa X 31 0))]) C dL_law_1088 (hN 6 (by decide)) rfl ?_
  refine s_aload_n C dL_law_1090 rfl 5 rfl ?_
  refine s_callM C R0 V (kX13_thrown (xl X) 0 (by decide)) mmX13_thrown miX13_thrown q2229 (rc26 (Nat.le_trans (by decide) V)) (by decide) rfl rfl rfl (Nat.le_of_ble_eq_true rfl) ⟨Nat.le_of_ble_eq_true rfl, Nat.le_of_ble_eq_true rfl, by omega, by omega⟩ dL_law_1091 (fun x6 μ5 => ?_)
  refine g_st (st' := [.int x6]) rfl ?_
  refine s_iload C dL_law_1094 1 rfl ?_
  refine s_icmp_eq (tgt := 1101) C dL_law_1096 (by decide) (fun c7 => ?_) (fun c7 => ?_)
  ·
    refine g_jn (P := fun j1125 => ∀ (μ8 : Mem), G X r0 (ca + 1) (sl + 6) μ8 1125 [(0, .ref bs), (1, .ref (xa X 0 0)), (2, .ref (xa X 26 0)), (3, .ref (xa X 31 0)), (4, .int i)] [] (j1125 μ8)) ?_ (fun j1125 hj1125 => ?_)
    · intro μ8
      refine s_goto (tgt := 2636) C dL_law_1125 (by decide) ?_
      exact g_endL (ca1 := ca + 1) (sl1 := sl + 6) (by omega) (by omega) [4, 0, 1, 2, 3] rfl H0
    refine s_iload C dL_law_1101 1 rfl ?_
    refine s_if_ne (tgt := 1125) C dL_law_1103 (by decide) (fun c9 => ?_) (fun c9 => ?_)
    ·
      exact g_wid (ca1 := ca + 1) (sl1 := sl + 6) (by omega) (by omega) <| g_sub [3, 4, 5, 6, 2] rfl (hj1125 μ5)
    ·
      refine g_jn (P := fun j1119 => ∀ (μ10 : Mem) (y11 : Int64) (y12 : Int64), G X r0 (ca + 1) (sl + 6) μ10 1119 [(0, .ref bs), (1, .ref (xa X 0 0)), (2, .ref (xa X 26 0)), (3, .ref (xa X 31 0)), (4, .int i)] [.long y12, .long y11] (j1119 μ10 y11 y12)) ?_ (fun j1119 hj1119 => ?_)
      · intro μ10 y11 y12
        refine s_lcmp C dL_law_1119 ?_
        refine s_if_eq (tgt := 1125) C dL_law_1120 (by decide) (fun c13 => ?_) (fun c13 => ?_)
        ·
          exact g_wid (ca1 := ca + 1) (sl1 := sl + 6) (by omega) (by omega) <| g_sub [0, 1, 2, 3, 4] rfl (hj1125 μ10)
        ·
          refine s_iconst (v := (0 : Int32)) C dL_law_1123 (by decide) ?_
          exact g_none
      refine s_aload_n C dL_law_1106 rfl 6 rfl ?_
      refine s_iconst (v := (0 : Int32)) C dL_law_1107 (by decide) ?_
      refine s_lald C (ag31 V) (by decide) dL_law_1108 ?_
      refine s_iload C dL_law_1109 0 rfl ?_
      refine s_if_eq (tgt := 1118) C dL_law_1111 (by decide) (fun c14 => ?_) (fun c14 => ?_)
      ·
        refine s_lconst (v := (0 : Int64)) C dL_law_1118 (by decide) ?_
        exact g_wid (ca1 := ca + 1) (sl1 := sl + 6) (by omega) (by omega) <| g_sub [3, 4, 5, 6, 2] rfl (hj1119 μ5 (μ5.2.2 31 0 (0 : Int32).toNatClampNeg) (0 : Int64))
      ·
        refine s_lconst (v := (1 : Int64)) C dL_law_1114 (by decide) ?_
        refine s_goto (tgt := 1119) C dL_law_1115 (by decide) ?_
        exact g_wid (ca1 := ca + 1) (sl1 := sl + 6) (by omega) (by omega) <| g_sub [3, 4, 5, 6, 2] rfl (hj1119 μ5 (μ5.2.2 31 0 (0 : Int32).toNatClampNeg) (1 : Int64))
  ·
    refine s_iconst (v := (0 : Int32)) C dL_law_1099 (by decide) ?_
    exact g_none

def lcs_19 (fu gu : Nat) (xs : Nat → Int32) (SL : Nat) (i : Int32) (μ : Mem) : Option Mem :=
  jn (fun (μ1 : Mem) (a2 : Nat) (x4 : Int32) (x5 : Int32) =>
    jn (fun (μ6 : Mem) (x7 : Int32) (a8 : Nat) (x10 : Int32) (x11 : Int32) =>
      bndJ μ6 (fX13_queueSize a8 x10 x11 (kJ μ μ6)) fun x13 μ12 =>
      bndJ μ12 (fX13_thrown 0 (kJ μ μ12)) fun x15 μ14 =>
      if x15 = x7 then (
        jn (fun (μ17 : Mem) =>
          some μ17
        ) fun j1209 =>
        if ¬ x7 = 0 then (
          j1209 μ14
        ) else (
          ckI (0 : Int32) (1) <|
          if (lg_cmp (μ14.2.2 31 0 (0 : Int32).toNatClampNeg) (x13.toInt64)) = 0 then (
            j1209 μ14
          ) else (
            none
          )
        )
      ) else (
        none
      )
    ) fun j1176 =>
    bnd (fL_queueSize a2 x4 x5 0 μ1) fun x21 μ20 =>
    ckI (i + (1 : Int32)) SL <|
    ckI (i + (2 : Int32)) SL <|
    if (xs (i + (2 : Int32)).toNatClampNeg) = 0 then (
      j1176 μ20 x21 0 (xs (i + (1 : Int32)).toNatClampNeg) (0 : Int32)
    ) else (
      j1176 μ20 x21 0 (xs (i + (1 : Int32)).toNatClampNeg) (1 : Int32)
    )
  ) fun j1149 =>
  ckI (i + (1 : Int32)) SL <|
  ckI (i + (2 : Int32)) SL <|
  if (xs (i + (2 : Int32)).toNatClampNeg) = 0 then (
    j1149 μ 0 (xs (i + (1 : Int32)).toNatClampNeg) (0 : Int32)
  ) else (
    j1149 μ 0 (xs (i + (1 : Int32)).toNatClampNeg) (1 : Int32)
  )
set_option maxHeartbeats 4000000 in
set_option maxRecDepth 100000 in
theorem lcz_19 {X : CX} (hT : (xl X).stackTraces = false) (V : 2 ≤ xv X) (C : Ok X RL cL_law) (R0 : Rm X 2048 84000 601024 7293034) (hN : ∀ i : Nat, i < 8 → i < xn X) {bs SL : Nat} {xs : Nat → Int32} (S : Scr X bs SL xs) (fu gu : Nat) {ca sl : Nat} (hc : ca + 1 ≤ 601024) (hs : sl + 6 ≤ 7293034) (i : Int32) (μ r0 : Mem) (H0 : J X (ca + 1) (sl + 6) r0 2636 [(4, .int i), (0, .ref bs), (1, .ref (xa X 0 0)), (2, .ref (xa X 26 0)), (3, .ref (xa X 31 0))] []) : G X r0 ca sl μ 1128 [(4, .int i), (0, .ref bs), (1, .ref (xa X 0 0)), (2, .ref (xa X 26 0)), (3, .ref (xa X 31 0))] [] (lcs_19 fu gu xs SL i μ) := by
  unfold lcs_19
  refine g_jn (P := fun j1149 => ∀ (μ1 : Mem) (a2 : Nat) (x4 : Int32) (x5 : Int32), a2 < 1 → G X r0 (ca + 0) (sl + 0) μ1 1149 [(0, .ref bs), (1, .ref (xa X 0 0)), (2, .ref (xa X 26 0)), (3, .ref (xa X 31 0)), (4, .int i)] [.int x5, .int x4, .ref (xa X 0 a2)] (j1149 μ1 a2 x4 x5)) ?_ (fun j1149 hj1149 => ?_)
  · intro μ1 a2 x4 x5 b3
    refine g_jn (P := fun j1176 => ∀ (μ6 : Mem) (x7 : Int32) (a8 : Nat) (x10 : Int32) (x11 : Int32), a8 < 1 → G X r0 (ca + 1) (sl + 6) μ6 1176 [(0, .ref bs), (1, .ref (xa X 0 0)), (2, .ref (xa X 26 0)), (3, .ref (xa X 31 0)), (4, .int i), (5, .int x7)] [.int x11, .int x10, .ref (xa X 26 a8)] (j1176 μ6 x7 a8 x10 x11)) ?_ (fun j1176 hj1176 => ?_)
    · intro μ6 x7 a8 x10 x11 b9
      refine s_callM C R0 V (kX13_queueSize (xl X) a8 b9 x10 x11) mmX13_queueSize miX13_queueSize q2335 (rc26 (Nat.le_trans (by decide) V)) b9 rfl rfl rfl (Nat.le_of_ble_eq_true rfl) ⟨Nat.le_of_ble_eq_true rfl, Nat.le_of_ble_eq_true rfl, by omega, by omega⟩ dL_law_1176 (fun x13 μ12 => ?_)
      refine g_st (st' := [.int x13]) rfl ?_
      refine s_istore (L' := [(6, .int x13), (0, .ref bs), (1, .ref (xa X 0 0)), (2, .ref (xa X 26 0)), (3, .ref (xa X 31 0)), (4, .int i), (5, .int x7)]) C dL_law_1179 (hN 6 (by decide)) rfl ?_
      refine s_aload_n C dL_law_1181 rfl 3 rfl ?_
      refine s_callM C R0 V (kX13_thrown (xl X) 0 (by decide)) mmX13_thrown miX13_thrown q2229 (rc26 (Nat.le_trans (by decide) V)) (by decide) rfl rfl rfl (Nat.le_of_ble_eq_true rfl) ⟨Nat.le_of_ble_eq_true rfl, Nat.le_of_ble_eq_true rfl, by omega, by omega⟩ dL_law_1182 (fun x15 μ14 => ?_)
      refine g_st (st' := [.int x15]) rfl ?_
      refine s_iload C dL_law_1185 6 rfl ?_
      refine s_icmp_eq (tgt := 1192) C dL_law_1187 (by decide) (fun c16 => ?_) (fun c16 => ?_)
      ·
        refine g_jn (P := fun j1209 => ∀ (μ17 : Mem), G X r0 (ca + 1) (sl + 6) μ17 1209 [(0, .ref bs), (1, .ref (xa X 0 0)), (2, .ref (xa X 26 0)), (3, .ref (xa X 31 0)), (4, .int i)] [] (j1209 μ17)) ?_ (fun j1209 hj1209 => ?_)
        · intro μ17
          refine s_goto (tgt := 2636) C dL_law_1209 (by decide) ?_
          exact g_endL (ca1 := ca + 1) (sl1 := sl + 6) (by omega) (by omega) [4, 0, 1, 2, 3] rfl H0
        refine s_iload C dL_law_1192 6 rfl ?_
        refine s_if_ne (tgt := 1209) C dL_law_1194 (by decide) (fun c18 => ?_) (fun c18 => ?_)
        ·
          exact g_wid (ca1 := ca + 1) (sl1 := sl + 6) (by omega) (by omega) <| g_sub [1, 2, 3, 4, 5] rfl (hj1209 μ14)
        ·
          refine s_aload_n C dL_law_1197 rfl 4 rfl ?_
          refine s_iconst (v := (0 : Int32)) C dL_law_1198 (by decide) ?_
          refine s_lald C (ag31 V) (by decide) dL_law_1199 ?_
          refine s_iload C dL_law_1200 0 rfl ?_
          refine s_i2l C dL_law_1202 ?_
          refine s_lcmp C dL_law_1203 ?_
          refine s_if_eq (tgt := 1209) C dL_law_1204 (by decide) (fun c19 => ?_) (fun c19 => ?_)
          ·
            exact g_wid (ca1 := ca + 1) (sl1 := sl + 6) (by omega) (by omega) <| g_sub [1, 2, 3, 4, 5] rfl (hj1209 μ14)
          ·
            refine s_iconst (v := (0 : Int32)) C dL_law_1207 (by decide) ?_
            exact g_none
      ·
        refine s_iconst (v := (0 : Int32)) C dL_law_1190 (by decide) ?_
        exact g_none
    refine s_aload_n C dL_law_1149 rfl 3 rfl ?_
    refine s_callH (n := 4) C R0 (kL_queueSize (xl X) hT a2 b3 x4 x5 0 (by decide)) (Nat.le_trans (by decide) V) q154 q1323 ⟨by decide +kernel, by decide +kernel, by decide +kernel⟩ q1322 q1321 rfl rfl rfl (Nat.le_of_ble_eq_true rfl) ⟨Nat.le_of_ble_eq_true rfl, Nat.le_of_ble_eq_true rfl, by omega, by omega⟩ dL_law_1150 (fun x21 μ20 => ?_)
    refine g_st (st' := [.int x21]) rfl ?_
    refine s_istore (L' := [(5, .int x21), (0, .ref bs), (1, .ref (xa X 0 0)), (2, .ref (xa X 26 0)), (3, .ref (xa X 31 0)), (4, .int i)]) C dL_law_1153 (hN 5 (by decide)) rfl ?_
    refine s_aload_n C dL_law_1155 rfl 3 rfl ?_
    refine s_aload_n C dL_law_1156 rfl 1 rfl ?_
    refine s_iload C dL_law_1157 5 rfl ?_
    refine s_iconst (v := (1 : Int32)) C dL_law_1159 (by decide) ?_
    refine s_iadd C dL_law_1160 ?_
    refine s_sld C S dL_law_1161 ?_
    refine s_aload_n C dL_law_1162 rfl 1 rfl ?_
    refine s_iload C dL_law_1163 5 rfl ?_
    refine s_iconst (v := (2 : Int32)) C dL_law_1165 (by decide) ?_
    refine s_iadd C dL_law_1166 ?_
    refine s_sld C S dL_law_1167 ?_
    refine s_if_eq (tgt := 1175) C dL_law_1168 (by decide) (fun c22 => ?_) (fun c22 => ?_)
    ·
      refine s_iconst (v := (0 : Int32)) C dL_law_1175 (by decide) ?_
      exact g_wid (ca1 := ca + 1) (sl1 := sl + 6) (by omega) (by omega) <| g_sub [1, 2, 3, 4, 5, 0] rfl (hj1176 μ20 x21 0 (xs (i + (1 : Int32)).toNatClampNeg) (0 : Int32) (by decide))
    ·
      refine s_iconst (v := (1 : Int32)) C dL_law_1171 (by decide) ?_
      refine s_goto (tgt := 1176) C dL_law_1172 (by decide) ?_
      exact g_wid (ca1 := ca + 1) (sl1 := sl + 6) (by omega) (by omega) <| g_sub [1, 2, 3, 4, 5, 0] rfl (hj1176 μ20 x21 0 (xs (i + (1 : Int32)).toNatClampNeg) (1 : Int32) (by decide))
  refine s_aload_n C dL_law_1128 rfl 2 rfl ?_
  refine s_aload_n C dL_law_1129 rfl 1 rfl ?_
  refine s_iload C dL_law_1130 0 rfl ?_
  refine s_iconst (v := (1 : Int32)) C dL_law_1132 (by decide) ?_
  refine s_iadd C dL_law_1133 ?_
  refine s_sld C S dL_law_1134 ?_
  refine s_aload_n C dL_law_1135 rfl 1 rfl ?_
  refine s_iload C dL_law_1136 0 rfl ?_
  refine s_iconst (v := (2 : Int32)) C dL_law_1138 (by decide) ?_
  refine s_iadd C dL_law_1139 ?_
  refine s_sld C S dL_law_1140 ?_
  refine s_if_eq (tgt := 1148) C dL_law_1141 (by decide) (fun c23 => ?_) (fun c23 => ?_)
  ·
    refine s_iconst (v := (0 : Int32)) C dL_law_1148 (by decide) ?_
    exact g_wid (ca1 := ca + 0) (sl1 := sl + 0) (by omega) (by omega) <| g_sub [1, 2, 3, 4, 0] rfl (hj1149 μ 0 (xs (i + (1 : Int32)).toNatClampNeg) (0 : Int32) (by decide))
  ·
    refine s_iconst (v := (1 : Int32)) C dL_law_1144 (by decide) ?_
    refine s_goto (tgt := 1149) C dL_law_1145 (by decide) ?_
    exact g_wid (ca1 := ca + 0) (sl1 := sl + 0) (by omega) (by omega) <| g_sub [1, 2, 3, 4, 0] rfl (hj1149 μ 0 (xs (i + (1 : Int32)).toNatClampNeg) (1 : Int32) (by decide))

def lcs_20 (fu gu : Nat) (xs : Nat → Int32) (SL : Nat) (i : Int32) (μ : Mem) : Option Mem :=
  jn (fun (μ1 : Mem) (a2 : Nat) (x4 : Int32) (x5 : Int32) =>
    jn (fun (μ6 : Mem) (x7 : Int32) (a8 : Nat) (x10 : Int32) (x11 : Int32) =>
      ckI (i + (3 : Int32)) SL <|
      bndJ μ6 (fX13_queued a8 x10 x11 (xs (i + (3 : Int32)).toNatClampNeg) (kJ μ μ6)) fun y13 μ12 =>
      bndJ μ12 (fX13_thrown 0 (kJ μ μ12)) fun x15 μ14 =>
      if x15 = x7 then (
        jn (fun (μ17 : Mem) =>
          some μ17
        ) fun j1304 =>
        if ¬ x7 = 0 then (
          j1304 μ14
        ) else (
          ckI (0 : Int32) (1) <|
          if (lg_cmp (μ14.2.2 31 0 (0 : Int32).toNatClampNeg) y13) = 0 then (
            j1304 μ14
          ) else (
            none
          )
        )
      ) else (
        none
      )
    ) fun j1266 =>
    ckI (i + (3 : Int32)) SL <|
    bnd (fL_queued a2 x4 x5 (xs (i + (3 : Int32)).toNatClampNeg) 0 μ1) fun x21 μ20 =>
    ckI (i + (1 : Int32)) SL <|
    ckI (i + (2 : Int32)) SL <|
    if (xs (i + (2 : Int32)).toNatClampNeg) = 0 then (
      j1266 μ20 x21 0 (xs (i + (1 : Int32)).toNatClampNeg) (0 : Int32)
    ) else (
      j1266 μ20 x21 0 (xs (i + (1 : Int32)).toNatClampNeg) (1 : Int32)
    )
  ) fun j1233 =>
  ckI (i + (1 : Int32)) SL <|
  ckI (i + (2 : Int32)) SL <|
  if (xs (i + (2 : Int32)).toNatClampNeg) = 0 then (
    j1233 μ 0 (xs (i + (1 : Int32)).toNatClampNeg) (0 : Int32)
  ) else (
    j1233 μ 0 (xs (i + (1 : Int32)).toNatClampNeg) (1 : Int32)
  )
set_option maxHeartbeats 4000000 in
set_option maxRecDepth 100000 in
theorem lcz_20 {X : CX} (hT : (xl X).stackTraces = false) (V : 2 ≤ xv X) (C : Ok X RL cL_law) (R0 : Rm X 2048 84000 601024 7293034) (hN : ∀ i : Nat, i < 8 → i < xn X) {bs SL : Nat} {xs : Nat → Int32} (S : Scr X bs SL xs) (fu gu : Nat) {ca sl : Nat} (hc : ca + 2 ≤ 601024) (hs : sl + 12 ≤ 7293034) (i : Int32) (μ r0 : Mem) (H0 : J X (ca + 2) (sl + 12) r0 2636 [(4, .int i), (0, .ref bs), (1, .ref (xa X 0 0)), (2, .ref (xa X 26 0)), (3, .ref (xa X 31 0))] []) : G X r0 ca sl μ 1212 [(4, .int i), (0, .ref bs), (1, .ref (xa X 0 0)), (2, .ref (xa X 26 0)), (3, .ref (xa X 31 0))] [] (lcs_20 fu gu xs SL i μ) := by
  unfold lcs_20
  refine g_jn (P := fun j1233 => ∀ (μ1 : Mem) (a2 : Nat) (x4 : Int32) (x5 : Int32), a2 < 1 → G X r0 (ca + 0) (sl + 0) μ1 1233 [(0, .ref bs), (1, .ref (xa X 0 0)), (2, .ref (xa X 26 0)), (3, .ref (xa X 31 0)), (4, .int i)] [.int x5, .int x4, .ref (xa X 0 a2)] (j1233 μ1 a2 x4 x5)) ?_ (fun j1233 hj1233 => ?_)
  · intro μ1 a2 x4 x5 b3
    refine g_jn (P := fun j1266 => ∀ (μ6 : Mem) (x7 : Int32) (a8 : Nat) (x10 : Int32) (x11 : Int32), a8 < 1 → G X r0 (ca + 2) (sl + 12) μ6 1266 [(0, .ref bs), (1, .ref (xa X 0 0)), (2, .ref (xa X 26 0)), (3, .ref (xa X 31 0)), (4, .int i), (5, .int x7)] [.int x11, .int x10, .ref (xa X 26 a8)] (j1266 μ6 x7 a8 x10 x11)) ?_ (fun j1266 hj1266 => ?_)
    · intro μ6 x7 a8 x10 x11 b9
      refine s_aload_n C dL_law_1266 rfl 0 rfl ?_
      refine s_iload C dL_law_1267 4 rfl ?_
      refine s_iconst (v := (3 : Int32)) C dL_law_1269 (by decide) ?_
      refine s_iadd C dL_law_1270 ?_
      refine s_sld C S dL_law_1271 ?_
      refine s_callM C R0 V (kX13_queued (xl X) a8 b9 x10 x11 (xs (i + (3 : Int32)).toNatClampNeg)) mmX13_queued miX13_queued q2339 (rc26 (Nat.le_trans (by decide) V)) b9 rfl rfl rfl (Nat.le_of_ble_eq_true rfl) ⟨Nat.le_of_ble_eq_true rfl, Nat.le_of_ble_eq_true rfl, by omega, by omega⟩ dL_law_1272 (fun y13 μ12 => ?_)
      refine g_st (st' := [.long y13]) rfl ?_
      refine s_lstore (L' := [(6, .long y13), (0, .ref bs), (1, .ref (xa X 0 0)), (2, .ref (xa X 26 0)), (3, .ref (xa X 31 0)), (4, .int i), (5, .int x7)]) C dL_law_1275 (hN 7 (by decide)) rfl ?_
      refine s_aload_n C dL_law_1277 rfl 3 rfl ?_
      refine s_callM C R0 V (kX13_thrown (xl X) 0 (by decide)) mmX13_thrown miX13_thrown q2229 (rc26 (Nat.le_trans (by decide) V)) (by decide) rfl rfl rfl (Nat.le_of_ble_eq_true rfl) ⟨Nat.le_of_ble_eq_true rfl, Nat.le_of_ble_eq_true rfl, by omega, by omega⟩ dL_law_1278 (fun x15 μ14 => ?_)
      refine g_st (st' := [.int x15]) rfl ?_
      refine s_iload C dL_law_1281 6 rfl ?_
      refine s_icmp_eq (tgt := 1288) C dL_law_1283 (by decide) (fun c16 => ?_) (fun c16 => ?_)
      ·
        refine g_jn (P := fun j1304 => ∀ (μ17 : Mem), G X r0 (ca + 2) (sl + 12) μ17 1304 [(0, .ref bs), (1, .ref (xa X 0 0)), (2, .ref (xa X 26 0)), (3, .ref (xa X 31 0)), (4, .int i)] [] (j1304 μ17)) ?_ (fun j1304 hj1304 => ?_)
        · intro μ17
          refine s_goto (tgt := 2636) C dL_law_1304 (by decide) ?_
          exact g_endL (ca1 := ca + 2) (sl1 := sl + 12) (by omega) (by omega) [4, 0, 1, 2, 3] rfl H0
        refine s_iload C dL_law_1288 6 rfl ?_
        refine s_if_ne (tgt := 1304) C dL_law_1290 (by decide) (fun c18 => ?_) (fun c18 => ?_)
        ·
          exact g_wid (ca1 := ca + 2) (sl1 := sl + 12) (by omega) (by omega) <| g_sub [1, 2, 3, 4, 5] rfl (hj1304 μ14)
        ·
          refine s_aload_n C dL_law_1293 rfl 4 rfl ?_
          refine s_iconst (v := (0 : Int32)) C dL_law_1294 (by decide) ?_
          refine s_lald C (ag31 V) (by decide) dL_law_1295 ?_
          refine s_lload C dL_law_1296 0 rfl ?_
          refine s_lcmp C dL_law_1298 ?_
          refine s_if_eq (tgt := 1304) C dL_law_1299 (by decide) (fun c19 => ?_) (fun c19 => ?_)
          ·
            exact g_wid (ca1 := ca + 2) (sl1 := sl + 12) (by omega) (by omega) <| g_sub [1, 2, 3, 4, 5] rfl (hj1304 μ14)
          ·
            refine s_iconst (v := (0 : Int32)) C dL_law_1302 (by decide) ?_
            exact g_none
      ·
        refine s_iconst (v := (0 : Int32)) C dL_law_1286 (by decide) ?_
        exact g_none
    refine s_aload_n C dL_law_1233 rfl 0 rfl ?_
    refine s_iload C dL_law_1234 4 rfl ?_
    refine s_iconst (v := (3 : Int32)) C dL_law_1236 (by decide) ?_
    refine s_iadd C dL_law_1237 ?_
    refine s_sld C S dL_law_1238 ?_
    refine s_aload_n C dL_law_1239 rfl 3 rfl ?_
    refine s_callH (n := 5) C R0 (kL_queued (xl X) hT a2 b3 x4 x5 (xs (i + (3 : Int32)).toNatClampNeg) 0 (by decide)) (Nat.le_trans (by decide) V) q154 q1334 ⟨by decide +kernel, by decide +kernel, by decide +kernel⟩ q1333 q1332 rfl rfl rfl (Nat.le_of_ble_eq_true rfl) ⟨Nat.le_of_ble_eq_true rfl, Nat.le_of_ble_eq_true rfl, by omega, by omega⟩ dL_law_1240 (fun x21 μ20 => ?_)
    refine g_st (st' := [.int x21]) rfl ?_
    refine s_istore (L' := [(5, .int x21), (0, .ref bs), (1, .ref (xa X 0 0)), (2, .ref (xa X 26 0)), (3, .ref (xa X 31 0)), (4, .int i)]) C dL_law_1243 (hN 5 (by decide)) rfl ?_
    refine s_aload_n C dL_law_1245 rfl 3 rfl ?_
    refine s_aload_n C dL_law_1246 rfl 1 rfl ?_
    refine s_iload C dL_law_1247 5 rfl ?_
    refine s_iconst (v := (1 : Int32)) C dL_law_1249 (by decide) ?_
    refine s_iadd C dL_law_1250 ?_
    refine s_sld C S dL_law_1251 ?_
    refine s_aload_n C dL_law_1252 rfl 1 rfl ?_
    refine s_iload C dL_law_1253 5 rfl ?_
    refine s_iconst (v := (2 : Int32)) C dL_law_1255 (by decide) ?_
    refine s_iadd C dL_law_1256 ?_
    refine s_sld C S dL_law_1257 ?_
    refine s_if_eq (tgt := 1265) C dL_law_1258 (by decide) (fun c22 => ?_) (fun c22 => ?_)
    ·
      refine s_iconst (v := (0 : Int32)) C dL_law_1265 (by decide) ?_
      exact g_wid (ca1 := ca + 2) (sl1 := sl + 12) (by omega) (by omega) <| g_sub [1, 2, 3, 4, 5, 0] rfl (hj1266 μ20 x21 0 (xs (i + (1 : Int32)).toNatClampNeg) (0 : Int32) (by decide))
    ·
      refine s_iconst (v := (1 : Int32)) C dL_law_1261 (by decide) ?_
      refine s_goto (tgt := 1266) C dL_law_1262 (by decide) ?_
      exact g_wid (ca1 := ca + 2) (sl1 := sl + 12) (by omega) (by omega) <| g_sub [1, 2, 3, 4, 5, 0] rfl (hj1266 μ20 x21 0 (xs (i + (1 : Int32)).toNatClampNeg) (1 : Int32) (by decide))
  refine s_aload_n C dL_law_1212 rfl 2 rfl ?_
  refine s_aload_n C dL_law_1213 rfl 1 rfl ?_
  refine s_iload C dL_law_1214 0 rfl ?_
  refine s_iconst (v := (1 : Int32)) C dL_law_1216 (by decide) ?_
  refine s_iadd C dL_law_1217 ?_
  refine s_sld C S dL_law_1218 ?_
  refine s_aload_n C dL_law_1219 rfl 1 rfl ?_
  refine s_iload C dL_law_1220 0 rfl ?_
  refine s_iconst (v := (2 : Int32)) C dL_law_1222 (by decide) ?_
  refine s_iadd C dL_law_1223 ?_
  refine s_sld C S dL_law_1224 ?_
  refine s_if_eq (tgt := 1232) C dL_law_1225 (by decide) (fun c23 => ?_) (fun c23 => ?_)
  ·
    refine s_iconst (v := (0 : Int32)) C dL_law_1232 (by decide) ?_
    exact g_wid (ca1 := ca + 0) (sl1 := sl + 0) (by omega) (by omega) <| g_sub [1, 2, 3, 4, 0] rfl (hj1233 μ 0 (xs (i + (1 : Int32)).toNatClampNeg) (0 : Int32) (by decide))
  ·
    refine s_iconst (v := (1 : Int32)) C dL_law_1228 (by decide) ?_
    refine s_goto (tgt := 1233) C dL_law_1229 (by decide) ?_
    exact g_wid (ca1 := ca + 0) (sl1 := sl + 0) (by omega) (by omega) <| g_sub [1, 2, 3, 4, 0] rfl (hj1233 μ 0 (xs (i + (1 : Int32)).toNatClampNeg) (1 : Int32) (by decide))

def lcs_21 (fu gu : Nat) (xs : Nat → Int32) (SL : Nat) (i : Int32) (μ : Mem) : Option Mem :=
  ckI (i + (1 : Int32)) SL <|
  ckI (i + (2 : Int32)) SL <|
  bnd (fL_count 0 (xs (i + (1 : Int32)).toNatClampNeg) (xs (i + (2 : Int32)).toNatClampNeg) 0 μ) fun x2 μ1 =>
  ckI (i + (1 : Int32)) SL <|
  ckI (i + (2 : Int32)) SL <|
  bndJ μ1 (fX13_count 0 (xs (i + (1 : Int32)).toNatClampNeg) (xs (i + (2 : Int32)).toNatClampNeg) (kJ μ μ1)) fun x4 μ3 =>
  bndJ μ3 (fX13_thrown 0 (kJ μ μ3)) fun x6 μ5 =>
  if x6 = x2 then (
    jn (fun (μ8 : Mem) =>
      some μ8
    ) fun j1372 =>
    if ¬ x2 = 0 then (
      j1372 μ5
    ) else (
      ckI (0 : Int32) (1) <|
      if (lg_cmp (μ5.2.2 31 0 (0 : Int32).toNatClampNeg) (x4.toInt64)) = 0 then (
        j1372 μ5
      ) else (
        none
      )
    )
  ) else (
    none
  )
set_option maxHeartbeats 4000000 in
set_option maxRecDepth 100000 in
theorem lcz_21 {X : CX} (hT : (xl X).stackTraces = false) (V : 2 ≤ xv X) (C : Ok X RL cL_law) (R0 : Rm X 2048 84000 601024 7293034) (hN : ∀ i : Nat, i < 8 → i < xn X) {bs SL : Nat} {xs : Nat → Int32} (S : Scr X bs SL xs) (fu gu : Nat) {ca sl : Nat} (hc : ca + 2 ≤ 601024) (hs : sl + 12 ≤ 7293034) (i : Int32) (μ r0 : Mem) (H0 : J X (ca + 2) (sl + 12) r0 2636 [(4, .int i), (0, .ref bs), (1, .ref (xa X 0 0)), (2, .ref (xa X 26 0)), (3, .ref (xa X 31 0))] []) : G X r0 ca sl μ 1307 [(4, .int i), (0, .ref bs), (1, .ref (xa X 0 0)), (2, .ref (xa X 26 0)), (3, .ref (xa X 31 0))] [] (lcs_21 fu gu xs SL i μ) := by
  unfold lcs_21
  refine s_aload_n C dL_law_1307 rfl 2 rfl ?_
  refine s_aload_n C dL_law_1308 rfl 1 rfl ?_
  refine s_iload C dL_law_1309 0 rfl ?_
  refine s_iconst (v := (1 : Int32)) C dL_law_1311 (by decide) ?_
  refine s_iadd C dL_law_1312 ?_
  refine s_sld C S dL_law_1313 ?_
  refine s_aload_n C dL_law_1314 rfl 1 rfl ?_
  refine s_iload C dL_law_1315 0 rfl ?_
  refine s_iconst (v := (2 : Int32)) C dL_law_1317 (by decide) ?_
  refine s_iadd C dL_law_1318 ?_
  refine s_sld C S dL_law_1319 ?_
  refine s_aload_n C dL_law_1320 rfl 4 rfl ?_
  refine s_callH (n := 4) C R0 (kL_count (xl X) hT 0 (by decide) (xs (i + (1 : Int32)).toNatClampNeg) (xs (i + (2 : Int32)).toNatClampNeg) 0 (by decide)) (Nat.le_trans (by decide) V) q154 q1350 ⟨by decide +kernel, by decide +kernel, by decide +kernel⟩ q1349 q1348 rfl rfl rfl (Nat.le_of_ble_eq_true rfl) ⟨Nat.le_of_ble_eq_true rfl, Nat.le_of_ble_eq_true rfl, by omega, by omega⟩ dL_law_1321 (fun x2 μ1 => ?_)
  refine g_st (st' := [.int x2]) rfl ?_
  refine s_istore (L' := [(5, .int x2), (4, .int i), (0, .ref bs), (1, .ref (xa X 0 0)), (2, .ref (xa X 26 0)), (3, .ref (xa X 31 0))]) C dL_law_1324 (hN 5 (by decide)) rfl ?_
  refine s_aload_n C dL_law_1326 rfl 4 rfl ?_
  refine s_aload_n C dL_law_1327 rfl 2 rfl ?_
  refine s_iload C dL_law_1328 1 rfl ?_
  refine s_iconst (v := (1 : Int32)) C dL_law_1330 (by decide) ?_
  refine s_iadd C dL_law_1331 ?_
  refine s_sld C S dL_law_1332 ?_
  refine s_aload_n C dL_law_1333 rfl 2 rfl ?_
  refine s_iload C dL_law_1334 1 rfl ?_
  refine s_iconst (v := (2 : Int32)) C dL_law_1336 (by decide) ?_
  refine s_iadd C dL_law_1337 ?_
  refine s_sld C S dL_law_1338 ?_
  refine s_callM C R0 V (kX13_count (xl X) 0 (by decide) (xs (i + (1 : Int32)).toNatClampNeg) (xs (i + (2 : Int32)).toNatClampNeg)) mmX13_count miX13_count q2348 (rc26 (Nat.le_trans (by decide) V)) (by decide) rfl rfl rfl (Nat.le_of_ble_eq_true rfl) ⟨Nat.le_of_ble_eq_true rfl, Nat.le_of_ble_eq_true rfl, by omega, by omega⟩ dL_law_1339 (fun x4 μ3 => ?_)
  refine g_st (st' := [.int x4]) rfl ?_
  refine s_istore (L' := [(6, .int x4), (5, .int x2), (4, .int i), (0, .ref bs), (1, .ref (xa X 0 0)), (2, .ref (xa X 26 0)), (3, .ref (xa X 31 0))]) C dL_law_1342 (hN 6 (by decide)) rfl ?_
  refine s_aload_n C dL_law_1344 rfl 5 rfl ?_
  refine s_callM C R0 V (kX13_thrown (xl X) 0 (by decide)) mmX13_thrown miX13_thrown q2229 (rc26 (Nat.le_trans (by decide) V)) (by decide) rfl rfl rfl (Nat.le_of_ble_eq_true rfl) ⟨Nat.le_of_ble_eq_true rfl, Nat.le_of_ble_eq_true rfl, by omega, by omega⟩ dL_law_1345 (fun x6 μ5 => ?_)
  refine g_st (st' := [.int x6]) rfl ?_
  refine s_iload C dL_law_1348 1 rfl ?_
  refine s_icmp_eq (tgt := 1355) C dL_law_1350 (by decide) (fun c7 => ?_) (fun c7 => ?_)
  ·
    refine g_jn (P := fun j1372 => ∀ (μ8 : Mem), G X r0 (ca + 2) (sl + 12) μ8 1372 [(0, .ref bs), (1, .ref (xa X 0 0)), (2, .ref (xa X 26 0)), (3, .ref (xa X 31 0)), (4, .int i)] [] (j1372 μ8)) ?_ (fun j1372 hj1372 => ?_)
    · intro μ8
      refine s_goto (tgt := 2636) C dL_law_1372 (by decide) ?_
      exact g_endL (ca1 := ca + 2) (sl1 := sl + 12) (by omega) (by omega) [4, 0, 1, 2, 3] rfl H0
    refine s_iload C dL_law_1355 1 rfl ?_
    refine s_if_ne (tgt := 1372) C dL_law_1357 (by decide) (fun c9 => ?_) (fun c9 => ?_)
    ·
      exact g_wid (ca1 := ca + 2) (sl1 := sl + 12) (by omega) (by omega) <| g_sub [3, 4, 5, 6, 2] rfl (hj1372 μ5)
    ·
      refine s_aload_n C dL_law_1360 rfl 6 rfl ?_
      refine s_iconst (v := (0 : Int32)) C dL_law_1361 (by decide) ?_
      refine s_lald C (ag31 V) (by decide) dL_law_1362 ?_
      refine s_iload C dL_law_1363 0 rfl ?_
      refine s_i2l C dL_law_1365 ?_
      refine s_lcmp C dL_law_1366 ?_
      refine s_if_eq (tgt := 1372) C dL_law_1367 (by decide) (fun c10 => ?_) (fun c10 => ?_)
      ·
        exact g_wid (ca1 := ca + 2) (sl1 := sl + 12) (by omega) (by omega) <| g_sub [3, 4, 5, 6, 2] rfl (hj1372 μ5)
      ·
        refine s_iconst (v := (0 : Int32)) C dL_law_1370 (by decide) ?_
        exact g_none
  ·
    refine s_iconst (v := (0 : Int32)) C dL_law_1353 (by decide) ?_
    exact g_none

