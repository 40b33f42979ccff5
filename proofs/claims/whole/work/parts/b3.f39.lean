/-! THE LAW'S CASE 39: formattedByte -/
theorem q824 : (Cond.instanceMethod ({ cls := "PinEngines", name := "formattedByte", desc := "(I)I" } : Jvm.MethodName)) ∈ tb := tb_of (lw_c3 (List.mem_of_getElem? (i := 190) (by decide +kernel))) rfl
theorem q825 : (Cond.selects "PinEngines" ({ cls := "PinEngines", name := "formattedByte", desc := "(I)I" } : Jvm.MethodName) ({ cls := "PinEngines", name := "formattedByte", desc := "(I)I" } : Jvm.MethodName)) ∈ tb := tb_of (lw_c3 (List.mem_of_getElem? (i := 191) (by decide +kernel))) rfl
theorem q826 : (Cond.code ({ cls := "PinEngines", name := "formattedByte", desc := "(I)I" } : Jvm.MethodName) prog_1_method_41_code (2 : Nat) (Option.some Jvm.ClassFile.FieldType.int)) ∈ tb := tb_of (lw_c3 (List.mem_of_getElem? (i := 192) (by decide +kernel))) rfl
theorem q2837 : (Cond.instanceMethod ({ cls := "PinEnginesModel", name := "formattedByte", desc := "(I)I" } : Jvm.MethodName)) ∈ tb := tb_of (lw_c12 (List.mem_of_getElem? (i := 43) (by decide +kernel))) rfl
theorem q2838 : (Cond.selects "PinEnginesModel" ({ cls := "PinEnginesModel", name := "formattedByte", desc := "(I)I" } : Jvm.MethodName) ({ cls := "PinEnginesModel", name := "formattedByte", desc := "(I)I" } : Jvm.MethodName)) ∈ tb := tb_of (lw_c12 (List.mem_of_getElem? (i := 44) (by decide +kernel))) rfl
theorem q2839 : (Cond.code ({ cls := "PinEnginesModel", name := "formattedByte", desc := "(I)I" } : Jvm.MethodName) prog_15_method_152_code (2 : Nat) (Option.some Jvm.ClassFile.FieldType.int)) ∈ tb := tb_of (lw_c12 (List.mem_of_getElem? (i := 45) (by decide +kernel))) rfl
theorem miX12_formattedByte : MI yX12_formattedByte := ⟨q824, q825⟩
theorem miX13_formattedByte : MI yX13_formattedByte := ⟨q2837, q2838⟩
theorem mmX12_formattedByte : MM yX12_formattedByte cX12_formattedByte 2 (some .int) 1 := ⟨q155, q826, by decide +kernel, by decide +kernel, by decide +kernel⟩
theorem mmX13_formattedByte : MM yX13_formattedByte cX13_formattedByte 2 (some .int) 1 := ⟨q173, q2839, by decide +kernel, by decide +kernel, by decide +kernel⟩
theorem chr_id : ∀ m : Nat, m < 128 → ((nI m &&& 255).toUInt32 % 65536).toInt32 = nI m := by decide +kernel
theorem kJ_wI {μ : Mem} {κ n k : Nat} {v : Int32} : kJ μ (wI μ κ n k v) = wI μ κ n k v := by
  refine Prod.ext rfl (Prod.ext rfl (funext fun a => funext fun b => funext fun d => ?_))
  show (if a = 31 then μ.2.2 a b d else μ.2.2 a b d) = μ.2.2 a b d
  split <;> rfl
theorem m_fbyte {c : Nat} {μ : Mem} (hc : c ≤ 70) (h41 : μ.1 26 0 41 = nI c) (hb : ∀ k, k < c → μ.1 33 0 k = μ.1 28 13 k ∧ ∃ m : Nat, m < 128 ∧ μ.1 28 13 k = nI m) (x : Int32) : fX13_formattedByte 0 x μ = some (fB c x μ, wI μ 26 0 6 0) := by
  unfold fX13_formattedByte
  rw [jn_eq, nm_eq, show (wI μ 26 0 6 0).1 26 0 41 = nI c from h41]
  by_cases hx : x < 0
  · rw [r_inRange, bnd_some, if_neg (show ¬ ((0 : Int32) ≤ x ∧ x ≤ nI c - 1) from fun q => absurd hx (Int32.not_lt.mpr q.1)), if_pos (show (0 : Int32) = 0 from rfl), show fB c x μ = -1 from if_pos hx]
  obtain ⟨n, hn, rfl⟩ := nI_of hx
  by_cases hnc : n < c
  · obtain ⟨d, rfl⟩ : ∃ d, c = d + 1 := ⟨c - 1, by omega⟩
    rw [nI_pred, r_ok (by omega) (by omega), bnd_some, if_neg ne10, ckI_nI (show n < mil.getD 13 0 from Nat.lt_of_lt_of_le hnc (Nat.le_trans hc (by decide))) (by decide), nI_clamp hn]
    obtain ⟨e1, m, hm, e2⟩ := hb n hnc
    have e3 : fB (d + 1) (nI n) μ = μ.1 28 13 n := by
      unfold fB chB
      rw [if_neg hx, if_pos (nI_lt hnc (by omega)), nI_clamp hn, e1, e2, chr_id m hm]
    rw [e3]
    rfl
  · have e3 : fB c (nI n) μ = -1 := by
      unfold fB
      rw [if_neg hx, if_neg (nI_nlt (Nat.le_of_not_lt hnc) hn)]
    have h0 : ¬ ((0 : Int32) ≤ nI n ∧ nI n ≤ nI c - 1) := by
      rintro ⟨-, q⟩
      match c, hnc with
      | 0, _ =>
        have : nI n ≤ -1 := q
        exact absurd (Int32.le_trans (nI_pos' hn) this) (by decide)
      | d + 1, hnc =>
        rw [nI_pred] at q
        have := (nI_leI hn (by omega)).mp q
        omega
    rw [r_inRange, bnd_some, if_neg h0, if_pos (show (0 : Int32) = 0 from rfl), e3]
noncomputable def cs39 (c : Nat) (xs : Nat → Int32) (SL : Nat) (i : Int32) (μ : Mem) : Option Mem :=
  ckI (i + (1 : Int32)) SL <|
  bnd (grd (SBQ c μ) (some (fB c (xs (i + (1 : Int32)).toNatClampNeg) μ, μ))) fun x2 μ1 =>
  ckI (i + (1 : Int32)) SL <|
  bndJ μ1 (fX13_formattedByte 0 (xs (i + (1 : Int32)).toNatClampNeg) (kJ μ μ1)) fun x4 μ3 =>
  if x2 = x4 then (
    some μ3
  ) else (
    none
  )
set_option maxHeartbeats 4000000 in
set_option maxRecDepth 100000 in
theorem lcz39 {X : CX} (hT : (xl X).stackTraces = false) (V : 2 ≤ xv X) (C : Ok X RL cL_law) (R0 : Rm X 2048 84000 601024 7293034) (hN : ∀ i : Nat, i < 8 → i < xn X) {bs SL : Nat} {xs : Nat → Int32} (S : Scr X bs SL xs) (c : Nat) {ca sl : Nat} (hc : ca + 0 ≤ 601024) (hs : sl + 0 ≤ 7293034) (i : Int32) (μ r0 : Mem) (H0 : J X (ca + 0) (sl + 0) r0 2636 [(4, .int i), (0, .ref bs), (1, .ref (xa X 0 0)), (2, .ref (xa X 26 0)), (3, .ref (xa X 31 0))] []) : G X r0 ca sl μ 2505 [(4, .int i), (0, .ref bs), (1, .ref (xa X 0 0)), (2, .ref (xa X 26 0)), (3, .ref (xa X 31 0))] [] (cs39 c xs SL i μ) := by
  unfold cs39
  refine s_aload_n C dL_law_2505 rfl 2 rfl ?_
  refine s_aload_n C dL_law_2506 rfl 1 rfl ?_
  refine s_iload C dL_law_2507 0 rfl ?_
  refine s_iconst (v := (1 : Int32)) C dL_law_2509 (by decide) ?_
  refine s_iadd C dL_law_2510 ?_
  refine s_sld C S dL_law_2511 ?_
  refine s_callV (f := fun m => grd (SBQ c m) (some (fB c (xs (i + (1 : Int32)).toNatClampNeg) m, m))) (As := [.int (xs (i + (1 : Int32)).toNatClampNeg)]) C R0 (kX12_formattedByte (xl X) c (xs (i + (1 : Int32)).toNatClampNeg)) (Nat.zero_le _) mmX12_formattedByte miX12_formattedByte q823 (rc0 _) (by decide) rfl rfl rfl (Nat.le_of_ble_eq_true rfl) ⟨Nat.le_of_ble_eq_true rfl, Nat.le_of_ble_eq_true rfl, by omega, by omega⟩ dL_law_2512 (fun x2 μ1 => ?_)
  refine g_st (st' := [.int x2]) rfl ?_
  refine s_aload_n C dL_law_2515 rfl 3 rfl ?_
  refine s_aload_n C dL_law_2516 rfl 1 rfl ?_
  refine s_iload C dL_law_2517 0 rfl ?_
  refine s_iconst (v := (1 : Int32)) C dL_law_2519 (by decide) ?_
  refine s_iadd C dL_law_2520 ?_
  refine s_sld C S dL_law_2521 ?_
  refine s_callM C R0 V (kX13_formattedByte (xl X) 0 (by decide) (xs (i + (1 : Int32)).toNatClampNeg)) mmX13_formattedByte miX13_formattedByte q2836 (rc26 (Nat.le_trans (by decide) V)) (by decide) rfl rfl rfl (Nat.le_of_ble_eq_true rfl) ⟨Nat.le_of_ble_eq_true rfl, Nat.le_of_ble_eq_true rfl, by omega, by omega⟩ dL_law_2522 (fun x4 μ3 => ?_)
  refine g_st (st' := [.int x4, .int x2]) rfl ?_
  refine s_icmp_eq (tgt := 2636) C dL_law_2525 (by decide) (fun c5 => ?_) (fun c5 => ?_)
  · exact g_endL (ca1 := ca + 0) (sl1 := sl + 0) (by omega) (by omega) [0, 1, 2, 3, 4] rfl H0
  · refine s_iconst (v := (0 : Int32)) C dL_law_2528 (by decide) ?_
    exact g_none
theorem lk_39 : CaseOK Inv 2505 := by
  intro X hT V C R0 hN bs SL xs S ca sl k c1 c2 c3 c4 μ hI H0
  obtain ⟨p, hR, hI2⟩ := id hI
  obtain ⟨hF, c, hs, hc, hb⟩ := id hI2
  have hI' : Inv (wI μ 26 0 6 0) := ⟨p, rel_thrown hR, inv2_t hI2⟩
  have h0 := H0 (xa X 33 0) (wI μ 26 0 6 0) (by rw [sx_self]; exact C) hI'
  rw [sx_self] at h0
  refine lcz39 hT V C R0 hN S c (by omega) (by omega) (nI (6 * k)) μ (wI μ 26 0 6 0) (j_wid (by omega) (by omega) h0) ?_
  have ek : nI (6 * k) + (1 : Int32) = nI (6 * k + 1) := nI_1 _
  unfold cs39
  rw [ek, ckI_nI (by omega) (by omega), grd_ok hs, bnd_some, ckI_nI (by omega) (by omega), kJ_id (μ := μ) (μ1 := μ) rfl rfl (fun _ _ _ _ => rfl), m_fbyte hs.2.2.2.1 hc hb, bndJ_some]
  rw [kJ_wI]
  exact if_pos rfl
