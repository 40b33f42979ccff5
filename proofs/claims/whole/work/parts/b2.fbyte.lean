/-! THE BUILDER'S READING METHODS -/
theorem q708 : (Cond.superclass "java/lang/StringBuilder" "java/lang/AbstractStringBuilder") ∈ tb := tb_of (lw_c3 (List.mem_of_getElem? (i := 74) (by decide +kernel))) rfl
theorem q2882 : (Cond.sameMethod "java/lang/AbstractStringBuilder" "java/lang/AbstractStringBuilder" "length" "()I") ∈ tb := tb_of (lw_c12 (List.mem_of_getElem? (i := 88) (by decide +kernel))) rfl
theorem q2883 : (Cond.sameMethod "java/lang/AbstractStringBuilder" "java/lang/AbstractStringBuilder" "charAt" "(I)C") ∈ tb := tb_of (lw_c12 (List.mem_of_getElem? (i := 89) (by decide +kernel))) rfl
theorem inJ4 : ∀ w ∈ u_ws RJ4 TJ4 4, w ∈ tb := u_in (fun k hk => match k, hk with
  | 0, _ => q700
  | 1, _ => q702
  | 2, _ => q704
  | 3, _ => q706
  | _ + 4, hk => absurd hk (by omega))
theorem fgJ5_15_32 (vv : Nat) : FG vv RJ5 15 32 1 0 (some (33, some (fun _ => 0))) := ⟨1, _, RJ4, TJ4, kk32 _, rfl, inJ4, rfl, q695⟩
theorem fgJ5_22_32 (vv : Nat) : FG vv RJ5 22 32 1 1 (none) := ⟨1, _, RJ4, TJ4, kk32 _, rfl, inJ4, rfl, q696⟩
theorem fgJ5_79_32 (vv : Nat) : FG vv RJ5 79 32 1 3 (none) := ⟨1, _, RJ4, TJ4, kk32 _, rfl, inJ4, rfl, q699⟩
theorem miJ4_charAt_5068e : MI yJ4_charAt_5068e := ⟨q835, q836⟩
theorem miJ4_length_8abf5 : MI yJ4_length_8abf5 := ⟨q828, q829⟩
theorem mmJ4_charAt_5068e : MM yJ4_charAt_5068e cJ4_charAt_5068e 2 (some .char) 1 := ⟨q169, q837, by decide +kernel, by decide +kernel, by decide +kernel⟩
theorem mmJ4_length_8abf5 : MM yJ4_length_8abf5 cJ4_length_8abf5 1 (some .int) 0 := ⟨q169, q830, by decide +kernel, by decide +kernel, by decide +kernel⟩
theorem mmJ5_charAt_5068e : MM yJ5_charAt_5068e cJ5_charAt_5068e 5 (some .char) 1 := ⟨q168, q840, by decide +kernel, by decide +kernel, by decide +kernel⟩
theorem mmJ5_length_8abf5 : MM yJ5_length_8abf5 cJ5_length_8abf5 1 (some .int) 0 := ⟨q168, q833, by decide +kernel, by decide +kernel, by decide +kernel⟩
theorem kJ5_length_8abf5 (l : Launch) : Kon 0 l yJ5_length_8abf5 cJ5_length_8abf5 1 (some .int) 0 0 0 0 (fun ad => [.ref (ad 32 0)]) rvI (fun μ => some (μ.1 32 0 3, μ)) := by
  refine kon_of (by decide) (fun _ => Nat.le_of_ble_eq_true rfl) (fun X r0 μ hXl hXn V C E => ?_)
  have hN : ∀ i : Nat, i < 1 → i < xn X := fun i h => hXn.symm ▸ h
  have R0 := fen_rm E
  show G X r0 0 0 μ 0 [(0, .ref (xa X 32 0))] [] (some (μ.1 32 0 3, μ))
  refine s_aload_n C dJ5_length_8abf5_0 rfl 0 rfl ?_
  refine s_getI C (fgJ5_79_32 _) (by decide) dJ5_length_8abf5_1 ?_
  exact s_iret C E dJ5_length_8abf5_4
theorem kJ4_length_8abf5 (l : Launch) : Kon 0 l yJ4_length_8abf5 cJ4_length_8abf5 1 (some .int) 1 20 0 0 (fun ad => [.ref (ad 32 0)]) rvI (fun μ => some (μ.1 32 0 3, μ)) := by
  refine kon_of (by decide) (fun _ => Nat.le_of_ble_eq_true rfl) (fun X r0 μ hXl hXn V C E => ?_)
  have hN : ∀ i : Nat, i < 1 → i < xn X := fun i h => hXn.symm ▸ h
  have R0 := fen_rm E
  show G X r0 0 0 μ 0 [(0, .ref (xa X 32 0))] [] (some (μ.1 32 0 3, μ))
  refine s_aload_n C dJ4_length_8abf5_0 rfl 0 rfl ?_
  refine b_call (r := μ.1 32 0 3) (μ' := μ) rfl (s_callSU (n := 0) C R0 (kJ5_length_8abf5 (xl X)) (Nat.zero_le _) (mmJ5_length_8abf5) q832 q2882 q708 (by decide) q831 rfl rfl rfl (Nat.le_of_ble_eq_true rfl) ⟨Nat.le_of_ble_eq_true rfl, Nat.le_of_ble_eq_true rfl, Nat.le_of_ble_eq_true rfl, Nat.le_of_ble_eq_true rfl⟩ dJ4_length_8abf5_1 (fun r2 μ2 hq => ?_))
  obtain ⟨e2, e3⟩ := grd_inv hq
  cases e2
  exact s_iret C E dJ4_length_8abf5_4 e3
theorem shr_0 (x : Int32) : x >>> ((0 : Int32) &&& 31) = x := by
  have e : (x >>> ((0 : Int32) &&& 31)).toBitVec = x.toBitVec := by
    show x.toBitVec.sshiftRight _ = _
    show x.toBitVec.sshiftRight 0 = _
    simp
  exact Int32.toBitVec_inj.mp e
def chB (n : Nat) (μ : Mem) : Int32 := ((μ.1 33 0 n &&& 255).toUInt32 % 65536).toInt32
noncomputable def fCh (c n : Nat) (μ : Mem) : Option (Int32 × Mem) := grd (μ.1 32 0 1 = 0 ∧ μ.1 32 0 3 = nI c ∧ c ≤ bcap μ ∧ bcap μ ≤ 140 ∧ n < c) (some (chB n μ, μ))
theorem kJ5_charAt_5068e (l : Launch) (c n : Nat) : Kon 0 l yJ5_charAt_5068e cJ5_charAt_5068e 5 (some .char) 2 64 0 0 (fun ad => [.ref (ad 32 0), .int (nI n)]) rvI (fun μ => fCh c n μ) := by
  refine kon_of (by decide) (fun _ => Nat.le_of_ble_eq_true rfl) (fun X r0 μ hXl hXn V C E => ?_)
  have hN : ∀ i : Nat, i < 5 → i < xn X := fun i h => hXn.symm ▸ h
  have R0 := fen_rm E
  intro h
  obtain ⟨⟨p1, p2, p3, p4, p5⟩, h2⟩ := grd_inv h
  have hc2 : c ≤ 140 := Nat.le_trans p3 p4
  have hmin : (if (Int32.ofNat (μ.2.1 33 0 0)) >>> (μ.1 32 0 1 &&& 31) < μ.1 32 0 3 then (Int32.ofNat (μ.2.1 33 0 0)) >>> (μ.1 32 0 1 &&& 31) else μ.1 32 0 3) = nI c := by
    rw [p1, p2, shr_0]
    exact if_neg (nI_nlt (a := bcap μ) (b := c) p3 (Nat.lt_of_le_of_lt p4 (by decide)))
  revert h2
  show G X r0 0 0 μ 0 [(0, .ref (xa X 32 0)), (1, .int (nI n))] [] (some (chB n μ, μ))
  refine s_aload_n C dJ5_charAt_5068e_0 rfl 0 rfl ?_
  refine s_getI C ((fgJ5_22_32 _)) (by decide) dJ5_charAt_5068e_1 ?_
  refine s_istore_n C dJ5_charAt_5068e_4 rfl (hN 2 (by decide)) rfl ?_
  refine s_aload_n C dJ5_charAt_5068e_5 rfl 1 rfl ?_
  refine s_getF C ((fgJ5_15_32 _)) (by decide) dJ5_charAt_5068e_6 ?_
  refine s_astore_n C dJ5_charAt_5068e_9 rfl (hN 3 (by decide)) rfl ?_
  refine s_aload_n C dJ5_charAt_5068e_10 rfl 2 rfl ?_
  refine s_getI C ((fgJ5_79_32 _)) (by decide) dJ5_charAt_5068e_11 ?_
  refine s_aload_n C dJ5_charAt_5068e_14 rfl 0 rfl ?_
  refine b_alen C (by decide) dJ5_charAt_5068e_15 ?_
  refine s_iload_n C dJ5_charAt_5068e_16 rfl 1 rfl ?_
  refine s_ishr C dJ5_charAt_5068e_17 ?_
  refine s_mmin C R0 q841 q726 q172 q727 ⟨Nat.le_of_ble_eq_true rfl, Nat.le_of_ble_eq_true rfl, Nat.le_of_ble_eq_true rfl, Nat.le_of_ble_eq_true rfl⟩ dJ5_charAt_5068e_18 ?_
  refine g_st (st' := [.int (nI c)]) (by rw [hmin]) ?_
  refine s_istore C dJ5_charAt_5068e_21 (hN 4 (by decide)) rfl ?_
  refine s_iload_n C dJ5_charAt_5068e_23 rfl 4 rfl ?_
  refine s_iload C dJ5_charAt_5068e_24 0 rfl ?_
  refine b_call (r := ()) (μ' := μ) (by unfold fJ0_checkIndex_df160; rw [if_neg (nI_pos (by omega)), if_pos (nI_lt p5 (by omega))]) (s_callF (n := 2) C R0 (kJ0_checkIndex_df160 (xl X) (nI n) (nI c)) (Nat.zero_le _) mmJ0_checkIndex_df160 q843 q842 rfl rfl rfl (Nat.le_of_ble_eq_true rfl) ⟨Nat.le_of_ble_eq_true rfl, Nat.le_of_ble_eq_true rfl, Nat.le_of_ble_eq_true rfl, Nat.le_of_ble_eq_true rfl⟩ dJ5_charAt_5068e_26 (fun r2 μ2 hq => ?_))
  obtain ⟨e2, e3⟩ := grd_inv hq
  cases e2
  revert e3
  show G X r0 0 0 μ 29 [(4, .int (nI c)), (3, .ref (xa X 33 0)), (2, .int (μ.1 32 0 1)), (0, .ref (xa X 32 0)), (1, .int (nI n))] [] (some (chB n μ, μ))
  refine s_iload_n C dJ5_charAt_5068e_29 rfl 2 rfl ?_
  refine b_if_ne (tgt := 42) C dJ5_charAt_5068e_30 (by decide) (fun h => absurd p1 h) (fun _ => ?_)
  refine s_aload_n C dJ5_charAt_5068e_33 rfl 1 rfl ?_
  refine s_iload_n C dJ5_charAt_5068e_34 rfl 4 rfl ?_
  refine b_bald C (by decide) (nI_in (Nat.lt_of_lt_of_le p5 p3) (Nat.lt_of_le_of_lt p4 (by decide))) dJ5_charAt_5068e_35 ?_
  refine s_sipush (v := (255 : Int32)) C dJ5_charAt_5068e_36 (by decide) ?_
  refine s_iand C dJ5_charAt_5068e_39 ?_
  refine s_i2c C dJ5_charAt_5068e_40 ?_
  refine g_st (st' := [.int (chB n μ)]) (by unfold chB; rw [nI_clamp (n := n) (by omega)]) ?_
  exact s_nret C E (pk_nc _) dJ5_charAt_5068e_41
theorem kJ4_charAt_5068e (l : Launch) (c n : Nat) : Kon 0 l yJ4_charAt_5068e cJ4_charAt_5068e 2 (some .char) 3 88 0 0 (fun ad => [.ref (ad 32 0), .int (nI n)]) rvI (fun μ => fCh c n μ) := by
  refine kon_of (by decide) (fun _ => Nat.le_of_ble_eq_true rfl) (fun X r0 μ hXl hXn V C E => ?_)
  have R0 := fen_rm E
  intro h
  obtain ⟨hp, h2⟩ := grd_inv h
  have hf : fCh c n μ = some (chB n μ, μ) := grd_ok hp
  revert h2
  show G X r0 0 0 μ 0 [(0, .ref (xa X 32 0)), (1, .int (nI n))] [] (some (chB n μ, μ))
  refine s_aload_n C dJ4_charAt_5068e_0 rfl 0 rfl ?_
  refine s_iload_n C dJ4_charAt_5068e_1 rfl 1 rfl ?_
  refine b_call (r := chB n μ) (μ' := μ) hf (s_callSU (n := 1) (As := [.int (nI n)]) (st := []) C R0 (kJ5_charAt_5068e (xl X) c n) (Nat.zero_le _) (mmJ5_charAt_5068e) q839 q2883 q708 (by decide) q838 rfl rfl rfl (Nat.le_of_ble_eq_true rfl) ⟨Nat.le_of_ble_eq_true rfl, Nat.le_of_ble_eq_true rfl, Nat.le_of_ble_eq_true rfl, Nat.le_of_ble_eq_true rfl⟩ dJ4_charAt_5068e_2 (fun r2 μ2 hq => ?_))
  obtain ⟨e2, e3⟩ := grd_inv hq
  cases e2
  exact s_nret C E (pk_nc _) dJ4_charAt_5068e_5 e3
theorem rc32 (vv : Nat) : RC vv 32 1 "java/lang/StringBuilder" := ⟨1, _, TJ4, 4, kk32 _, rfl⟩
def fB (c : Nat) (x : Int32) (μ : Mem) : Int32 := if x < 0 then -1 else if x < nI c then chB x.toNatClampNeg μ else -1
theorem kX12_formattedByte (l : Launch) (c : Nat) (x : Int32) : Kon 0 l yX12_formattedByte cX12_formattedByte 2 (some .int) 4 109 0 0 (fun ad => [.ref (ad 0 0), .int x]) rvI (fun μ => grd (SBQ c μ) (some (fB c x μ, μ))) := by
  refine kon_of (by decide) (fun _ => Nat.le_of_ble_eq_true rfl) (fun X r0 μ hXl hXn V C E => ?_)
  have R0 := fen_rm E
  intro h
  obtain ⟨⟨s1, s2, s3, s4, s5, s6⟩, h2⟩ := grd_inv h
  by_cases hx : x < 0
  · rw [show fB c x μ = -1 from if_pos hx] at h2
    revert h2
    show G X r0 0 0 μ 0 [(0, .ref (xa X 0 0)), (1, .int x)] [] (some (-1, μ))
    refine s_iload_n C dX12_formattedByte_0 rfl 1 rfl ?_
    refine b_if_lt (tgt := 15) C dX12_formattedByte_1 (by decide) (fun _ => ?_) (fun h => absurd hx h)
    refine s_iconst (v := (-1 : Int32)) C dX12_formattedByte_15 (by decide) ?_
    refine s_goto (tgt := 27) C dX12_formattedByte_16 (by decide) ?_
    exact s_iret C E dX12_formattedByte_27
  obtain ⟨n, hn, rfl⟩ := nI_of hx
  by_cases hc : n < c
  · rw [show fB c (nI n) μ = chB n μ by unfold fB; rw [if_neg hx, if_pos (nI_lt hc (by omega)), nI_clamp hn]] at h2
    revert h2
    show G X r0 0 0 μ 0 [(0, .ref (xa X 0 0)), (1, .int (nI n))] [] (some (chB n μ, μ))
    refine s_iload_n C dX12_formattedByte_0 rfl 1 rfl ?_
    refine b_if_lt (tgt := 15) C dX12_formattedByte_1 (by decide) (fun h => absurd h hx) (fun _ => ?_)
    refine s_iload_n C dX12_formattedByte_4 rfl 1 rfl ?_
    refine s_aload_n C dX12_formattedByte_5 rfl 0 rfl ?_
    refine s_getF C (fgX12_96_0 _) (by decide) dX12_formattedByte_6 ?_
    refine b_call (r := μ.1 32 0 3) (μ' := μ) rfl (s_callV (n := 0) (As := []) (st := [.int (nI n)]) C R0 (kJ4_length_8abf5 (xl X)) (Nat.zero_le _) mmJ4_length_8abf5 miJ4_length_8abf5 q827 (rc32 _) (by decide) rfl rfl rfl (Nat.le_of_ble_eq_true rfl) ⟨Nat.le_of_ble_eq_true rfl, Nat.le_of_ble_eq_true rfl, Nat.le_of_ble_eq_true rfl, Nat.le_of_ble_eq_true rfl⟩ dX12_formattedByte_9 (fun r2 μ2 hq => ?_))
    obtain ⟨e2, e3⟩ := grd_inv hq
    cases e2
    revert e3
    show G X r0 0 0 μ 12 [(0, .ref (xa X 0 0)), (1, .int (nI n))] [.int (μ.1 32 0 3), .int (nI n)] (some (chB n μ, μ))
    refine b_icmp_lt (tgt := 19) C dX12_formattedByte_12 (by decide) (fun _ => ?_) (fun h => absurd (by rw [s5]; exact nI_lt hc (by omega)) h)
    refine s_aload_n C dX12_formattedByte_19 rfl 0 rfl ?_
    refine s_getF C (fgX12_96_0 _) (by decide) dX12_formattedByte_20 ?_
    refine s_iload_n C dX12_formattedByte_23 rfl 1 rfl ?_
    refine b_call (r := chB n μ) (μ' := μ) (f := fCh c n μ) (grd_ok ⟨s1, s5, s3, s2, hc⟩) (s_callV (n := 1) (As := [.int (nI n)]) (st := []) C R0 (kJ4_charAt_5068e (xl X) c n) (Nat.zero_le _) mmJ4_charAt_5068e miJ4_charAt_5068e q834 (rc32 _) (by decide) rfl rfl rfl (Nat.le_of_ble_eq_true rfl) ⟨Nat.le_of_ble_eq_true rfl, Nat.le_of_ble_eq_true rfl, Nat.le_of_ble_eq_true rfl, Nat.le_of_ble_eq_true rfl⟩ dX12_formattedByte_24 (fun r2 μ2 hq => ?_))
    obtain ⟨e2, e3⟩ := grd_inv hq
    cases e2
    exact s_iret C E dX12_formattedByte_27 e3
  · rw [show fB c (nI n) μ = -1 by unfold fB; rw [if_neg hx, if_neg (nI_nlt (Nat.le_of_not_lt hc) hn)]] at h2
    revert h2
    show G X r0 0 0 μ 0 [(0, .ref (xa X 0 0)), (1, .int (nI n))] [] (some (-1, μ))
    refine s_iload_n C dX12_formattedByte_0 rfl 1 rfl ?_
    refine b_if_lt (tgt := 15) C dX12_formattedByte_1 (by decide) (fun h => absurd h hx) (fun _ => ?_)
    refine s_iload_n C dX12_formattedByte_4 rfl 1 rfl ?_
    refine s_aload_n C dX12_formattedByte_5 rfl 0 rfl ?_
    refine s_getF C (fgX12_96_0 _) (by decide) dX12_formattedByte_6 ?_
    refine b_call (r := μ.1 32 0 3) (μ' := μ) rfl (s_callV (n := 0) (As := []) (st := [.int (nI n)]) C R0 (kJ4_length_8abf5 (xl X)) (Nat.zero_le _) mmJ4_length_8abf5 miJ4_length_8abf5 q827 (rc32 _) (by decide) rfl rfl rfl (Nat.le_of_ble_eq_true rfl) ⟨Nat.le_of_ble_eq_true rfl, Nat.le_of_ble_eq_true rfl, Nat.le_of_ble_eq_true rfl, Nat.le_of_ble_eq_true rfl⟩ dX12_formattedByte_9 (fun r2 μ2 hq => ?_))
    obtain ⟨e2, e3⟩ := grd_inv hq
    cases e2
    revert e3
    show G X r0 0 0 μ 12 [(0, .ref (xa X 0 0)), (1, .int (nI n))] [.int (μ.1 32 0 3), .int (nI n)] (some (-1, μ))
    refine b_icmp_lt (tgt := 19) C dX12_formattedByte_12 (by decide) (fun h => absurd h (by rw [s5]; exact nI_nlt (Nat.le_of_not_lt hc) hn)) (fun _ => ?_)
    refine s_iconst (v := (-1 : Int32)) C dX12_formattedByte_15 (by decide) ?_
    refine s_goto (tgt := 27) C dX12_formattedByte_16 (by decide) ?_
    exact s_iret C E dX12_formattedByte_27
