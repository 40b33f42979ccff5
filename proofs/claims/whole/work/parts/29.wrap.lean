/-! the law's wrappers -/
def fL_load (fu : Nat) (n0 : Nat) (p1 : Int32) (n2 : Nat) (μ : Mem) : Option (Int32 × Mem) :=
  catX (fX12_load fu n0 p1 μ) (fun e3 μ0 => if e3 = 2 then some ((1 : Int32), μ0) else none) fun x2 μ1 =>
  ckI (0 : Int32) (1) <|
  nm (wJ μ1 31 n2 (0 : Int32).toNatClampNeg (x2.toInt64)) fun μ4 =>
  some ((0 : Int32), μ4)
set_option maxHeartbeats 4000000 in
set_option maxRecDepth 100000 in
theorem kL_load (l : Launch) (hls : l.stackTraces = false) (fu : Nat) (n0 : Nat) (g0 : n0 < 1) (p1 : Int32) (n2 : Nat) (g2 : n2 < 1) : KonH 2 l yL_load cL_load 4 (some .int) [(0, 9, 12, 13)] 9 204 1 6 (fun ad => [.ref (ad 0 n0), .int p1, .ref (ad 31 n2)]) rvI (fun μ => fL_load fu n0 p1 n2 μ) := by
  refine konH_of (by decide) (fun _ => Nat.le_of_ble_eq_true rfl) (fun X r0 μ hXl hXn V C E TB => ?_)
  have hN : ∀ i : Nat, i < 4 → i < xn X := fun i h => hXn.symm ▸ h
  have R0 := fen_rm E
  have hT : (xl X).stackTraces = false := hXl.symm ▸ hls
  show G X r0 0 0 μ 0 [(0, .ref (xa X 0 n0)), (1, .int p1), (2, .ref (xa X 31 n2))] [] (fL_load fu n0 p1 n2 μ)
  unfold fL_load
  refine s_aload_n C dL_load_0 rfl 2 rfl ?_
  refine s_iconst (v := (0 : Int32)) C dL_load_1 (by decide) ?_
  refine s_aload_n C dL_load_2 rfl 0 rfl ?_
  refine s_iload_n C dL_load_3 rfl 1 rfl ?_
  refine s_callC1 (k0 := 2) C R0 TB (kX12_load (xl X) hT fu n0 g0 p1) (Nat.le_trans (by decide) V) mmX12_load miX12_load q899 (rc0 _) g0 ⟨by decide, by decide⟩ (by decide) q898 qn905 rfl rfl rfl (Nat.le_of_ble_eq_true rfl) ⟨Nat.le_of_ble_eq_true rfl, Nat.le_of_ble_eq_true rfl, Nat.le_of_ble_eq_true rfl, Nat.le_of_ble_eq_true rfl⟩ dL_load_4 (fun q μ0 => ?_) (fun e h μ0 => if_neg h) (fun x2 μ1 => ?_)
  · refine g_eqo (o' := some ((1 : Int32), μ0)) (by first | rfl | simp) ?_
    refine s_astore_n (L' := [(3, .ref q), (0, .ref (xa X 0 n0)), (1, .int p1), (2, .ref (xa X 31 n2))]) C dL_load_12 rfl (hN 3 (by decide)) rfl ?_
    refine s_iconst (v := (1 : Int32)) C dL_load_13 (by decide) ?_
    exact s_iret C E dL_load_14
  refine g_st (st' := [.int x2, .int (0 : Int32), .ref (xa X 31 n2)]) rfl ?_
  refine s_i2l C dL_load_7 ?_
  refine s_last C (ag31 V) g2 dL_load_8 ?_
  refine g_nmM (fun μ4 => ?_)
  refine s_goto (tgt := 15) C dL_load_9 (by decide) ?_
  refine s_iconst (v := (0 : Int32)) C dL_load_15 (by decide) ?_
  exact s_iret C E dL_load_16
def fL_level (n0 : Nat) (p1 : Int32) (n2 : Nat) (μ : Mem) : Option (Int32 × Mem) :=
  catX (fX12_level n0 p1 μ) (fun e3 μ0 => if e3 = 1 then some ((1 : Int32), μ0) else none) fun x2 μ1 =>
  ckI (0 : Int32) (1) <|
  nm (wJ μ1 31 n2 (0 : Int32).toNatClampNeg (x2.toInt64)) fun μ4 =>
  some ((0 : Int32), μ4)
set_option maxHeartbeats 4000000 in
set_option maxRecDepth 100000 in
theorem kL_level (l : Launch) (hls : l.stackTraces = false) (n0 : Nat) (g0 : n0 < 1) (p1 : Int32) (n2 : Nat) (g2 : n2 < 1) : KonH 2 l yL_level cL_level 4 (some .int) [(0, 9, 12, 18)] 8 130 1 6 (fun ad => [.ref (ad 0 n0), .int p1, .ref (ad 31 n2)]) rvI (fun μ => fL_level n0 p1 n2 μ) := by
  refine konH_of (by decide) (fun _ => Nat.le_of_ble_eq_true rfl) (fun X r0 μ hXl hXn V C E TB => ?_)
  have hN : ∀ i : Nat, i < 4 → i < xn X := fun i h => hXn.symm ▸ h
  have R0 := fen_rm E
  have hT : (xl X).stackTraces = false := hXl.symm ▸ hls
  show G X r0 0 0 μ 0 [(0, .ref (xa X 0 n0)), (1, .int p1), (2, .ref (xa X 31 n2))] [] (fL_level n0 p1 n2 μ)
  unfold fL_level
  refine s_aload_n C dL_level_0 rfl 2 rfl ?_
  refine s_iconst (v := (0 : Int32)) C dL_level_1 (by decide) ?_
  refine s_aload_n C dL_level_2 rfl 0 rfl ?_
  refine s_iload_n C dL_level_3 rfl 1 rfl ?_
  refine s_callC1 (k0 := 1) C R0 TB (kX12_level (xl X) hT n0 g0 p1) (Nat.le_trans (by decide) V) mmX12_level miX12_level q1213 (rc0 _) g0 ⟨by decide, by decide⟩ (by decide) q1212 qn1222 rfl rfl rfl (Nat.le_of_ble_eq_true rfl) ⟨Nat.le_of_ble_eq_true rfl, Nat.le_of_ble_eq_true rfl, Nat.le_of_ble_eq_true rfl, Nat.le_of_ble_eq_true rfl⟩ dL_level_4 (fun q μ0 => ?_) (fun e h μ0 => if_neg h) (fun x2 μ1 => ?_)
  · refine g_eqo (o' := some ((1 : Int32), μ0)) (by first | rfl | simp) ?_
    refine s_astore_n (L' := [(3, .ref q), (0, .ref (xa X 0 n0)), (1, .int p1), (2, .ref (xa X 31 n2))]) C dL_level_12 rfl (hN 3 (by decide)) rfl ?_
    refine s_iconst (v := (1 : Int32)) C dL_level_13 (by decide) ?_
    exact s_iret C E dL_level_14
  refine g_st (st' := [.int x2, .int (0 : Int32), .ref (xa X 31 n2)]) rfl ?_
  refine s_i2l C dL_level_7 ?_
  refine s_last C (ag31 V) g2 dL_level_8 ?_
  refine g_nmM (fun μ4 => ?_)
  refine s_goto (tgt := 15) C dL_level_9 (by decide) ?_
  refine s_iconst (v := (0 : Int32)) C dL_level_15 (by decide) ?_
  exact s_iret C E dL_level_16
def fL_latch (n0 : Nat) (p1 : Int32) (n2 : Nat) (μ : Mem) : Option (Int32 × Mem) :=
  catX (fX12_latch n0 p1 μ) (fun e3 μ0 => if e3 = 1 then some ((1 : Int32), μ0) else none) fun x2 μ1 =>
  ckI (0 : Int32) (1) <|
  nm (wJ μ1 31 n2 (0 : Int32).toNatClampNeg (x2.toInt64)) fun μ4 =>
  some ((0 : Int32), μ4)
set_option maxHeartbeats 4000000 in
set_option maxRecDepth 100000 in
theorem kL_latch (l : Launch) (hls : l.stackTraces = false) (n0 : Nat) (g0 : n0 < 1) (p1 : Int32) (n2 : Nat) (g2 : n2 < 1) : KonH 2 l yL_latch cL_latch 4 (some .int) [(0, 9, 12, 18)] 8 130 1 6 (fun ad => [.ref (ad 0 n0), .int p1, .ref (ad 31 n2)]) rvI (fun μ => fL_latch n0 p1 n2 μ) := by
  refine konH_of (by decide) (fun _ => Nat.le_of_ble_eq_true rfl) (fun X r0 μ hXl hXn V C E TB => ?_)
  have hN : ∀ i : Nat, i < 4 → i < xn X := fun i h => hXn.symm ▸ h
  have R0 := fen_rm E
  have hT : (xl X).stackTraces = false := hXl.symm ▸ hls
  show G X r0 0 0 μ 0 [(0, .ref (xa X 0 n0)), (1, .int p1), (2, .ref (xa X 31 n2))] [] (fL_latch n0 p1 n2 μ)
  unfold fL_latch
  refine s_aload_n C dL_latch_0 rfl 2 rfl ?_
  refine s_iconst (v := (0 : Int32)) C dL_latch_1 (by decide) ?_
  refine s_aload_n C dL_latch_2 rfl 0 rfl ?_
  refine s_iload_n C dL_latch_3 rfl 1 rfl ?_
  refine s_callC1 (k0 := 1) C R0 TB (kX12_latch (xl X) hT n0 g0 p1) (Nat.le_trans (by decide) V) mmX12_latch miX12_latch q1239 (rc0 _) g0 ⟨by decide, by decide⟩ (by decide) q1212 qn1222 rfl rfl rfl (Nat.le_of_ble_eq_true rfl) ⟨Nat.le_of_ble_eq_true rfl, Nat.le_of_ble_eq_true rfl, Nat.le_of_ble_eq_true rfl, Nat.le_of_ble_eq_true rfl⟩ dL_latch_4 (fun q μ0 => ?_) (fun e h μ0 => if_neg h) (fun x2 μ1 => ?_)
  · refine g_eqo (o' := some ((1 : Int32), μ0)) (by first | rfl | simp) ?_
    refine s_astore_n (L' := [(3, .ref q), (0, .ref (xa X 0 n0)), (1, .int p1), (2, .ref (xa X 31 n2))]) C dL_latch_12 rfl (hN 3 (by decide)) rfl ?_
    refine s_iconst (v := (1 : Int32)) C dL_latch_13 (by decide) ?_
    exact s_iret C E dL_latch_14
  refine g_st (st' := [.int x2, .int (0 : Int32), .ref (xa X 31 n2)]) rfl ?_
  refine s_i2l C dL_latch_7 ?_
  refine s_last C (ag31 V) g2 dL_latch_8 ?_
  refine g_nmM (fun μ4 => ?_)
  refine s_goto (tgt := 15) C dL_latch_9 (by decide) ?_
  refine s_iconst (v := (0 : Int32)) C dL_latch_15 (by decide) ?_
  exact s_iret C E dL_latch_16
def fL_isOutput (n0 : Nat) (p1 : Int32) (n2 : Nat) (μ : Mem) : Option (Int32 × Mem) :=
  jn (fun (μ1 : Mem) (a2 : Nat) (x4 : Int32) (y5 : Int64) =>
    ckI x4 (1) <|
    nm (wJ μ1 31 a2 x4.toNatClampNeg y5) fun μ6 =>
    some ((0 : Int32), μ6)
  ) fun j15 =>
  catX (fX12_isOutput n0 p1 μ) (fun e9 μ0 => if e9 = 1 then some ((1 : Int32), μ0) else none) fun x8 μ7 =>
  if x8 = 0 then (
    j15 μ7 n2 (0 : Int32) (0 : Int64)
  ) else (
    j15 μ7 n2 (0 : Int32) (1 : Int64)
  )
set_option maxHeartbeats 4000000 in
set_option maxRecDepth 100000 in
theorem kL_isOutput (l : Launch) (hls : l.stackTraces = false) (n0 : Nat) (g0 : n0 < 1) (p1 : Int32) (n2 : Nat) (g2 : n2 < 1) : KonH 2 l yL_isOutput cL_isOutput 4 (some .int) [(0, 16, 19, 18)] 8 130 1 6 (fun ad => [.ref (ad 0 n0), .int p1, .ref (ad 31 n2)]) rvI (fun μ => fL_isOutput n0 p1 n2 μ) := by
  refine konH_of (by decide) (fun _ => Nat.le_of_ble_eq_true rfl) (fun X r0 μ hXl hXn V C E TB => ?_)
  have hN : ∀ i : Nat, i < 4 → i < xn X := fun i h => hXn.symm ▸ h
  have R0 := fen_rm E
  have hT : (xl X).stackTraces = false := hXl.symm ▸ hls
  show G X r0 0 0 μ 0 [(0, .ref (xa X 0 n0)), (1, .int p1), (2, .ref (xa X 31 n2))] [] (fL_isOutput n0 p1 n2 μ)
  unfold fL_isOutput
  refine g_jn (P := fun j15 => ∀ (μ1 : Mem) (a2 : Nat) (x4 : Int32) (y5 : Int64), a2 < 1 → G X r0 1 6 μ1 15 [] [.long y5, .int x4, .ref (xa X 31 a2)] (j15 μ1 a2 x4 y5)) ?_ (fun j15 hj15 => ?_)
  · intro μ1 a2 x4 y5 b3
    refine s_last C (ag31 V) b3 dL_isOutput_15 ?_
    refine g_nmM (fun μ6 => ?_)
    refine s_goto (tgt := 22) C dL_isOutput_16 (by decide) ?_
    refine s_iconst (v := (0 : Int32)) C dL_isOutput_22 (by decide) ?_
    exact s_iret C E dL_isOutput_23
  refine s_aload_n C dL_isOutput_0 rfl 2 rfl ?_
  refine s_iconst (v := (0 : Int32)) C dL_isOutput_1 (by decide) ?_
  refine s_aload_n C dL_isOutput_2 rfl 0 rfl ?_
  refine s_iload_n C dL_isOutput_3 rfl 1 rfl ?_
  refine s_callC1 (k0 := 1) C R0 TB (kX12_isOutput (xl X) hT n0 g0 p1) (Nat.le_trans (by decide) V) mmX12_isOutput miX12_isOutput q1246 (rc0 _) g0 ⟨by decide, by decide⟩ (by decide) q1212 qn1222 rfl rfl rfl (Nat.le_of_ble_eq_true rfl) ⟨Nat.le_of_ble_eq_true rfl, Nat.le_of_ble_eq_true rfl, Nat.le_of_ble_eq_true rfl, Nat.le_of_ble_eq_true rfl⟩ dL_isOutput_4 (fun q μ0 => ?_) (fun e h μ0 => if_neg h) (fun x8 μ7 => ?_)
  · refine g_eqo (o' := some ((1 : Int32), μ0)) (by first | rfl | simp) ?_
    refine s_astore_n (L' := [(3, .ref q), (0, .ref (xa X 0 n0)), (1, .int p1), (2, .ref (xa X 31 n2))]) C dL_isOutput_19 rfl (hN 3 (by decide)) rfl ?_
    refine s_iconst (v := (1 : Int32)) C dL_isOutput_20 (by decide) ?_
    exact s_iret C E dL_isOutput_21
  refine g_st (st' := [.int x8, .int (0 : Int32), .ref (xa X 31 n2)]) rfl ?_
  refine s_if_eq (tgt := 14) C dL_isOutput_7 (by decide) (fun c10 => ?_) (fun c10 => ?_)
  ·
    refine s_lconst (v := (0 : Int64)) C dL_isOutput_14 (by decide) ?_
    exact g_wid (ca1 := 1) (sl1 := 6) (by decide) (by decide) <| g_sub [] rfl (hj15 μ7 n2 (0 : Int32) (0 : Int64) g2)
  ·
    refine s_lconst (v := (1 : Int64)) C dL_isOutput_10 (by decide) ?_
    refine s_goto (tgt := 15) C dL_isOutput_11 (by decide) ?_
    exact g_wid (ca1 := 1) (sl1 := 6) (by decide) (by decide) <| g_sub [] rfl (hj15 μ7 n2 (0 : Int32) (1 : Int64) g2)
def fL_flag (n0 : Nat) (p1 : Int32) (n2 : Nat) (μ : Mem) : Option (Int32 × Mem) :=
  catX (fX12_flag n0 p1 μ) (fun e3 μ0 => if e3 = 1 then some ((1 : Int32), μ0) else none) fun x2 μ1 =>
  ckI (0 : Int32) (1) <|
  nm (wJ μ1 31 n2 (0 : Int32).toNatClampNeg (x2.toInt64)) fun μ4 =>
  some ((0 : Int32), μ4)
set_option maxHeartbeats 4000000 in
set_option maxRecDepth 100000 in
theorem kL_flag (l : Launch) (hls : l.stackTraces = false) (n0 : Nat) (g0 : n0 < 1) (p1 : Int32) (n2 : Nat) (g2 : n2 < 1) : KonH 2 l yL_flag cL_flag 4 (some .int) [(0, 9, 12, 18)] 7 110 1 6 (fun ad => [.ref (ad 0 n0), .int p1, .ref (ad 31 n2)]) rvI (fun μ => fL_flag n0 p1 n2 μ) := by
  refine konH_of (by decide) (fun _ => Nat.le_of_ble_eq_true rfl) (fun X r0 μ hXl hXn V C E TB => ?_)
  have hN : ∀ i : Nat, i < 4 → i < xn X := fun i h => hXn.symm ▸ h
  have R0 := fen_rm E
  have hT : (xl X).stackTraces = false := hXl.symm ▸ hls
  show G X r0 0 0 μ 0 [(0, .ref (xa X 0 n0)), (1, .int p1), (2, .ref (xa X 31 n2))] [] (fL_flag n0 p1 n2 μ)
  unfold fL_flag
  refine s_aload_n C dL_flag_0 rfl 2 rfl ?_
  refine s_iconst (v := (0 : Int32)) C dL_flag_1 (by decide) ?_
  refine s_aload_n C dL_flag_2 rfl 0 rfl ?_
  refine s_iload_n C dL_flag_3 rfl 1 rfl ?_
  refine s_callC1 (k0 := 1) C R0 TB (kX12_flag (xl X) hT n0 g0 p1) (Nat.le_trans (by decide) V) mmX12_flag miX12_flag q1253 (rc0 _) g0 ⟨by decide, by decide⟩ (by decide) q1212 qn1222 rfl rfl rfl (Nat.le_of_ble_eq_true rfl) ⟨Nat.le_of_ble_eq_true rfl, Nat.le_of_ble_eq_true rfl, Nat.le_of_ble_eq_true rfl, Nat.le_of_ble_eq_true rfl⟩ dL_flag_4 (fun q μ0 => ?_) (fun e h μ0 => if_neg h) (fun x2 μ1 => ?_)
  · refine g_eqo (o' := some ((1 : Int32), μ0)) (by first | rfl | simp) ?_
    refine s_astore_n (L' := [(3, .ref q), (0, .ref (xa X 0 n0)), (1, .int p1), (2, .ref (xa X 31 n2))]) C dL_flag_12 rfl (hN 3 (by decide)) rfl ?_
    refine s_iconst (v := (1 : Int32)) C dL_flag_13 (by decide) ?_
    exact s_iret C E dL_flag_14
  refine g_st (st' := [.int x2, .int (0 : Int32), .ref (xa X 31 n2)]) rfl ?_
  refine s_i2l C dL_flag_7 ?_
  refine s_last C (ag31 V) g2 dL_flag_8 ?_
  refine g_nmM (fun μ4 => ?_)
  refine s_goto (tgt := 15) C dL_flag_9 (by decide) ?_
  refine s_iconst (v := (0 : Int32)) C dL_flag_15 (by decide) ?_
  exact s_iret C E dL_flag_16
def fL_memory (n0 : Nat) (p1 : Int32) (n2 : Nat) (μ : Mem) : Option (Int32 × Mem) :=
  catX (fX12_memory n0 p1 μ) (fun e3 μ0 => if e3 = 1 then some ((1 : Int32), μ0) else none) fun x2 μ1 =>
  ckI (0 : Int32) (1) <|
  nm (wJ μ1 31 n2 (0 : Int32).toNatClampNeg (x2.toInt64)) fun μ4 =>
  some ((0 : Int32), μ4)
set_option maxHeartbeats 4000000 in
set_option maxRecDepth 100000 in
theorem kL_memory (l : Launch) (hls : l.stackTraces = false) (n0 : Nat) (g0 : n0 < 1) (p1 : Int32) (n2 : Nat) (g2 : n2 < 1) : KonH 2 l yL_memory cL_memory 4 (some .int) [(0, 9, 12, 18)] 8 130 1 6 (fun ad => [.ref (ad 0 n0), .int p1, .ref (ad 31 n2)]) rvI (fun μ => fL_memory n0 p1 n2 μ) := by
  refine konH_of (by decide) (fun _ => Nat.le_of_ble_eq_true rfl) (fun X r0 μ hXl hXn V C E TB => ?_)
  have hN : ∀ i : Nat, i < 4 → i < xn X := fun i h => hXn.symm ▸ h
  have R0 := fen_rm E
  have hT : (xl X).stackTraces = false := hXl.symm ▸ hls
  show G X r0 0 0 μ 0 [(0, .ref (xa X 0 n0)), (1, .int p1), (2, .ref (xa X 31 n2))] [] (fL_memory n0 p1 n2 μ)
  unfold fL_memory
  refine s_aload_n C dL_memory_0 rfl 2 rfl ?_
  refine s_iconst (v := (0 : Int32)) C dL_memory_1 (by decide) ?_
  refine s_aload_n C dL_memory_2 rfl 0 rfl ?_
  refine s_iload_n C dL_memory_3 rfl 1 rfl ?_
  refine s_callC1 (k0 := 1) C R0 TB (kX12_memory (xl X) hT n0 g0 p1) (Nat.le_trans (by decide) V) mmX12_memory miX12_memory q1260 (rc0 _) g0 ⟨by decide, by decide⟩ (by decide) q1212 qn1222 rfl rfl rfl (Nat.le_of_ble_eq_true rfl) ⟨Nat.le_of_ble_eq_true rfl, Nat.le_of_ble_eq_true rfl, Nat.le_of_ble_eq_true rfl, Nat.le_of_ble_eq_true rfl⟩ dL_memory_4 (fun q μ0 => ?_) (fun e h μ0 => if_neg h) (fun x2 μ1 => ?_)
  · refine g_eqo (o' := some ((1 : Int32), μ0)) (by first | rfl | simp) ?_
    refine s_astore_n (L' := [(3, .ref q), (0, .ref (xa X 0 n0)), (1, .int p1), (2, .ref (xa X 31 n2))]) C dL_memory_12 rfl (hN 3 (by decide)) rfl ?_
    refine s_iconst (v := (1 : Int32)) C dL_memory_13 (by decide) ?_
    exact s_iret C E dL_memory_14
  refine g_st (st' := [.int x2, .int (0 : Int32), .ref (xa X 31 n2)]) rfl ?_
  refine s_i2l C dL_memory_7 ?_
  refine s_last C (ag31 V) g2 dL_memory_8 ?_
  refine g_nmM (fun μ4 => ?_)
  refine s_goto (tgt := 15) C dL_memory_9 (by decide) ?_
  refine s_iconst (v := (0 : Int32)) C dL_memory_15 (by decide) ?_
  exact s_iret C E dL_memory_16
def fL_pc (n0 : Nat) (p1 : Int32) (n2 : Nat) (μ : Mem) : Option (Int32 × Mem) :=
  catX (fX12_pc n0 p1 μ) (fun e3 μ0 => if e3 = 1 then some ((1 : Int32), μ0) else none) fun x2 μ1 =>
  ckI (0 : Int32) (1) <|
  nm (wJ μ1 31 n2 (0 : Int32).toNatClampNeg (x2.toInt64)) fun μ4 =>
  some ((0 : Int32), μ4)
set_option maxHeartbeats 4000000 in
set_option maxRecDepth 100000 in
theorem kL_pc (l : Launch) (hls : l.stackTraces = false) (n0 : Nat) (g0 : n0 < 1) (p1 : Int32) (n2 : Nat) (g2 : n2 < 1) : KonH 2 l yL_pc cL_pc 4 (some .int) [(0, 9, 12, 18)] 8 131 1 6 (fun ad => [.ref (ad 0 n0), .int p1, .ref (ad 31 n2)]) rvI (fun μ => fL_pc n0 p1 n2 μ) := by
  refine konH_of (by decide) (fun _ => Nat.le_of_ble_eq_true rfl) (fun X r0 μ hXl hXn V C E TB => ?_)
  have hN : ∀ i : Nat, i < 4 → i < xn X := fun i h => hXn.symm ▸ h
  have R0 := fen_rm E
  have hT : (xl X).stackTraces = false := hXl.symm ▸ hls
  show G X r0 0 0 μ 0 [(0, .ref (xa X 0 n0)), (1, .int p1), (2, .ref (xa X 31 n2))] [] (fL_pc n0 p1 n2 μ)
  unfold fL_pc
  refine s_aload_n C dL_pc_0 rfl 2 rfl ?_
  refine s_iconst (v := (0 : Int32)) C dL_pc_1 (by decide) ?_
  refine s_aload_n C dL_pc_2 rfl 0 rfl ?_
  refine s_iload_n C dL_pc_3 rfl 1 rfl ?_
  refine s_callC1 (k0 := 1) C R0 TB (kX12_pc (xl X) hT n0 g0 p1) (Nat.le_trans (by decide) V) mmX12_pc miX12_pc q1270 (rc0 _) g0 ⟨by decide, by decide⟩ (by decide) q1212 qn1222 rfl rfl rfl (Nat.le_of_ble_eq_true rfl) ⟨Nat.le_of_ble_eq_true rfl, Nat.le_of_ble_eq_true rfl, Nat.le_of_ble_eq_true rfl, Nat.le_of_ble_eq_true rfl⟩ dL_pc_4 (fun q μ0 => ?_) (fun e h μ0 => if_neg h) (fun x2 μ1 => ?_)
  · refine g_eqo (o' := some ((1 : Int32), μ0)) (by first | rfl | simp) ?_
    refine s_astore_n (L' := [(3, .ref q), (0, .ref (xa X 0 n0)), (1, .int p1), (2, .ref (xa X 31 n2))]) C dL_pc_12 rfl (hN 3 (by decide)) rfl ?_
    refine s_iconst (v := (1 : Int32)) C dL_pc_13 (by decide) ?_
    exact s_iret C E dL_pc_14
  refine g_st (st' := [.int x2, .int (0 : Int32), .ref (xa X 31 n2)]) rfl ?_
  refine s_i2l C dL_pc_7 ?_
  refine s_last C (ag31 V) g2 dL_pc_8 ?_
  refine g_nmM (fun μ4 => ?_)
  refine s_goto (tgt := 15) C dL_pc_9 (by decide) ?_
  refine s_iconst (v := (0 : Int32)) C dL_pc_15 (by decide) ?_
  exact s_iret C E dL_pc_16
def fL_register (n0 : Nat) (p1 : Int32) (p2 : Int32) (n3 : Nat) (μ : Mem) : Option (Int32 × Mem) :=
  catX (fX12_register n0 p1 p2 μ) (fun e3 μ0 => if e3 = 1 then some ((1 : Int32), μ0) else none) fun x2 μ1 =>
  ckI (0 : Int32) (1) <|
  nm (wJ μ1 31 n3 (0 : Int32).toNatClampNeg (x2.toInt64)) fun μ4 =>
  some ((0 : Int32), μ4)
set_option maxHeartbeats 4000000 in
set_option maxRecDepth 100000 in
theorem kL_register (l : Launch) (hls : l.stackTraces = false) (n0 : Nat) (g0 : n0 < 1) (p1 : Int32) (p2 : Int32) (n3 : Nat) (g3 : n3 < 1) : KonH 2 l yL_register cL_register 5 (some .int) [(0, 10, 13, 18)] 8 133 2 12 (fun ad => [.ref (ad 0 n0), .int p1, .int p2, .ref (ad 31 n3)]) rvI (fun μ => fL_register n0 p1 p2 n3 μ) := by
  refine konH_of (by decide) (fun _ => Nat.le_of_ble_eq_true rfl) (fun X r0 μ hXl hXn V C E TB => ?_)
  have hN : ∀ i : Nat, i < 5 → i < xn X := fun i h => hXn.symm ▸ h
  have R0 := fen_rm E
  have hT : (xl X).stackTraces = false := hXl.symm ▸ hls
  show G X r0 0 0 μ 0 [(0, .ref (xa X 0 n0)), (1, .int p1), (2, .int p2), (3, .ref (xa X 31 n3))] [] (fL_register n0 p1 p2 n3 μ)
  unfold fL_register
  refine s_aload_n C dL_register_0 rfl 3 rfl ?_
  refine s_iconst (v := (0 : Int32)) C dL_register_1 (by decide) ?_
  refine s_aload_n C dL_register_2 rfl 0 rfl ?_
  refine s_iload_n C dL_register_3 rfl 1 rfl ?_
  refine s_iload_n C dL_register_4 rfl 2 rfl ?_
  refine s_callC1 (k0 := 1) C R0 TB (kX12_register (xl X) hT n0 g0 p1 p2) (Nat.le_trans (by decide) V) mmX12_register miX12_register q1282 (rc0 _) g0 ⟨by decide, by decide⟩ (by decide) q1212 qn1222 rfl rfl rfl (Nat.le_of_ble_eq_true rfl) ⟨Nat.le_of_ble_eq_true rfl, Nat.le_of_ble_eq_true rfl, Nat.le_of_ble_eq_true rfl, Nat.le_of_ble_eq_true rfl⟩ dL_register_5 (fun q μ0 => ?_) (fun e h μ0 => if_neg h) (fun x2 μ1 => ?_)
  · refine g_eqo (o' := some ((1 : Int32), μ0)) (by first | rfl | simp) ?_
    refine s_astore (L' := [(4, .ref q), (0, .ref (xa X 0 n0)), (1, .int p1), (2, .int p2), (3, .ref (xa X 31 n3))]) C dL_register_13 (hN 4 (by decide)) rfl ?_
    refine s_iconst (v := (1 : Int32)) C dL_register_15 (by decide) ?_
    exact s_iret C E dL_register_16
  refine g_st (st' := [.int x2, .int (0 : Int32), .ref (xa X 31 n3)]) rfl ?_
  refine s_i2l C dL_register_8 ?_
  refine s_last C (ag31 V) g3 dL_register_9 ?_
  refine g_nmM (fun μ4 => ?_)
  refine s_goto (tgt := 17) C dL_register_10 (by decide) ?_
  refine s_iconst (v := (0 : Int32)) C dL_register_17 (by decide) ?_
  exact s_iret C E dL_register_18
def fL_fill (n0 : Nat) (p1 : Int32) (n2 : Nat) (μ : Mem) : Option (Int32 × Mem) :=
  catX (fX12_fill n0 p1 μ) (fun e3 μ0 => if e3 = 1 then some ((1 : Int32), μ0) else none) fun x2 μ1 =>
  ckI (0 : Int32) (1) <|
  nm (wJ μ1 31 n2 (0 : Int32).toNatClampNeg (x2.toInt64)) fun μ4 =>
  some ((0 : Int32), μ4)
set_option maxHeartbeats 4000000 in
set_option maxRecDepth 100000 in
theorem kL_fill (l : Launch) (hls : l.stackTraces = false) (n0 : Nat) (g0 : n0 < 1) (p1 : Int32) (n2 : Nat) (g2 : n2 < 1) : KonH 2 l yL_fill cL_fill 4 (some .int) [(0, 9, 12, 18)] 8 131 1 6 (fun ad => [.ref (ad 0 n0), .int p1, .ref (ad 31 n2)]) rvI (fun μ => fL_fill n0 p1 n2 μ) := by
  refine konH_of (by decide) (fun _ => Nat.le_of_ble_eq_true rfl) (fun X r0 μ hXl hXn V C E TB => ?_)
  have hN : ∀ i : Nat, i < 4 → i < xn X := fun i h => hXn.symm ▸ h
  have R0 := fen_rm E
  have hT : (xl X).stackTraces = false := hXl.symm ▸ hls
  show G X r0 0 0 μ 0 [(0, .ref (xa X 0 n0)), (1, .int p1), (2, .ref (xa X 31 n2))] [] (fL_fill n0 p1 n2 μ)
  unfold fL_fill
  refine s_aload_n C dL_fill_0 rfl 2 rfl ?_
  refine s_iconst (v := (0 : Int32)) C dL_fill_1 (by decide) ?_
  refine s_aload_n C dL_fill_2 rfl 0 rfl ?_
  refine s_iload_n C dL_fill_3 rfl 1 rfl ?_
  refine s_callC1 (k0 := 1) C R0 TB (kX12_fill (xl X) hT n0 g0 p1) (Nat.le_trans (by decide) V) mmX12_fill miX12_fill q1289 (rc0 _) g0 ⟨by decide, by decide⟩ (by decide) q1212 qn1222 rfl rfl rfl (Nat.le_of_ble_eq_true rfl) ⟨Nat.le_of_ble_eq_true rfl, Nat.le_of_ble_eq_true rfl, Nat.le_of_ble_eq_true rfl, Nat.le_of_ble_eq_true rfl⟩ dL_fill_4 (fun q μ0 => ?_) (fun e h μ0 => if_neg h) (fun x2 μ1 => ?_)
  · refine g_eqo (o' := some ((1 : Int32), μ0)) (by first | rfl | simp) ?_
    refine s_astore_n (L' := [(3, .ref q), (0, .ref (xa X 0 n0)), (1, .int p1), (2, .ref (xa X 31 n2))]) C dL_fill_12 rfl (hN 3 (by decide)) rfl ?_
    refine s_iconst (v := (1 : Int32)) C dL_fill_13 (by decide) ?_
    exact s_iret C E dL_fill_14
  refine g_st (st' := [.int x2, .int (0 : Int32), .ref (xa X 31 n2)]) rfl ?_
  refine s_i2l C dL_fill_7 ?_
  refine s_last C (ag31 V) g2 dL_fill_8 ?_
  refine g_nmM (fun μ4 => ?_)
  refine s_goto (tgt := 15) C dL_fill_9 (by decide) ?_
  refine s_iconst (v := (0 : Int32)) C dL_fill_15 (by decide) ?_
  exact s_iret C E dL_fill_16
def fL_spent (n0 : Nat) (p1 : Int32) (n2 : Nat) (μ : Mem) : Option (Int32 × Mem) :=
  catX (fX12_spent n0 p1 μ) (fun e3 μ0 => if e3 = 1 then some ((1 : Int32), μ0) else none) fun x2 μ1 =>
  ckI (0 : Int32) (1) <|
  nm (wJ μ1 31 n2 (0 : Int32).toNatClampNeg (x2.toInt64)) fun μ4 =>
  some ((0 : Int32), μ4)
set_option maxHeartbeats 4000000 in
set_option maxRecDepth 100000 in
theorem kL_spent (l : Launch) (hls : l.stackTraces = false) (n0 : Nat) (g0 : n0 < 1) (p1 : Int32) (n2 : Nat) (g2 : n2 < 1) : KonH 2 l yL_spent cL_spent 4 (some .int) [(0, 9, 12, 18)] 8 131 1 6 (fun ad => [.ref (ad 0 n0), .int p1, .ref (ad 31 n2)]) rvI (fun μ => fL_spent n0 p1 n2 μ) := by
  refine konH_of (by decide) (fun _ => Nat.le_of_ble_eq_true rfl) (fun X r0 μ hXl hXn V C E TB => ?_)
  have hN : ∀ i : Nat, i < 4 → i < xn X := fun i h => hXn.symm ▸ h
  have R0 := fen_rm E
  have hT : (xl X).stackTraces = false := hXl.symm ▸ hls
  show G X r0 0 0 μ 0 [(0, .ref (xa X 0 n0)), (1, .int p1), (2, .ref (xa X 31 n2))] [] (fL_spent n0 p1 n2 μ)
  unfold fL_spent
  refine s_aload_n C dL_spent_0 rfl 2 rfl ?_
  refine s_iconst (v := (0 : Int32)) C dL_spent_1 (by decide) ?_
  refine s_aload_n C dL_spent_2 rfl 0 rfl ?_
  refine s_iload_n C dL_spent_3 rfl 1 rfl ?_
  refine s_callC1 (k0 := 1) C R0 TB (kX12_spent (xl X) hT n0 g0 p1) (Nat.le_trans (by decide) V) mmX12_spent miX12_spent q1296 (rc0 _) g0 ⟨by decide, by decide⟩ (by decide) q1212 qn1222 rfl rfl rfl (Nat.le_of_ble_eq_true rfl) ⟨Nat.le_of_ble_eq_true rfl, Nat.le_of_ble_eq_true rfl, Nat.le_of_ble_eq_true rfl, Nat.le_of_ble_eq_true rfl⟩ dL_spent_4 (fun q μ0 => ?_) (fun e h μ0 => if_neg h) (fun x2 μ1 => ?_)
  · refine g_eqo (o' := some ((1 : Int32), μ0)) (by first | rfl | simp) ?_
    refine s_astore_n (L' := [(3, .ref q), (0, .ref (xa X 0 n0)), (1, .int p1), (2, .ref (xa X 31 n2))]) C dL_spent_12 rfl (hN 3 (by decide)) rfl ?_
    refine s_iconst (v := (1 : Int32)) C dL_spent_13 (by decide) ?_
    exact s_iret C E dL_spent_14
  refine g_st (st' := [.int x2, .int (0 : Int32), .ref (xa X 31 n2)]) rfl ?_
  refine s_i2l C dL_spent_7 ?_
  refine s_last C (ag31 V) g2 dL_spent_8 ?_
  refine g_nmM (fun μ4 => ?_)
  refine s_goto (tgt := 15) C dL_spent_9 (by decide) ?_
  refine s_iconst (v := (0 : Int32)) C dL_spent_15 (by decide) ?_
  exact s_iret C E dL_spent_16
def fL_delayLeft (n0 : Nat) (p1 : Int32) (n2 : Nat) (μ : Mem) : Option (Int32 × Mem) :=
  catX (fX12_delayLeft n0 p1 μ) (fun e3 μ0 => if e3 = 1 then some ((1 : Int32), μ0) else none) fun x2 μ1 =>
  ckI (0 : Int32) (1) <|
  nm (wJ μ1 31 n2 (0 : Int32).toNatClampNeg (x2.toInt64)) fun μ4 =>
  some ((0 : Int32), μ4)
set_option maxHeartbeats 4000000 in
set_option maxRecDepth 100000 in
theorem kL_delayLeft (l : Launch) (hls : l.stackTraces = false) (n0 : Nat) (g0 : n0 < 1) (p1 : Int32) (n2 : Nat) (g2 : n2 < 1) : KonH 2 l yL_delayLeft cL_delayLeft 4 (some .int) [(0, 9, 12, 18)] 8 131 1 6 (fun ad => [.ref (ad 0 n0), .int p1, .ref (ad 31 n2)]) rvI (fun μ => fL_delayLeft n0 p1 n2 μ) := by
  refine konH_of (by decide) (fun _ => Nat.le_of_ble_eq_true rfl) (fun X r0 μ hXl hXn V C E TB => ?_)
  have hN : ∀ i : Nat, i < 4 → i < xn X := fun i h => hXn.symm ▸ h
  have R0 := fen_rm E
  have hT : (xl X).stackTraces = false := hXl.symm ▸ hls
  show G X r0 0 0 μ 0 [(0, .ref (xa X 0 n0)), (1, .int p1), (2, .ref (xa X 31 n2))] [] (fL_delayLeft n0 p1 n2 μ)
  unfold fL_delayLeft
  refine s_aload_n C dL_delayLeft_0 rfl 2 rfl ?_
  refine s_iconst (v := (0 : Int32)) C dL_delayLeft_1 (by decide) ?_
  refine s_aload_n C dL_delayLeft_2 rfl 0 rfl ?_
  refine s_iload_n C dL_delayLeft_3 rfl 1 rfl ?_
  refine s_callC1 (k0 := 1) C R0 TB (kX12_delayLeft (xl X) hT n0 g0 p1) (Nat.le_trans (by decide) V) mmX12_delayLeft miX12_delayLeft q1303 (rc0 _) g0 ⟨by decide, by decide⟩ (by decide) q1212 qn1222 rfl rfl rfl (Nat.le_of_ble_eq_true rfl) ⟨Nat.le_of_ble_eq_true rfl, Nat.le_of_ble_eq_true rfl, Nat.le_of_ble_eq_true rfl, Nat.le_of_ble_eq_true rfl⟩ dL_delayLeft_4 (fun q μ0 => ?_) (fun e h μ0 => if_neg h) (fun x2 μ1 => ?_)
  · refine g_eqo (o' := some ((1 : Int32), μ0)) (by first | rfl | simp) ?_
    refine s_astore_n (L' := [(3, .ref q), (0, .ref (xa X 0 n0)), (1, .int p1), (2, .ref (xa X 31 n2))]) C dL_delayLeft_12 rfl (hN 3 (by decide)) rfl ?_
    refine s_iconst (v := (1 : Int32)) C dL_delayLeft_13 (by decide) ?_
    exact s_iret C E dL_delayLeft_14
  refine g_st (st' := [.int x2, .int (0 : Int32), .ref (xa X 31 n2)]) rfl ?_
  refine s_i2l C dL_delayLeft_7 ?_
  refine s_last C (ag31 V) g2 dL_delayLeft_8 ?_
  refine g_nmM (fun μ4 => ?_)
  refine s_goto (tgt := 15) C dL_delayLeft_9 (by decide) ?_
  refine s_iconst (v := (0 : Int32)) C dL_delayLeft_15 (by decide) ?_
  exact s_iret C E dL_delayLeft_16
def fL_stall (n0 : Nat) (p1 : Int32) (n2 : Nat) (μ : Mem) : Option (Int32 × Mem) :=
  catX (fX12_stall n0 p1 μ) (fun e3 μ0 => if e3 = 1 then some ((1 : Int32), μ0) else none) fun x2 μ1 =>
  ckI (0 : Int32) (1) <|
  nm (wJ μ1 31 n2 (0 : Int32).toNatClampNeg (x2.toInt64)) fun μ4 =>
  some ((0 : Int32), μ4)
set_option maxHeartbeats 4000000 in
set_option maxRecDepth 100000 in
theorem kL_stall (l : Launch) (hls : l.stackTraces = false) (n0 : Nat) (g0 : n0 < 1) (p1 : Int32) (n2 : Nat) (g2 : n2 < 1) : KonH 2 l yL_stall cL_stall 4 (some .int) [(0, 9, 12, 18)] 8 131 1 6 (fun ad => [.ref (ad 0 n0), .int p1, .ref (ad 31 n2)]) rvI (fun μ => fL_stall n0 p1 n2 μ) := by
  refine konH_of (by decide) (fun _ => Nat.le_of_ble_eq_true rfl) (fun X r0 μ hXl hXn V C E TB => ?_)
  have hN : ∀ i : Nat, i < 4 → i < xn X := fun i h => hXn.symm ▸ h
  have R0 := fen_rm E
  have hT : (xl X).stackTraces = false := hXl.symm ▸ hls
  show G X r0 0 0 μ 0 [(0, .ref (xa X 0 n0)), (1, .int p1), (2, .ref (xa X 31 n2))] [] (fL_stall n0 p1 n2 μ)
  unfold fL_stall
  refine s_aload_n C dL_stall_0 rfl 2 rfl ?_
  refine s_iconst (v := (0 : Int32)) C dL_stall_1 (by decide) ?_
  refine s_aload_n C dL_stall_2 rfl 0 rfl ?_
  refine s_iload_n C dL_stall_3 rfl 1 rfl ?_
  refine s_callC1 (k0 := 1) C R0 TB (kX12_stall (xl X) hT n0 g0 p1) (Nat.le_trans (by decide) V) mmX12_stall miX12_stall q1310 (rc0 _) g0 ⟨by decide, by decide⟩ (by decide) q1212 qn1222 rfl rfl rfl (Nat.le_of_ble_eq_true rfl) ⟨Nat.le_of_ble_eq_true rfl, Nat.le_of_ble_eq_true rfl, Nat.le_of_ble_eq_true rfl, Nat.le_of_ble_eq_true rfl⟩ dL_stall_4 (fun q μ0 => ?_) (fun e h μ0 => if_neg h) (fun x2 μ1 => ?_)
  · refine g_eqo (o' := some ((1 : Int32), μ0)) (by first | rfl | simp) ?_
    refine s_astore_n (L' := [(3, .ref q), (0, .ref (xa X 0 n0)), (1, .int p1), (2, .ref (xa X 31 n2))]) C dL_stall_12 rfl (hN 3 (by decide)) rfl ?_
    refine s_iconst (v := (1 : Int32)) C dL_stall_13 (by decide) ?_
    exact s_iret C E dL_stall_14
  refine g_st (st' := [.int x2, .int (0 : Int32), .ref (xa X 31 n2)]) rfl ?_
  refine s_i2l C dL_stall_7 ?_
  refine s_last C (ag31 V) g2 dL_stall_8 ?_
  refine g_nmM (fun μ4 => ?_)
  refine s_goto (tgt := 15) C dL_stall_9 (by decide) ?_
  refine s_iconst (v := (0 : Int32)) C dL_stall_15 (by decide) ?_
  exact s_iret C E dL_stall_16
def fL_isEnabled (n0 : Nat) (p1 : Int32) (n2 : Nat) (μ : Mem) : Option (Int32 × Mem) :=
  jn (fun (μ1 : Mem) (a2 : Nat) (x4 : Int32) (y5 : Int64) =>
    ckI x4 (1) <|
    nm (wJ μ1 31 a2 x4.toNatClampNeg y5) fun μ6 =>
    some ((0 : Int32), μ6)
  ) fun j15 =>
  catX (fX12_isEnabled n0 p1 μ) (fun e9 μ0 => if e9 = 1 then some ((1 : Int32), μ0) else none) fun x8 μ7 =>
  if x8 = 0 then (
    j15 μ7 n2 (0 : Int32) (0 : Int64)
  ) else (
    j15 μ7 n2 (0 : Int32) (1 : Int64)
  )
set_option maxHeartbeats 4000000 in
set_option maxRecDepth 100000 in
theorem kL_isEnabled (l : Launch) (hls : l.stackTraces = false) (n0 : Nat) (g0 : n0 < 1) (p1 : Int32) (n2 : Nat) (g2 : n2 < 1) : KonH 2 l yL_isEnabled cL_isEnabled 4 (some .int) [(0, 16, 19, 18)] 8 131 1 6 (fun ad => [.ref (ad 0 n0), .int p1, .ref (ad 31 n2)]) rvI (fun μ => fL_isEnabled n0 p1 n2 μ) := by
  refine konH_of (by decide) (fun _ => Nat.le_of_ble_eq_true rfl) (fun X r0 μ hXl hXn V C E TB => ?_)
  have hN : ∀ i : Nat, i < 4 → i < xn X := fun i h => hXn.symm ▸ h
  have R0 := fen_rm E
  have hT : (xl X).stackTraces = false := hXl.symm ▸ hls
  show G X r0 0 0 μ 0 [(0, .ref (xa X 0 n0)), (1, .int p1), (2, .ref (xa X 31 n2))] [] (fL_isEnabled n0 p1 n2 μ)
  unfold fL_isEnabled
  refine g_jn (P := fun j15 => ∀ (μ1 : Mem) (a2 : Nat) (x4 : Int32) (y5 : Int64), a2 < 1 → G X r0 1 6 μ1 15 [] [.long y5, .int x4, .ref (xa X 31 a2)] (j15 μ1 a2 x4 y5)) ?_ (fun j15 hj15 => ?_)
  · intro μ1 a2 x4 y5 b3
    refine s_last C (ag31 V) b3 dL_isEnabled_15 ?_
    refine g_nmM (fun μ6 => ?_)
    refine s_goto (tgt := 22) C dL_isEnabled_16 (by decide) ?_
    refine s_iconst (v := (0 : Int32)) C dL_isEnabled_22 (by decide) ?_
    exact s_iret C E dL_isEnabled_23
  refine s_aload_n C dL_isEnabled_0 rfl 2 rfl ?_
  refine s_iconst (v := (0 : Int32)) C dL_isEnabled_1 (by decide) ?_
  refine s_aload_n C dL_isEnabled_2 rfl 0 rfl ?_
  refine s_iload_n C dL_isEnabled_3 rfl 1 rfl ?_
  refine s_callC1 (k0 := 1) C R0 TB (kX12_isEnabled (xl X) hT n0 g0 p1) (Nat.le_trans (by decide) V) mmX12_isEnabled miX12_isEnabled q1317 (rc0 _) g0 ⟨by decide, by decide⟩ (by decide) q1212 qn1222 rfl rfl rfl (Nat.le_of_ble_eq_true rfl) ⟨Nat.le_of_ble_eq_true rfl, Nat.le_of_ble_eq_true rfl, Nat.le_of_ble_eq_true rfl, Nat.le_of_ble_eq_true rfl⟩ dL_isEnabled_4 (fun q μ0 => ?_) (fun e h μ0 => if_neg h) (fun x8 μ7 => ?_)
  · refine g_eqo (o' := some ((1 : Int32), μ0)) (by first | rfl | simp) ?_
    refine s_astore_n (L' := [(3, .ref q), (0, .ref (xa X 0 n0)), (1, .int p1), (2, .ref (xa X 31 n2))]) C dL_isEnabled_19 rfl (hN 3 (by decide)) rfl ?_
    refine s_iconst (v := (1 : Int32)) C dL_isEnabled_20 (by decide) ?_
    exact s_iret C E dL_isEnabled_21
  refine g_st (st' := [.int x8, .int (0 : Int32), .ref (xa X 31 n2)]) rfl ?_
  refine s_if_eq (tgt := 14) C dL_isEnabled_7 (by decide) (fun c10 => ?_) (fun c10 => ?_)
  ·
    refine s_lconst (v := (0 : Int64)) C dL_isEnabled_14 (by decide) ?_
    exact g_wid (ca1 := 1) (sl1 := 6) (by decide) (by decide) <| g_sub [] rfl (hj15 μ7 n2 (0 : Int32) (0 : Int64) g2)
  ·
    refine s_lconst (v := (1 : Int64)) C dL_isEnabled_10 (by decide) ?_
    refine s_goto (tgt := 15) C dL_isEnabled_11 (by decide) ?_
    exact g_wid (ca1 := 1) (sl1 := 6) (by decide) (by decide) <| g_sub [] rfl (hj15 μ7 n2 (0 : Int32) (1 : Int64) g2)
def fL_queueSize (n0 : Nat) (p1 : Int32) (p2 : Int32) (n3 : Nat) (μ : Mem) : Option (Int32 × Mem) :=
  catX (fX12_queueSize n0 p1 p2 μ) (fun e3 μ0 => if e3 = 1 then some ((1 : Int32), μ0) else none) fun x2 μ1 =>
  ckI (0 : Int32) (1) <|
  nm (wJ μ1 31 n3 (0 : Int32).toNatClampNeg (x2.toInt64)) fun μ4 =>
  some ((0 : Int32), μ4)
set_option maxHeartbeats 4000000 in
set_option maxRecDepth 100000 in
theorem kL_queueSize (l : Launch) (hls : l.stackTraces = false) (n0 : Nat) (g0 : n0 < 1) (p1 : Int32) (p2 : Int32) (n3 : Nat) (g3 : n3 < 1) : KonH 2 l yL_queueSize cL_queueSize 5 (some .int) [(0, 10, 13, 18)] 9 155 1 6 (fun ad => [.ref (ad 0 n0), .int p1, .int p2, .ref (ad 31 n3)]) rvI (fun μ => fL_queueSize n0 p1 p2 n3 μ) := by
  refine konH_of (by decide) (fun _ => Nat.le_of_ble_eq_true rfl) (fun X r0 μ hXl hXn V C E TB => ?_)
  have hN : ∀ i : Nat, i < 5 → i < xn X := fun i h => hXn.symm ▸ h
  have R0 := fen_rm E
  have hT : (xl X).stackTraces = false := hXl.symm ▸ hls
  show G X r0 0 0 μ 0 [(0, .ref (xa X 0 n0)), (1, .int p1), (2, .int p2), (3, .ref (xa X 31 n3))] [] (fL_queueSize n0 p1 p2 n3 μ)
  unfold fL_queueSize
  refine s_aload_n C dL_queueSize_0 rfl 3 rfl ?_
  refine s_iconst (v := (0 : Int32)) C dL_queueSize_1 (by decide) ?_
  refine s_aload_n C dL_queueSize_2 rfl 0 rfl ?_
  refine s_iload_n C dL_queueSize_3 rfl 1 rfl ?_
  refine s_iload_n C dL_queueSize_4 rfl 2 rfl ?_
  refine s_callC1 (k0 := 1) C R0 TB (kX12_queueSize (xl X) hT n0 g0 p1 p2) (Nat.le_trans (by decide) V) mmX12_queueSize miX12_queueSize q1324 (rc0 _) g0 ⟨by decide, by decide⟩ (by decide) q1212 qn1222 rfl rfl rfl (Nat.le_of_ble_eq_true rfl) ⟨Nat.le_of_ble_eq_true rfl, Nat.le_of_ble_eq_true rfl, Nat.le_of_ble_eq_true rfl, Nat.le_of_ble_eq_true rfl⟩ dL_queueSize_5 (fun q μ0 => ?_) (fun e h μ0 => if_neg h) (fun x2 μ1 => ?_)
  · refine g_eqo (o' := some ((1 : Int32), μ0)) (by first | rfl | simp) ?_
    refine s_astore (L' := [(4, .ref q), (0, .ref (xa X 0 n0)), (1, .int p1), (2, .int p2), (3, .ref (xa X 31 n3))]) C dL_queueSize_13 (hN 4 (by decide)) rfl ?_
    refine s_iconst (v := (1 : Int32)) C dL_queueSize_15 (by decide) ?_
    exact s_iret C E dL_queueSize_16
  refine g_st (st' := [.int x2, .int (0 : Int32), .ref (xa X 31 n3)]) rfl ?_
  refine s_i2l C dL_queueSize_8 ?_
  refine s_last C (ag31 V) g3 dL_queueSize_9 ?_
  refine g_nmM (fun μ4 => ?_)
  refine s_goto (tgt := 17) C dL_queueSize_10 (by decide) ?_
  refine s_iconst (v := (0 : Int32)) C dL_queueSize_17 (by decide) ?_
  exact s_iret C E dL_queueSize_18
def fL_queued (n0 : Nat) (p1 : Int32) (p2 : Int32) (p3 : Int32) (n4 : Nat) (μ : Mem) : Option (Int32 × Mem) :=
  catX (fX12_queued n0 p1 p2 p3 μ) (fun e3 μ0 => if e3 = 1 then some ((1 : Int32), μ0) else none) fun y2 μ1 =>
  ckI (0 : Int32) (1) <|
  nm (wJ μ1 31 n4 (0 : Int32).toNatClampNeg y2) fun μ4 =>
  some ((0 : Int32), μ4)
set_option maxHeartbeats 4000000 in
set_option maxRecDepth 100000 in
theorem kL_queued (l : Launch) (hls : l.stackTraces = false) (n0 : Nat) (g0 : n0 < 1) (p1 : Int32) (p2 : Int32) (p3 : Int32) (n4 : Nat) (g4 : n4 < 1) : KonH 2 l yL_queued cL_queued 6 (some .int) [(0, 11, 14, 18)] 9 157 2 12 (fun ad => [.ref (ad 0 n0), .int p1, .int p2, .int p3, .ref (ad 31 n4)]) rvI (fun μ => fL_queued n0 p1 p2 p3 n4 μ) := by
  refine konH_of (by decide) (fun _ => Nat.le_of_ble_eq_true rfl) (fun X r0 μ hXl hXn V C E TB => ?_)
  have hN : ∀ i : Nat, i < 6 → i < xn X := fun i h => hXn.symm ▸ h
  have R0 := fen_rm E
  have hT : (xl X).stackTraces = false := hXl.symm ▸ hls
  show G X r0 0 0 μ 0 [(0, .ref (xa X 0 n0)), (1, .int p1), (2, .int p2), (3, .int p3), (4, .ref (xa X 31 n4))] [] (fL_queued n0 p1 p2 p3 n4 μ)
  unfold fL_queued
  refine s_aload C dL_queued_0 4 rfl ?_
  refine s_iconst (v := (0 : Int32)) C dL_queued_2 (by decide) ?_
  refine s_aload_n C dL_queued_3 rfl 0 rfl ?_
  refine s_iload_n C dL_queued_4 rfl 1 rfl ?_
  refine s_iload_n C dL_queued_5 rfl 2 rfl ?_
  refine s_iload_n C dL_queued_6 rfl 3 rfl ?_
  refine s_callC1 (k0 := 1) C R0 TB (kX12_queued (xl X) hT n0 g0 p1 p2 p3) (Nat.le_trans (by decide) V) mmX12_queued miX12_queued q1335 (rc0 _) g0 ⟨by decide, by decide⟩ (by decide) q1212 qn1222 rfl rfl rfl (Nat.le_of_ble_eq_true rfl) ⟨Nat.le_of_ble_eq_true rfl, Nat.le_of_ble_eq_true rfl, Nat.le_of_ble_eq_true rfl, Nat.le_of_ble_eq_true rfl⟩ dL_queued_7 (fun q μ0 => ?_) (fun e h μ0 => if_neg h) (fun y2 μ1 => ?_)
  · refine g_eqo (o' := some ((1 : Int32), μ0)) (by first | rfl | simp) ?_
    refine s_astore (L' := [(5, .ref q), (0, .ref (xa X 0 n0)), (1, .int p1), (2, .int p2), (3, .int p3), (4, .ref (xa X 31 n4))]) C dL_queued_14 (hN 5 (by decide)) rfl ?_
    refine s_iconst (v := (1 : Int32)) C dL_queued_16 (by decide) ?_
    exact s_iret C E dL_queued_17
  refine g_st (st' := [.long y2, .int (0 : Int32), .ref (xa X 31 n4)]) rfl ?_
  refine s_last C (ag31 V) g4 dL_queued_10 ?_
  refine g_nmM (fun μ4 => ?_)
  refine s_goto (tgt := 18) C dL_queued_11 (by decide) ?_
  refine s_iconst (v := (0 : Int32)) C dL_queued_18 (by decide) ?_
  exact s_iret C E dL_queued_19
def fL_count (n0 : Nat) (p1 : Int32) (p2 : Int32) (n3 : Nat) (μ : Mem) : Option (Int32 × Mem) :=
  catX (fX12_count n0 p1 p2 μ) (fun e3 μ0 => if e3 = 1 then some ((1 : Int32), μ0) else none) fun x2 μ1 =>
  ckI (0 : Int32) (1) <|
  nm (wJ μ1 31 n3 (0 : Int32).toNatClampNeg (x2.toInt64)) fun μ4 =>
  some ((0 : Int32), μ4)
set_option maxHeartbeats 4000000 in
set_option maxRecDepth 100000 in
theorem kL_count (l : Launch) (hls : l.stackTraces = false) (n0 : Nat) (g0 : n0 < 1) (p1 : Int32) (p2 : Int32) (n3 : Nat) (g3 : n3 < 1) : KonH 2 l yL_count cL_count 5 (some .int) [(0, 10, 13, 18)] 8 133 2 12 (fun ad => [.ref (ad 0 n0), .int p1, .int p2, .ref (ad 31 n3)]) rvI (fun μ => fL_count n0 p1 p2 n3 μ) := by
  refine konH_of (by decide) (fun _ => Nat.le_of_ble_eq_true rfl) (fun X r0 μ hXl hXn V C E TB => ?_)
  have hN : ∀ i : Nat, i < 5 → i < xn X := fun i h => hXn.symm ▸ h
  have R0 := fen_rm E
  have hT : (xl X).stackTraces = false := hXl.symm ▸ hls
  show G X r0 0 0 μ 0 [(0, .ref (xa X 0 n0)), (1, .int p1), (2, .int p2), (3, .ref (xa X 31 n3))] [] (fL_count n0 p1 p2 n3 μ)
  unfold fL_count
  refine s_aload_n C dL_count_0 rfl 3 rfl ?_
  refine s_iconst (v := (0 : Int32)) C dL_count_1 (by decide) ?_
  refine s_aload_n C dL_count_2 rfl 0 rfl ?_
  refine s_iload_n C dL_count_3 rfl 1 rfl ?_
  refine s_iload_n C dL_count_4 rfl 2 rfl ?_
  refine s_callC1 (k0 := 1) C R0 TB (kX12_count (xl X) hT n0 g0 p1 p2) (Nat.le_trans (by decide) V) mmX12_count miX12_count q1351 (rc0 _) g0 ⟨by decide, by decide⟩ (by decide) q1212 qn1222 rfl rfl rfl (Nat.le_of_ble_eq_true rfl) ⟨Nat.le_of_ble_eq_true rfl, Nat.le_of_ble_eq_true rfl, Nat.le_of_ble_eq_true rfl, Nat.le_of_ble_eq_true rfl⟩ dL_count_5 (fun q μ0 => ?_) (fun e h μ0 => if_neg h) (fun x2 μ1 => ?_)
  · refine g_eqo (o' := some ((1 : Int32), μ0)) (by first | rfl | simp) ?_
    refine s_astore (L' := [(4, .ref q), (0, .ref (xa X 0 n0)), (1, .int p1), (2, .int p2), (3, .ref (xa X 31 n3))]) C dL_count_13 (hN 4 (by decide)) rfl ?_
    refine s_iconst (v := (1 : Int32)) C dL_count_15 (by decide) ?_
    exact s_iret C E dL_count_16
  refine g_st (st' := [.int x2, .int (0 : Int32), .ref (xa X 31 n3)]) rfl ?_
  refine s_i2l C dL_count_8 ?_
  refine s_last C (ag31 V) g3 dL_count_9 ?_
  refine g_nmM (fun μ4 => ?_)
  refine s_goto (tgt := 17) C dL_count_10 (by decide) ?_
  refine s_iconst (v := (0 : Int32)) C dL_count_17 (by decide) ?_
  exact s_iret C E dL_count_18
def fL_levelAt (n0 : Nat) (p1 : Int32) (p2 : Int32) (n3 : Nat) (μ : Mem) : Option (Int32 × Mem) :=
  catX (fX12_levelAt n0 p1 p2 μ) (fun e3 μ0 => if e3 = 1 then some ((1 : Int32), μ0) else none) fun x2 μ1 =>
  ckI (0 : Int32) (1) <|
  nm (wJ μ1 31 n3 (0 : Int32).toNatClampNeg (x2.toInt64)) fun μ4 =>
  some ((0 : Int32), μ4)
set_option maxHeartbeats 4000000 in
set_option maxRecDepth 100000 in
theorem kL_levelAt (l : Launch) (hls : l.stackTraces = false) (n0 : Nat) (g0 : n0 < 1) (p1 : Int32) (p2 : Int32) (n3 : Nat) (g3 : n3 < 1) : KonH 2 l yL_levelAt cL_levelAt 5 (some .int) [(0, 10, 13, 18)] 8 132 2 12 (fun ad => [.ref (ad 0 n0), .int p1, .int p2, .ref (ad 31 n3)]) rvI (fun μ => fL_levelAt n0 p1 p2 n3 μ) := by
  refine konH_of (by decide) (fun _ => Nat.le_of_ble_eq_true rfl) (fun X r0 μ hXl hXn V C E TB => ?_)
  have hN : ∀ i : Nat, i < 5 → i < xn X := fun i h => hXn.symm ▸ h
  have R0 := fen_rm E
  have hT : (xl X).stackTraces = false := hXl.symm ▸ hls
  show G X r0 0 0 μ 0 [(0, .ref (xa X 0 n0)), (1, .int p1), (2, .int p2), (3, .ref (xa X 31 n3))] [] (fL_levelAt n0 p1 p2 n3 μ)
  unfold fL_levelAt
  refine s_aload_n C dL_levelAt_0 rfl 3 rfl ?_
  refine s_iconst (v := (0 : Int32)) C dL_levelAt_1 (by decide) ?_
  refine s_aload_n C dL_levelAt_2 rfl 0 rfl ?_
  refine s_iload_n C dL_levelAt_3 rfl 1 rfl ?_
  refine s_iload_n C dL_levelAt_4 rfl 2 rfl ?_
  refine s_callC1 (k0 := 1) C R0 TB (kX12_levelAt (xl X) hT n0 g0 p1 p2) (Nat.le_trans (by decide) V) mmX12_levelAt miX12_levelAt q1358 (rc0 _) g0 ⟨by decide, by decide⟩ (by decide) q1212 qn1222 rfl rfl rfl (Nat.le_of_ble_eq_true rfl) ⟨Nat.le_of_ble_eq_true rfl, Nat.le_of_ble_eq_true rfl, Nat.le_of_ble_eq_true rfl, Nat.le_of_ble_eq_true rfl⟩ dL_levelAt_5 (fun q μ0 => ?_) (fun e h μ0 => if_neg h) (fun x2 μ1 => ?_)
  · refine g_eqo (o' := some ((1 : Int32), μ0)) (by first | rfl | simp) ?_
    refine s_astore (L' := [(4, .ref q), (0, .ref (xa X 0 n0)), (1, .int p1), (2, .int p2), (3, .ref (xa X 31 n3))]) C dL_levelAt_13 (hN 4 (by decide)) rfl ?_
    refine s_iconst (v := (1 : Int32)) C dL_levelAt_15 (by decide) ?_
    exact s_iret C E dL_levelAt_16
  refine g_st (st' := [.int x2, .int (0 : Int32), .ref (xa X 31 n3)]) rfl ?_
  refine s_i2l C dL_levelAt_8 ?_
  refine s_last C (ag31 V) g3 dL_levelAt_9 ?_
  refine g_nmM (fun μ4 => ?_)
  refine s_goto (tgt := 17) C dL_levelAt_10 (by decide) ?_
  refine s_iconst (v := (0 : Int32)) C dL_levelAt_17 (by decide) ?_
  exact s_iret C E dL_levelAt_18
def fL_edges (n0 : Nat) (p1 : Int32) (n2 : Nat) (μ : Mem) : Option (Int32 × Mem) :=
  catX (fX12_edges n0 p1 μ) (fun e3 μ0 => if e3 = 1 then some ((1 : Int32), μ0) else none) fun x2 μ1 =>
  ckI (0 : Int32) (1) <|
  nm (wJ μ1 31 n2 (0 : Int32).toNatClampNeg (x2.toInt64)) fun μ4 =>
  some ((0 : Int32), μ4)
set_option maxHeartbeats 4000000 in
set_option maxRecDepth 100000 in
theorem kL_edges (l : Launch) (hls : l.stackTraces = false) (n0 : Nat) (g0 : n0 < 1) (p1 : Int32) (n2 : Nat) (g2 : n2 < 1) : KonH 2 l yL_edges cL_edges 4 (some .int) [(0, 9, 12, 18)] 8 130 1 6 (fun ad => [.ref (ad 0 n0), .int p1, .ref (ad 31 n2)]) rvI (fun μ => fL_edges n0 p1 n2 μ) := by
  refine konH_of (by decide) (fun _ => Nat.le_of_ble_eq_true rfl) (fun X r0 μ hXl hXn V C E TB => ?_)
  have hN : ∀ i : Nat, i < 4 → i < xn X := fun i h => hXn.symm ▸ h
  have R0 := fen_rm E
  have hT : (xl X).stackTraces = false := hXl.symm ▸ hls
  show G X r0 0 0 μ 0 [(0, .ref (xa X 0 n0)), (1, .int p1), (2, .ref (xa X 31 n2))] [] (fL_edges n0 p1 n2 μ)
  unfold fL_edges
  refine s_aload_n C dL_edges_0 rfl 2 rfl ?_
  refine s_iconst (v := (0 : Int32)) C dL_edges_1 (by decide) ?_
  refine s_aload_n C dL_edges_2 rfl 0 rfl ?_
  refine s_iload_n C dL_edges_3 rfl 1 rfl ?_
  refine s_callC1 (k0 := 1) C R0 TB (kX12_edges (xl X) hT n0 g0 p1) (Nat.le_trans (by decide) V) mmX12_edges miX12_edges q1369 (rc0 _) g0 ⟨by decide, by decide⟩ (by decide) q1212 qn1222 rfl rfl rfl (Nat.le_of_ble_eq_true rfl) ⟨Nat.le_of_ble_eq_true rfl, Nat.le_of_ble_eq_true rfl, Nat.le_of_ble_eq_true rfl, Nat.le_of_ble_eq_true rfl⟩ dL_edges_4 (fun q μ0 => ?_) (fun e h μ0 => if_neg h) (fun x2 μ1 => ?_)
  · refine g_eqo (o' := some ((1 : Int32), μ0)) (by first | rfl | simp) ?_
    refine s_astore_n (L' := [(3, .ref q), (0, .ref (xa X 0 n0)), (1, .int p1), (2, .ref (xa X 31 n2))]) C dL_edges_12 rfl (hN 3 (by decide)) rfl ?_
    refine s_iconst (v := (1 : Int32)) C dL_edges_13 (by decide) ?_
    exact s_iret C E dL_edges_14
  refine g_st (st' := [.int x2, .int (0 : Int32), .ref (xa X 31 n2)]) rfl ?_
  refine s_i2l C dL_edges_7 ?_
  refine s_last C (ag31 V) g2 dL_edges_8 ?_
  refine g_nmM (fun μ4 => ?_)
  refine s_goto (tgt := 15) C dL_edges_9 (by decide) ?_
  refine s_iconst (v := (0 : Int32)) C dL_edges_15 (by decide) ?_
  exact s_iret C E dL_edges_16
def fL_highTime (n0 : Nat) (p1 : Int32) (n2 : Nat) (μ : Mem) : Option (Int32 × Mem) :=
  catX (fX12_highTime n0 p1 μ) (fun e3 μ0 => if e3 = 1 then some ((1 : Int32), μ0) else none) fun x2 μ1 =>
  ckI (0 : Int32) (1) <|
  nm (wJ μ1 31 n2 (0 : Int32).toNatClampNeg (x2.toInt64)) fun μ4 =>
  some ((0 : Int32), μ4)
set_option maxHeartbeats 4000000 in
set_option maxRecDepth 100000 in
theorem kL_highTime (l : Launch) (hls : l.stackTraces = false) (n0 : Nat) (g0 : n0 < 1) (p1 : Int32) (n2 : Nat) (g2 : n2 < 1) : KonH 2 l yL_highTime cL_highTime 4 (some .int) [(0, 9, 12, 18)] 8 130 1 6 (fun ad => [.ref (ad 0 n0), .int p1, .ref (ad 31 n2)]) rvI (fun μ => fL_highTime n0 p1 n2 μ) := by
  refine konH_of (by decide) (fun _ => Nat.le_of_ble_eq_true rfl) (fun X r0 μ hXl hXn V C E TB => ?_)
  have hN : ∀ i : Nat, i < 4 → i < xn X := fun i h => hXn.symm ▸ h
  have R0 := fen_rm E
  have hT : (xl X).stackTraces = false := hXl.symm ▸ hls
  show G X r0 0 0 μ 0 [(0, .ref (xa X 0 n0)), (1, .int p1), (2, .ref (xa X 31 n2))] [] (fL_highTime n0 p1 n2 μ)
  unfold fL_highTime
  refine s_aload_n C dL_highTime_0 rfl 2 rfl ?_
  refine s_iconst (v := (0 : Int32)) C dL_highTime_1 (by decide) ?_
  refine s_aload_n C dL_highTime_2 rfl 0 rfl ?_
  refine s_iload_n C dL_highTime_3 rfl 1 rfl ?_
  refine s_callC1 (k0 := 1) C R0 TB (kX12_highTime (xl X) hT n0 g0 p1) (Nat.le_trans (by decide) V) mmX12_highTime miX12_highTime q1376 (rc0 _) g0 ⟨by decide, by decide⟩ (by decide) q1212 qn1222 rfl rfl rfl (Nat.le_of_ble_eq_true rfl) ⟨Nat.le_of_ble_eq_true rfl, Nat.le_of_ble_eq_true rfl, Nat.le_of_ble_eq_true rfl, Nat.le_of_ble_eq_true rfl⟩ dL_highTime_4 (fun q μ0 => ?_) (fun e h μ0 => if_neg h) (fun x2 μ1 => ?_)
  · refine g_eqo (o' := some ((1 : Int32), μ0)) (by first | rfl | simp) ?_
    refine s_astore_n (L' := [(3, .ref q), (0, .ref (xa X 0 n0)), (1, .int p1), (2, .ref (xa X 31 n2))]) C dL_highTime_12 rfl (hN 3 (by decide)) rfl ?_
    refine s_iconst (v := (1 : Int32)) C dL_highTime_13 (by decide) ?_
    exact s_iret C E dL_highTime_14
  refine g_st (st' := [.int x2, .int (0 : Int32), .ref (xa X 31 n2)]) rfl ?_
  refine s_i2l C dL_highTime_7 ?_
  refine s_last C (ag31 V) g2 dL_highTime_8 ?_
  refine g_nmM (fun μ4 => ?_)
  refine s_goto (tgt := 15) C dL_highTime_9 (by decide) ?_
  refine s_iconst (v := (0 : Int32)) C dL_highTime_15 (by decide) ?_
  exact s_iret C E dL_highTime_16
def fL_put (fu : Nat) (n0 : Nat) (p1 : Int32) (p2 : Int32) (n3 : Nat) (μ : Mem) : Option (Int32 × Mem) :=
  catX (fX12_put fu n0 p1 p2 μ) (fun e3 μ0 => if e3 = 1 then some ((1 : Int32), μ0) else none) fun x2 μ1 =>
  ckI (0 : Int32) (1) <|
  nm (wJ μ1 31 n3 (0 : Int32).toNatClampNeg (x2.toInt64)) fun μ4 =>
  some ((0 : Int32), μ4)
set_option maxHeartbeats 4000000 in
set_option maxRecDepth 100000 in
theorem kL_put (l : Launch) (hls : l.stackTraces = false) (fu : Nat) (n0 : Nat) (g0 : n0 < 1) (p1 : Int32) (p2 : Int32) (n3 : Nat) (g3 : n3 < 1) : KonH 2 l yL_put cL_put 5 (some .int) [(0, 10, 13, 18)] 9 156 1 6 (fun ad => [.ref (ad 0 n0), .int p1, .int p2, .ref (ad 31 n3)]) rvI (fun μ => fL_put fu n0 p1 p2 n3 μ) := by
  refine konH_of (by decide) (fun _ => Nat.le_of_ble_eq_true rfl) (fun X r0 μ hXl hXn V C E TB => ?_)
  have hN : ∀ i : Nat, i < 5 → i < xn X := fun i h => hXn.symm ▸ h
  have R0 := fen_rm E
  have hT : (xl X).stackTraces = false := hXl.symm ▸ hls
  show G X r0 0 0 μ 0 [(0, .ref (xa X 0 n0)), (1, .int p1), (2, .int p2), (3, .ref (xa X 31 n3))] [] (fL_put fu n0 p1 p2 n3 μ)
  unfold fL_put
  refine s_aload_n C dL_put_0 rfl 3 rfl ?_
  refine s_iconst (v := (0 : Int32)) C dL_put_1 (by decide) ?_
  refine s_aload_n C dL_put_2 rfl 0 rfl ?_
  refine s_iload_n C dL_put_3 rfl 1 rfl ?_
  refine s_iload_n C dL_put_4 rfl 2 rfl ?_
  refine s_callC1 (k0 := 1) C R0 TB (kX12_put (xl X) hT fu n0 g0 p1 p2) (Nat.le_trans (by decide) V) mmX12_put miX12_put q1387 (rc0 _) g0 ⟨by decide, by decide⟩ (by decide) q1212 qn1222 rfl rfl rfl (Nat.le_of_ble_eq_true rfl) ⟨Nat.le_of_ble_eq_true rfl, Nat.le_of_ble_eq_true rfl, Nat.le_of_ble_eq_true rfl, Nat.le_of_ble_eq_true rfl⟩ dL_put_5 (fun q μ0 => ?_) (fun e h μ0 => if_neg h) (fun x2 μ1 => ?_)
  · refine g_eqo (o' := some ((1 : Int32), μ0)) (by first | rfl | simp) ?_
    refine s_astore (L' := [(4, .ref q), (0, .ref (xa X 0 n0)), (1, .int p1), (2, .int p2), (3, .ref (xa X 31 n3))]) C dL_put_13 (hN 4 (by decide)) rfl ?_
    refine s_iconst (v := (1 : Int32)) C dL_put_15 (by decide) ?_
    exact s_iret C E dL_put_16
  refine g_st (st' := [.int x2, .int (0 : Int32), .ref (xa X 31 n3)]) rfl ?_
  refine s_i2l C dL_put_8 ?_
  refine s_last C (ag31 V) g3 dL_put_9 ?_
  refine g_nmM (fun μ4 => ?_)
  refine s_goto (tgt := 17) C dL_put_10 (by decide) ?_
  refine s_iconst (v := (0 : Int32)) C dL_put_17 (by decide) ?_
  exact s_iret C E dL_put_18
def fL_take (fu : Nat) (n0 : Nat) (p1 : Int32) (n2 : Nat) (μ : Mem) : Option (Int32 × Mem) :=
  catX (fX12_take fu n0 p1 μ) (fun e3 μ0 => if e3 = 1 then some ((1 : Int32), μ0) else none) fun y2 μ1 =>
  ckI (0 : Int32) (1) <|
  nm (wJ μ1 31 n2 (0 : Int32).toNatClampNeg y2) fun μ4 =>
  some ((0 : Int32), μ4)
set_option maxHeartbeats 4000000 in
set_option maxRecDepth 100000 in
theorem kL_take (l : Launch) (hls : l.stackTraces = false) (fu : Nat) (n0 : Nat) (g0 : n0 < 1) (p1 : Int32) (n2 : Nat) (g2 : n2 < 1) : KonH 2 l yL_take cL_take 4 (some .int) [(0, 8, 11, 18)] 9 155 1 6 (fun ad => [.ref (ad 0 n0), .int p1, .ref (ad 31 n2)]) rvI (fun μ => fL_take fu n0 p1 n2 μ) := by
  refine konH_of (by decide) (fun _ => Nat.le_of_ble_eq_true rfl) (fun X r0 μ hXl hXn V C E TB => ?_)
  have hN : ∀ i : Nat, i < 4 → i < xn X := fun i h => hXn.symm ▸ h
  have R0 := fen_rm E
  have hT : (xl X).stackTraces = false := hXl.symm ▸ hls
  show G X r0 0 0 μ 0 [(0, .ref (xa X 0 n0)), (1, .int p1), (2, .ref (xa X 31 n2))] [] (fL_take fu n0 p1 n2 μ)
  unfold fL_take
  refine s_aload_n C dL_take_0 rfl 2 rfl ?_
  refine s_iconst (v := (0 : Int32)) C dL_take_1 (by decide) ?_
  refine s_aload_n C dL_take_2 rfl 0 rfl ?_
  refine s_iload_n C dL_take_3 rfl 1 rfl ?_
  refine s_callC1 (k0 := 1) C R0 TB (kX12_take (xl X) hT fu n0 g0 p1) (Nat.le_trans (by decide) V) mmX12_take miX12_take q1408 (rc0 _) g0 ⟨by decide, by decide⟩ (by decide) q1212 qn1222 rfl rfl rfl (Nat.le_of_ble_eq_true rfl) ⟨Nat.le_of_ble_eq_true rfl, Nat.le_of_ble_eq_true rfl, Nat.le_of_ble_eq_true rfl, Nat.le_of_ble_eq_true rfl⟩ dL_take_4 (fun q μ0 => ?_) (fun e h μ0 => if_neg h) (fun y2 μ1 => ?_)
  · refine g_eqo (o' := some ((1 : Int32), μ0)) (by first | rfl | simp) ?_
    refine s_astore_n (L' := [(3, .ref q), (0, .ref (xa X 0 n0)), (1, .int p1), (2, .ref (xa X 31 n2))]) C dL_take_11 rfl (hN 3 (by decide)) rfl ?_
    refine s_iconst (v := (1 : Int32)) C dL_take_12 (by decide) ?_
    exact s_iret C E dL_take_13
  refine g_st (st' := [.long y2, .int (0 : Int32), .ref (xa X 31 n2)]) rfl ?_
  refine s_last C (ag31 V) g2 dL_take_7 ?_
  refine g_nmM (fun μ4 => ?_)
  refine s_goto (tgt := 14) C dL_take_8 (by decide) ?_
  refine s_iconst (v := (0 : Int32)) C dL_take_14 (by decide) ?_
  exact s_iret C E dL_take_15
def fL_enable (fu : Nat) (n0 : Nat) (p1 : Int32) (p2 : Int32) (n3 : Nat) (μ : Mem) : Option (Int32 × Mem) :=
  jn (fun (μ1 : Mem) (a2 : Nat) (x4 : Int32) (y5 : Int64) =>
    ckI x4 (1) <|
    nm (wJ μ1 31 a2 x4.toNatClampNeg y5) fun μ6 =>
    some ((0 : Int32), μ6)
  ) fun j16 =>
  catX (fX12_enable fu n0 p1 p2 μ) (fun e9 μ0 => if e9 = 1 then some ((1 : Int32), μ0) else none) fun x8 μ7 =>
  if x8 = 0 then (
    j16 μ7 n3 (0 : Int32) (0 : Int64)
  ) else (
    j16 μ7 n3 (0 : Int32) (1 : Int64)
  )
set_option maxHeartbeats 4000000 in
set_option maxRecDepth 100000 in
theorem kL_enable (l : Launch) (hls : l.stackTraces = false) (fu : Nat) (n0 : Nat) (g0 : n0 < 1) (p1 : Int32) (p2 : Int32) (n3 : Nat) (g3 : n3 < 1) : KonH 2 l yL_enable cL_enable 5 (some .int) [(0, 17, 20, 18)] 8 148 1 6 (fun ad => [.ref (ad 0 n0), .int p1, .int p2, .ref (ad 31 n3)]) rvI (fun μ => fL_enable fu n0 p1 p2 n3 μ) := by
  refine konH_of (by decide) (fun _ => Nat.le_of_ble_eq_true rfl) (fun X r0 μ hXl hXn V C E TB => ?_)
  have hN : ∀ i : Nat, i < 5 → i < xn X := fun i h => hXn.symm ▸ h
  have R0 := fen_rm E
  have hT : (xl X).stackTraces = false := hXl.symm ▸ hls
  show G X r0 0 0 μ 0 [(0, .ref (xa X 0 n0)), (1, .int p1), (2, .int p2), (3, .ref (xa X 31 n3))] [] (fL_enable fu n0 p1 p2 n3 μ)
  unfold fL_enable
  refine g_jn (P := fun j16 => ∀ (μ1 : Mem) (a2 : Nat) (x4 : Int32) (y5 : Int64), a2 < 1 → G X r0 1 6 μ1 16 [] [.long y5, .int x4, .ref (xa X 31 a2)] (j16 μ1 a2 x4 y5)) ?_ (fun j16 hj16 => ?_)
  · intro μ1 a2 x4 y5 b3
    refine s_last C (ag31 V) b3 dL_enable_16 ?_
    refine g_nmM (fun μ6 => ?_)
    refine s_goto (tgt := 24) C dL_enable_17 (by decide) ?_
    refine s_iconst (v := (0 : Int32)) C dL_enable_24 (by decide) ?_
    exact s_iret C E dL_enable_25
  refine s_aload_n C dL_enable_0 rfl 3 rfl ?_
  refine s_iconst (v := (0 : Int32)) C dL_enable_1 (by decide) ?_
  refine s_aload_n C dL_enable_2 rfl 0 rfl ?_
  refine s_iload_n C dL_enable_3 rfl 1 rfl ?_
  refine s_iload_n C dL_enable_4 rfl 2 rfl ?_
  refine s_callC1 (k0 := 1) C R0 TB (kX12_enable (xl X) hT fu n0 g0 p1 p2) (Nat.le_trans (by decide) V) mmX12_enable miX12_enable q1420 (rc0 _) g0 ⟨by decide, by decide⟩ (by decide) q1212 qn1222 rfl rfl rfl (Nat.le_of_ble_eq_true rfl) ⟨Nat.le_of_ble_eq_true rfl, Nat.le_of_ble_eq_true rfl, Nat.le_of_ble_eq_true rfl, Nat.le_of_ble_eq_true rfl⟩ dL_enable_5 (fun q μ0 => ?_) (fun e h μ0 => if_neg h) (fun x8 μ7 => ?_)
  · refine g_eqo (o' := some ((1 : Int32), μ0)) (by first | rfl | simp) ?_
    refine s_astore (L' := [(4, .ref q), (0, .ref (xa X 0 n0)), (1, .int p1), (2, .int p2), (3, .ref (xa X 31 n3))]) C dL_enable_20 (hN 4 (by decide)) rfl ?_
    refine s_iconst (v := (1 : Int32)) C dL_enable_22 (by decide) ?_
    exact s_iret C E dL_enable_23
  refine g_st (st' := [.int x8, .int (0 : Int32), .ref (xa X 31 n3)]) rfl ?_
  refine s_if_eq (tgt := 15) C dL_enable_8 (by decide) (fun c10 => ?_) (fun c10 => ?_)
  ·
    refine s_lconst (v := (0 : Int64)) C dL_enable_15 (by decide) ?_
    exact g_wid (ca1 := 1) (sl1 := 6) (by decide) (by decide) <| g_sub [] rfl (hj16 μ7 n3 (0 : Int32) (0 : Int64) g3)
  ·
    refine s_lconst (v := (1 : Int64)) C dL_enable_11 (by decide) ?_
    refine s_goto (tgt := 16) C dL_enable_12 (by decide) ?_
    exact g_wid (ca1 := 1) (sl1 := 6) (by decide) (by decide) <| g_sub [] rfl (hj16 μ7 n3 (0 : Int32) (1 : Int64) g3)
def fL_restart (fu : Nat) (n0 : Nat) (p1 : Int32) (n2 : Nat) (μ : Mem) : Option (Int32 × Mem) :=
  catX (fX12_restart fu n0 p1 μ) (fun e3 μ0 => if e3 = 1 then some ((1 : Int32), μ0) else none) fun x2 μ1 =>
  ckI (0 : Int32) (1) <|
  nm (wJ μ1 31 n2 (0 : Int32).toNatClampNeg (x2.toInt64)) fun μ4 =>
  some ((0 : Int32), μ4)
set_option maxHeartbeats 4000000 in
set_option maxRecDepth 100000 in
theorem kL_restart (l : Launch) (hls : l.stackTraces = false) (fu : Nat) (n0 : Nat) (g0 : n0 < 1) (p1 : Int32) (n2 : Nat) (g2 : n2 < 1) : KonH 2 l yL_restart cL_restart 4 (some .int) [(0, 9, 12, 18)] 8 147 1 6 (fun ad => [.ref (ad 0 n0), .int p1, .ref (ad 31 n2)]) rvI (fun μ => fL_restart fu n0 p1 n2 μ) := by
  refine konH_of (by decide) (fun _ => Nat.le_of_ble_eq_true rfl) (fun X r0 μ hXl hXn V C E TB => ?_)
  have hN : ∀ i : Nat, i < 4 → i < xn X := fun i h => hXn.symm ▸ h
  have R0 := fen_rm E
  have hT : (xl X).stackTraces = false := hXl.symm ▸ hls
  show G X r0 0 0 μ 0 [(0, .ref (xa X 0 n0)), (1, .int p1), (2, .ref (xa X 31 n2))] [] (fL_restart fu n0 p1 n2 μ)
  unfold fL_restart
  refine s_aload_n C dL_restart_0 rfl 2 rfl ?_
  refine s_iconst (v := (0 : Int32)) C dL_restart_1 (by decide) ?_
  refine s_aload_n C dL_restart_2 rfl 0 rfl ?_
  refine s_iload_n C dL_restart_3 rfl 1 rfl ?_
  refine s_callC1 (k0 := 1) C R0 TB (kX12_restart (xl X) hT fu n0 g0 p1) (Nat.le_trans (by decide) V) mmX12_restart miX12_restart q1427 (rc0 _) g0 ⟨by decide, by decide⟩ (by decide) q1212 qn1222 rfl rfl rfl (Nat.le_of_ble_eq_true rfl) ⟨Nat.le_of_ble_eq_true rfl, Nat.le_of_ble_eq_true rfl, Nat.le_of_ble_eq_true rfl, Nat.le_of_ble_eq_true rfl⟩ dL_restart_4 (fun q μ0 => ?_) (fun e h μ0 => if_neg h) (fun x2 μ1 => ?_)
  · refine g_eqo (o' := some ((1 : Int32), μ0)) (by first | rfl | simp) ?_
    refine s_astore_n (L' := [(3, .ref q), (0, .ref (xa X 0 n0)), (1, .int p1), (2, .ref (xa X 31 n2))]) C dL_restart_12 rfl (hN 3 (by decide)) rfl ?_
    refine s_iconst (v := (1 : Int32)) C dL_restart_13 (by decide) ?_
    exact s_iret C E dL_restart_14
  refine g_st (st' := [.int x2, .int (0 : Int32), .ref (xa X 31 n2)]) rfl ?_
  refine s_i2l C dL_restart_7 ?_
  refine s_last C (ag31 V) g2 dL_restart_8 ?_
  refine g_nmM (fun μ4 => ?_)
  refine s_goto (tgt := 15) C dL_restart_9 (by decide) ?_
  refine s_iconst (v := (0 : Int32)) C dL_restart_15 (by decide) ?_
  exact s_iret C E dL_restart_16
def fL_drive (fu : Nat) (n0 : Nat) (p1 : Int32) (p2 : Int32) (n3 : Nat) (μ : Mem) : Option (Int32 × Mem) :=
  catX (fX12_drive fu n0 p1 p2 μ) (fun e3 μ0 => if e3 = 1 then some ((1 : Int32), μ0) else if e3 = 2 then some ((2 : Int32), μ0) else none) fun x2 μ1 =>
  ckI (0 : Int32) (1) <|
  nm (wJ μ1 31 n3 (0 : Int32).toNatClampNeg (x2.toInt64)) fun μ4 =>
  some ((0 : Int32), μ4)
set_option maxHeartbeats 4000000 in
set_option maxRecDepth 100000 in
theorem kL_drive (l : Launch) (hls : l.stackTraces = false) (fu : Nat) (n0 : Nat) (g0 : n0 < 1) (p1 : Int32) (p2 : Int32) (n3 : Nat) (g3 : n3 < 1) : KonH 2 l yL_drive cL_drive 5 (some .int) [(0, 10, 13, 18), (0, 10, 17, 13)] 8 146 2 12 (fun ad => [.ref (ad 0 n0), .int p1, .int p2, .ref (ad 31 n3)]) rvI (fun μ => fL_drive fu n0 p1 p2 n3 μ) := by
  refine konH_of (by decide) (fun _ => Nat.le_of_ble_eq_true rfl) (fun X r0 μ hXl hXn V C E TB => ?_)
  have hN : ∀ i : Nat, i < 5 → i < xn X := fun i h => hXn.symm ▸ h
  have R0 := fen_rm E
  have hT : (xl X).stackTraces = false := hXl.symm ▸ hls
  show G X r0 0 0 μ 0 [(0, .ref (xa X 0 n0)), (1, .int p1), (2, .int p2), (3, .ref (xa X 31 n3))] [] (fL_drive fu n0 p1 p2 n3 μ)
  unfold fL_drive
  refine s_aload_n C dL_drive_0 rfl 3 rfl ?_
  refine s_iconst (v := (0 : Int32)) C dL_drive_1 (by decide) ?_
  refine s_aload_n C dL_drive_2 rfl 0 rfl ?_
  refine s_iload_n C dL_drive_3 rfl 1 rfl ?_
  refine s_iload_n C dL_drive_4 rfl 2 rfl ?_
  refine s_callC2 C R0 TB (kX12_drive (xl X) hT fu n0 g0 p1 p2) (Nat.le_trans (by decide) V) mmX12_drive miX12_drive q1435 (rc0 _) g0 ⟨by decide, by decide⟩ (by decide) (by decide) q1212 q898 qn1222 qn905 rfl rfl rfl (Nat.le_of_ble_eq_true rfl) ⟨Nat.le_of_ble_eq_true rfl, Nat.le_of_ble_eq_true rfl, Nat.le_of_ble_eq_true rfl, Nat.le_of_ble_eq_true rfl⟩ dL_drive_5 (fun q μ0 => ?_) (fun q μ0 => ?_) (fun e h h2 μ0 => by rw [if_neg h, if_neg h2]) (fun x2 μ1 => ?_)
  · refine g_eqo (o' := some ((1 : Int32), μ0)) (by first | rfl | simp) ?_
    refine s_astore (L' := [(4, .ref q), (0, .ref (xa X 0 n0)), (1, .int p1), (2, .int p2), (3, .ref (xa X 31 n3))]) C dL_drive_13 (hN 4 (by decide)) rfl ?_
    refine s_iconst (v := (1 : Int32)) C dL_drive_15 (by decide) ?_
    exact s_iret C E dL_drive_16
  · refine g_eqo (o' := some ((2 : Int32), μ0)) (by first | rfl | simp) ?_
    refine s_astore (L' := [(4, .ref q), (0, .ref (xa X 0 n0)), (1, .int p1), (2, .int p2), (3, .ref (xa X 31 n3))]) C dL_drive_17 (hN 4 (by decide)) rfl ?_
    refine s_iconst (v := (2 : Int32)) C dL_drive_19 (by decide) ?_
    exact s_iret C E dL_drive_20
  refine g_st (st' := [.int x2, .int (0 : Int32), .ref (xa X 31 n3)]) rfl ?_
  refine s_i2l C dL_drive_8 ?_
  refine s_last C (ag31 V) g3 dL_drive_9 ?_
  refine g_nmM (fun μ4 => ?_)
  refine s_goto (tgt := 21) C dL_drive_10 (by decide) ?_
  refine s_iconst (v := (0 : Int32)) C dL_drive_21 (by decide) ?_
  exact s_iret C E dL_drive_22
def fL_schedule (fu : Nat) (n0 : Nat) (p1 : Int32) (p2 : Int32) (p3 : Int32) (n4 : Nat) (μ : Mem) : Option (Int32 × Mem) :=
  catX (fX12_schedule fu n0 p1 p2 p3 μ) (fun e3 μ0 => if e3 = 1 then some ((1 : Int32), μ0) else if e3 = 2 then some ((2 : Int32), μ0) else none) fun x2 μ1 =>
  ckI (0 : Int32) (1) <|
  nm (wJ μ1 31 n4 (0 : Int32).toNatClampNeg (x2.toInt64)) fun μ4 =>
  some ((0 : Int32), μ4)
set_option maxHeartbeats 4000000 in
set_option maxRecDepth 100000 in
theorem kL_schedule (l : Launch) (hls : l.stackTraces = false) (fu : Nat) (n0 : Nat) (g0 : n0 < 1) (p1 : Int32) (p2 : Int32) (p3 : Int32) (n4 : Nat) (g4 : n4 < 1) : KonH 2 l yL_schedule cL_schedule 6 (some .int) [(0, 12, 15, 18), (0, 12, 19, 13)] 8 147 3 18 (fun ad => [.ref (ad 0 n0), .int p1, .int p2, .int p3, .ref (ad 31 n4)]) rvI (fun μ => fL_schedule fu n0 p1 p2 p3 n4 μ) := by
  refine konH_of (by decide) (fun _ => Nat.le_of_ble_eq_true rfl) (fun X r0 μ hXl hXn V C E TB => ?_)
  have hN : ∀ i : Nat, i < 6 → i < xn X := fun i h => hXn.symm ▸ h
  have R0 := fen_rm E
  have hT : (xl X).stackTraces = false := hXl.symm ▸ hls
  show G X r0 0 0 μ 0 [(0, .ref (xa X 0 n0)), (1, .int p1), (2, .int p2), (3, .int p3), (4, .ref (xa X 31 n4))] [] (fL_schedule fu n0 p1 p2 p3 n4 μ)
  unfold fL_schedule
  refine s_aload C dL_schedule_0 4 rfl ?_
  refine s_iconst (v := (0 : Int32)) C dL_schedule_2 (by decide) ?_
  refine s_aload_n C dL_schedule_3 rfl 0 rfl ?_
  refine s_iload_n C dL_schedule_4 rfl 1 rfl ?_
  refine s_iload_n C dL_schedule_5 rfl 2 rfl ?_
  refine s_iload_n C dL_schedule_6 rfl 3 rfl ?_
  refine s_callC2 C R0 TB (kX12_schedule (xl X) hT fu n0 g0 p1 p2 p3) (Nat.le_trans (by decide) V) mmX12_schedule miX12_schedule q1449 (rc0 _) g0 ⟨by decide, by decide⟩ (by decide) (by decide) q1212 q898 qn1222 qn905 rfl rfl rfl (Nat.le_of_ble_eq_true rfl) ⟨Nat.le_of_ble_eq_true rfl, Nat.le_of_ble_eq_true rfl, Nat.le_of_ble_eq_true rfl, Nat.le_of_ble_eq_true rfl⟩ dL_schedule_7 (fun q μ0 => ?_) (fun q μ0 => ?_) (fun e h h2 μ0 => by rw [if_neg h, if_neg h2]) (fun x2 μ1 => ?_)
  · refine g_eqo (o' := some ((1 : Int32), μ0)) (by first | rfl | simp) ?_
    refine s_astore (L' := [(5, .ref q), (0, .ref (xa X 0 n0)), (1, .int p1), (2, .int p2), (3, .int p3), (4, .ref (xa X 31 n4))]) C dL_schedule_15 (hN 5 (by decide)) rfl ?_
    refine s_iconst (v := (1 : Int32)) C dL_schedule_17 (by decide) ?_
    exact s_iret C E dL_schedule_18
  · refine g_eqo (o' := some ((2 : Int32), μ0)) (by first | rfl | simp) ?_
    refine s_astore (L' := [(5, .ref q), (0, .ref (xa X 0 n0)), (1, .int p1), (2, .int p2), (3, .int p3), (4, .ref (xa X 31 n4))]) C dL_schedule_19 (hN 5 (by decide)) rfl ?_
    refine s_iconst (v := (2 : Int32)) C dL_schedule_21 (by decide) ?_
    exact s_iret C E dL_schedule_22
  refine g_st (st' := [.int x2, .int (0 : Int32), .ref (xa X 31 n4)]) rfl ?_
  refine s_i2l C dL_schedule_10 ?_
  refine s_last C (ag31 V) g4 dL_schedule_11 ?_
  refine g_nmM (fun μ4 => ?_)
  refine s_goto (tgt := 23) C dL_schedule_12 (by decide) ?_
  refine s_iconst (v := (0 : Int32)) C dL_schedule_23 (by decide) ?_
  exact s_iret C E dL_schedule_24
def fL_poke (fu : Nat) (n0 : Nat) (p1 : Int32) (p2 : Int32) (n3 : Nat) (μ : Mem) : Option (Int32 × Mem) :=
  catX (fX12_poke fu n0 p1 p2 μ) (fun e3 μ0 => if e3 = 1 then some ((1 : Int32), μ0) else none) fun x2 μ1 =>
  ckI (0 : Int32) (1) <|
  nm (wJ μ1 31 n3 (0 : Int32).toNatClampNeg (x2.toInt64)) fun μ4 =>
  some ((0 : Int32), μ4)
set_option maxHeartbeats 4000000 in
set_option maxRecDepth 100000 in
theorem kL_poke (l : Launch) (hls : l.stackTraces = false) (fu : Nat) (n0 : Nat) (g0 : n0 < 1) (p1 : Int32) (p2 : Int32) (n3 : Nat) (g3 : n3 < 1) : KonH 2 l yL_poke cL_poke 5 (some .int) [(0, 10, 13, 18)] 8 147 1 6 (fun ad => [.ref (ad 0 n0), .int p1, .int p2, .ref (ad 31 n3)]) rvI (fun μ => fL_poke fu n0 p1 p2 n3 μ) := by
  refine konH_of (by decide) (fun _ => Nat.le_of_ble_eq_true rfl) (fun X r0 μ hXl hXn V C E TB => ?_)
  have hN : ∀ i : Nat, i < 5 → i < xn X := fun i h => hXn.symm ▸ h
  have R0 := fen_rm E
  have hT : (xl X).stackTraces = false := hXl.symm ▸ hls
  show G X r0 0 0 μ 0 [(0, .ref (xa X 0 n0)), (1, .int p1), (2, .int p2), (3, .ref (xa X 31 n3))] [] (fL_poke fu n0 p1 p2 n3 μ)
  unfold fL_poke
  refine s_aload_n C dL_poke_0 rfl 3 rfl ?_
  refine s_iconst (v := (0 : Int32)) C dL_poke_1 (by decide) ?_
  refine s_aload_n C dL_poke_2 rfl 0 rfl ?_
  refine s_iload_n C dL_poke_3 rfl 1 rfl ?_
  refine s_iload_n C dL_poke_4 rfl 2 rfl ?_
  refine s_callC1 (k0 := 1) C R0 TB (kX12_poke (xl X) hT fu n0 g0 p1 p2) (Nat.le_trans (by decide) V) mmX12_poke miX12_poke q1461 (rc0 _) g0 ⟨by decide, by decide⟩ (by decide) q1212 qn1222 rfl rfl rfl (Nat.le_of_ble_eq_true rfl) ⟨Nat.le_of_ble_eq_true rfl, Nat.le_of_ble_eq_true rfl, Nat.le_of_ble_eq_true rfl, Nat.le_of_ble_eq_true rfl⟩ dL_poke_5 (fun q μ0 => ?_) (fun e h μ0 => if_neg h) (fun x2 μ1 => ?_)
  · refine g_eqo (o' := some ((1 : Int32), μ0)) (by first | rfl | simp) ?_
    refine s_astore (L' := [(4, .ref q), (0, .ref (xa X 0 n0)), (1, .int p1), (2, .int p2), (3, .ref (xa X 31 n3))]) C dL_poke_13 (hN 4 (by decide)) rfl ?_
    refine s_iconst (v := (1 : Int32)) C dL_poke_15 (by decide) ?_
    exact s_iret C E dL_poke_16
  refine g_st (st' := [.int x2, .int (0 : Int32), .ref (xa X 31 n3)]) rfl ?_
  refine s_i2l C dL_poke_8 ?_
  refine s_last C (ag31 V) g3 dL_poke_9 ?_
  refine g_nmM (fun μ4 => ?_)
  refine s_goto (tgt := 17) C dL_poke_10 (by decide) ?_
  refine s_iconst (v := (0 : Int32)) C dL_poke_17 (by decide) ?_
  exact s_iret C E dL_poke_18
def fL_run (fu : Nat) (n0 : Nat) (p1 : Int32) (n2 : Nat) (μ : Mem) : Option (Int32 × Mem) :=
  catX (fX12_run fu n0 p1 μ) (fun e3 μ0 => if e3 = 2 then some ((1 : Int32), μ0) else none) fun x2 μ1 =>
  ckI (0 : Int32) (1) <|
  nm (wJ μ1 31 n2 (0 : Int32).toNatClampNeg (x2.toInt64)) fun μ4 =>
  some ((0 : Int32), μ4)
set_option maxHeartbeats 4000000 in
set_option maxRecDepth 100000 in
theorem kL_run (l : Launch) (hls : l.stackTraces = false) (fu : Nat) (n0 : Nat) (g0 : n0 < 1) (p1 : Int32) (n2 : Nat) (g2 : n2 < 1) : KonH 2 l yL_run cL_run 4 (some .int) [(0, 9, 12, 13)] 8 188 1 6 (fun ad => [.ref (ad 0 n0), .int p1, .ref (ad 31 n2)]) rvI (fun μ => fL_run fu n0 p1 n2 μ) := by
  refine konH_of (by decide) (fun _ => Nat.le_of_ble_eq_true rfl) (fun X r0 μ hXl hXn V C E TB => ?_)
  have hN : ∀ i : Nat, i < 4 → i < xn X := fun i h => hXn.symm ▸ h
  have R0 := fen_rm E
  have hT : (xl X).stackTraces = false := hXl.symm ▸ hls
  show G X r0 0 0 μ 0 [(0, .ref (xa X 0 n0)), (1, .int p1), (2, .ref (xa X 31 n2))] [] (fL_run fu n0 p1 n2 μ)
  unfold fL_run
  refine s_aload_n C dL_run_0 rfl 2 rfl ?_
  refine s_iconst (v := (0 : Int32)) C dL_run_1 (by decide) ?_
  refine s_aload_n C dL_run_2 rfl 0 rfl ?_
  refine s_iload_n C dL_run_3 rfl 1 rfl ?_
  refine s_callC1 (k0 := 2) C R0 TB (kX12_run (xl X) hT fu n0 g0 p1) (Nat.le_trans (by decide) V) mmX12_run miX12_run q1468 (rc0 _) g0 ⟨by decide, by decide⟩ (by decide) q898 qn905 rfl rfl rfl (Nat.le_of_ble_eq_true rfl) ⟨Nat.le_of_ble_eq_true rfl, Nat.le_of_ble_eq_true rfl, Nat.le_of_ble_eq_true rfl, Nat.le_of_ble_eq_true rfl⟩ dL_run_4 (fun q μ0 => ?_) (fun e h μ0 => if_neg h) (fun x2 μ1 => ?_)
  · refine g_eqo (o' := some ((1 : Int32), μ0)) (by first | rfl | simp) ?_
    refine s_astore_n (L' := [(3, .ref q), (0, .ref (xa X 0 n0)), (1, .int p1), (2, .ref (xa X 31 n2))]) C dL_run_12 rfl (hN 3 (by decide)) rfl ?_
    refine s_iconst (v := (1 : Int32)) C dL_run_13 (by decide) ?_
    exact s_iret C E dL_run_14
  refine g_st (st' := [.int x2, .int (0 : Int32), .ref (xa X 31 n2)]) rfl ?_
  refine s_i2l C dL_run_7 ?_
  refine s_last C (ag31 V) g2 dL_run_8 ?_
  refine g_nmM (fun μ4 => ?_)
  refine s_goto (tgt := 15) C dL_run_9 (by decide) ?_
  refine s_iconst (v := (0 : Int32)) C dL_run_15 (by decide) ?_
  exact s_iret C E dL_run_16
def fL_cyclesUntil (fu : Nat) (n0 : Nat) (p1 : Int32) (p2 : Int32) (p3 : Int32) (n4 : Nat) (μ : Mem) : Option (Int32 × Mem) :=
  catX (fX12_cyclesUntil fu n0 p1 p2 p3 μ) (fun e3 μ0 => if e3 = 1 then some ((1 : Int32), μ0) else if e3 = 2 then some ((2 : Int32), μ0) else none) fun x2 μ1 =>
  ckI (0 : Int32) (1) <|
  nm (wJ μ1 31 n4 (0 : Int32).toNatClampNeg (x2.toInt64)) fun μ4 =>
  some ((0 : Int32), μ4)
set_option maxHeartbeats 4000000 in
set_option maxRecDepth 100000 in
theorem kL_cyclesUntil (l : Launch) (hls : l.stackTraces = false) (fu : Nat) (n0 : Nat) (g0 : n0 < 1) (p1 : Int32) (p2 : Int32) (p3 : Int32) (n4 : Nat) (g4 : n4 < 1) : KonH 2 l yL_cyclesUntil cL_cyclesUntil 6 (some .int) [(0, 12, 15, 18), (0, 12, 19, 13)] 8 189 3 18 (fun ad => [.ref (ad 0 n0), .int p1, .int p2, .int p3, .ref (ad 31 n4)]) rvI (fun μ => fL_cyclesUntil fu n0 p1 p2 p3 n4 μ) := by
  refine konH_of (by decide) (fun _ => Nat.le_of_ble_eq_true rfl) (fun X r0 μ hXl hXn V C E TB => ?_)
  have hN : ∀ i : Nat, i < 6 → i < xn X := fun i h => hXn.symm ▸ h
  have R0 := fen_rm E
  have hT : (xl X).stackTraces = false := hXl.symm ▸ hls
  show G X r0 0 0 μ 0 [(0, .ref (xa X 0 n0)), (1, .int p1), (2, .int p2), (3, .int p3), (4, .ref (xa X 31 n4))] [] (fL_cyclesUntil fu n0 p1 p2 p3 n4 μ)
  unfold fL_cyclesUntil
  refine s_aload C dL_cyclesUntil_0 4 rfl ?_
  refine s_iconst (v := (0 : Int32)) C dL_cyclesUntil_2 (by decide) ?_
  refine s_aload_n C dL_cyclesUntil_3 rfl 0 rfl ?_
  refine s_iload_n C dL_cyclesUntil_4 rfl 1 rfl ?_
  refine s_iload_n C dL_cyclesUntil_5 rfl 2 rfl ?_
  refine s_iload_n C dL_cyclesUntil_6 rfl 3 rfl ?_
  refine s_callC2 C R0 TB (kX12_cyclesUntil (xl X) hT fu n0 g0 p1 p2 p3) (Nat.le_trans (by decide) V) mmX12_cyclesUntil miX12_cyclesUntil q1650 (rc0 _) g0 ⟨by decide, by decide⟩ (by decide) (by decide) q1212 q898 qn1222 qn905 rfl rfl rfl (Nat.le_of_ble_eq_true rfl) ⟨Nat.le_of_ble_eq_true rfl, Nat.le_of_ble_eq_true rfl, Nat.le_of_ble_eq_true rfl, Nat.le_of_ble_eq_true rfl⟩ dL_cyclesUntil_7 (fun q μ0 => ?_) (fun q μ0 => ?_) (fun e h h2 μ0 => by rw [if_neg h, if_neg h2]) (fun x2 μ1 => ?_)
  · refine g_eqo (o' := some ((1 : Int32), μ0)) (by first | rfl | simp) ?_
    refine s_astore (L' := [(5, .ref q), (0, .ref (xa X 0 n0)), (1, .int p1), (2, .int p2), (3, .int p3), (4, .ref (xa X 31 n4))]) C dL_cyclesUntil_15 (hN 5 (by decide)) rfl ?_
    refine s_iconst (v := (1 : Int32)) C dL_cyclesUntil_17 (by decide) ?_
    exact s_iret C E dL_cyclesUntil_18
  · refine g_eqo (o' := some ((2 : Int32), μ0)) (by first | rfl | simp) ?_
    refine s_astore (L' := [(5, .ref q), (0, .ref (xa X 0 n0)), (1, .int p1), (2, .int p2), (3, .int p3), (4, .ref (xa X 31 n4))]) C dL_cyclesUntil_19 (hN 5 (by decide)) rfl ?_
    refine s_iconst (v := (2 : Int32)) C dL_cyclesUntil_21 (by decide) ?_
    exact s_iret C E dL_cyclesUntil_22
  refine g_st (st' := [.int x2, .int (0 : Int32), .ref (xa X 31 n4)]) rfl ?_
  refine s_i2l C dL_cyclesUntil_10 ?_
  refine s_last C (ag31 V) g4 dL_cyclesUntil_11 ?_
  refine g_nmM (fun μ4 => ?_)
  refine s_goto (tgt := 23) C dL_cyclesUntil_12 (by decide) ?_
  refine s_iconst (v := (0 : Int32)) C dL_cyclesUntil_23 (by decide) ?_
  exact s_iret C E dL_cyclesUntil_24
def fL_cyclesTo (fu : Nat) (n0 : Nat) (p1 : Int32) (p2 : Int32) (p3 : Int32) (n4 : Nat) (μ : Mem) : Option (Int32 × Mem) :=
  catX (fX12_cyclesTo fu n0 p1 p2 p3 μ) (fun e3 μ0 => if e3 = 1 then some ((1 : Int32), μ0) else if e3 = 2 then some ((2 : Int32), μ0) else none) fun x2 μ1 =>
  ckI (0 : Int32) (1) <|
  nm (wJ μ1 31 n4 (0 : Int32).toNatClampNeg (x2.toInt64)) fun μ4 =>
  some ((0 : Int32), μ4)
set_option maxHeartbeats 4000000 in
set_option maxRecDepth 100000 in
theorem kL_cyclesTo (l : Launch) (hls : l.stackTraces = false) (fu : Nat) (n0 : Nat) (g0 : n0 < 1) (p1 : Int32) (p2 : Int32) (p3 : Int32) (n4 : Nat) (g4 : n4 < 1) : KonH 2 l yL_cyclesTo cL_cyclesTo 6 (some .int) [(0, 12, 15, 18), (0, 12, 19, 13)] 8 189 3 18 (fun ad => [.ref (ad 0 n0), .int p1, .int p2, .int p3, .ref (ad 31 n4)]) rvI (fun μ => fL_cyclesTo fu n0 p1 p2 p3 n4 μ) := by
  refine konH_of (by decide) (fun _ => Nat.le_of_ble_eq_true rfl) (fun X r0 μ hXl hXn V C E TB => ?_)
  have hN : ∀ i : Nat, i < 6 → i < xn X := fun i h => hXn.symm ▸ h
  have R0 := fen_rm E
  have hT : (xl X).stackTraces = false := hXl.symm ▸ hls
  show G X r0 0 0 μ 0 [(0, .ref (xa X 0 n0)), (1, .int p1), (2, .int p2), (3, .int p3), (4, .ref (xa X 31 n4))] [] (fL_cyclesTo fu n0 p1 p2 p3 n4 μ)
  unfold fL_cyclesTo
  refine s_aload C dL_cyclesTo_0 4 rfl ?_
  refine s_iconst (v := (0 : Int32)) C dL_cyclesTo_2 (by decide) ?_
  refine s_aload_n C dL_cyclesTo_3 rfl 0 rfl ?_
  refine s_iload_n C dL_cyclesTo_4 rfl 1 rfl ?_
  refine s_iload_n C dL_cyclesTo_5 rfl 2 rfl ?_
  refine s_iload_n C dL_cyclesTo_6 rfl 3 rfl ?_
  refine s_callC2 C R0 TB (kX12_cyclesTo (xl X) hT fu n0 g0 p1 p2 p3) (Nat.le_trans (by decide) V) mmX12_cyclesTo miX12_cyclesTo q1660 (rc0 _) g0 ⟨by decide, by decide⟩ (by decide) (by decide) q1212 q898 qn1222 qn905 rfl rfl rfl (Nat.le_of_ble_eq_true rfl) ⟨Nat.le_of_ble_eq_true rfl, Nat.le_of_ble_eq_true rfl, Nat.le_of_ble_eq_true rfl, Nat.le_of_ble_eq_true rfl⟩ dL_cyclesTo_7 (fun q μ0 => ?_) (fun q μ0 => ?_) (fun e h h2 μ0 => by rw [if_neg h, if_neg h2]) (fun x2 μ1 => ?_)
  · refine g_eqo (o' := some ((1 : Int32), μ0)) (by first | rfl | simp) ?_
    refine s_astore (L' := [(5, .ref q), (0, .ref (xa X 0 n0)), (1, .int p1), (2, .int p2), (3, .int p3), (4, .ref (xa X 31 n4))]) C dL_cyclesTo_15 (hN 5 (by decide)) rfl ?_
    refine s_iconst (v := (1 : Int32)) C dL_cyclesTo_17 (by decide) ?_
    exact s_iret C E dL_cyclesTo_18
  · refine g_eqo (o' := some ((2 : Int32), μ0)) (by first | rfl | simp) ?_
    refine s_astore (L' := [(5, .ref q), (0, .ref (xa X 0 n0)), (1, .int p1), (2, .int p2), (3, .int p3), (4, .ref (xa X 31 n4))]) C dL_cyclesTo_19 (hN 5 (by decide)) rfl ?_
    refine s_iconst (v := (2 : Int32)) C dL_cyclesTo_21 (by decide) ?_
    exact s_iret C E dL_cyclesTo_22
  refine g_st (st' := [.int x2, .int (0 : Int32), .ref (xa X 31 n4)]) rfl ?_
  refine s_i2l C dL_cyclesTo_10 ?_
  refine s_last C (ag31 V) g4 dL_cyclesTo_11 ?_
  refine g_nmM (fun μ4 => ?_)
  refine s_goto (tgt := 23) C dL_cyclesTo_12 (by decide) ?_
  refine s_iconst (v := (0 : Int32)) C dL_cyclesTo_23 (by decide) ?_
  exact s_iret C E dL_cyclesTo_24
def fL_period (fu : Nat) (n0 : Nat) (p1 : Int32) (p2 : Int32) (n3 : Nat) (μ : Mem) : Option (Int32 × Mem) :=
  catX (fX12_period fu n0 p1 p2 μ) (fun e3 μ0 => if e3 = 1 then some ((1 : Int32), μ0) else if e3 = 2 then some ((2 : Int32), μ0) else none) fun x2 μ1 =>
  ckI (0 : Int32) (1) <|
  nm (wJ μ1 31 n3 (0 : Int32).toNatClampNeg (x2.toInt64)) fun μ4 =>
  some ((0 : Int32), μ4)
set_option maxHeartbeats 4000000 in
set_option maxRecDepth 100000 in
theorem kL_period (l : Launch) (hls : l.stackTraces = false) (fu : Nat) (n0 : Nat) (g0 : n0 < 1) (p1 : Int32) (p2 : Int32) (n3 : Nat) (g3 : n3 < 1) : KonH 2 l yL_period cL_period 5 (some .int) [(0, 10, 13, 18), (0, 10, 17, 13)] 8 191 2 12 (fun ad => [.ref (ad 0 n0), .int p1, .int p2, .ref (ad 31 n3)]) rvI (fun μ => fL_period fu n0 p1 p2 n3 μ) := by
  refine konH_of (by decide) (fun _ => Nat.le_of_ble_eq_true rfl) (fun X r0 μ hXl hXn V C E TB => ?_)
  have hN : ∀ i : Nat, i < 5 → i < xn X := fun i h => hXn.symm ▸ h
  have R0 := fen_rm E
  have hT : (xl X).stackTraces = false := hXl.symm ▸ hls
  show G X r0 0 0 μ 0 [(0, .ref (xa X 0 n0)), (1, .int p1), (2, .int p2), (3, .ref (xa X 31 n3))] [] (fL_period fu n0 p1 p2 n3 μ)
  unfold fL_period
  refine s_aload_n C dL_period_0 rfl 3 rfl ?_
  refine s_iconst (v := (0 : Int32)) C dL_period_1 (by decide) ?_
  refine s_aload_n C dL_period_2 rfl 0 rfl ?_
  refine s_iload_n C dL_period_3 rfl 1 rfl ?_
  refine s_iload_n C dL_period_4 rfl 2 rfl ?_
  refine s_callC2 C R0 TB (kX12_period (xl X) hT fu n0 g0 p1 p2) (Nat.le_trans (by decide) V) mmX12_period miX12_period q1671 (rc0 _) g0 ⟨by decide, by decide⟩ (by decide) (by decide) q1212 q898 qn1222 qn905 rfl rfl rfl (Nat.le_of_ble_eq_true rfl) ⟨Nat.le_of_ble_eq_true rfl, Nat.le_of_ble_eq_true rfl, Nat.le_of_ble_eq_true rfl, Nat.le_of_ble_eq_true rfl⟩ dL_period_5 (fun q μ0 => ?_) (fun q μ0 => ?_) (fun e h h2 μ0 => by rw [if_neg h, if_neg h2]) (fun x2 μ1 => ?_)
  · refine g_eqo (o' := some ((1 : Int32), μ0)) (by first | rfl | simp) ?_
    refine s_astore (L' := [(4, .ref q), (0, .ref (xa X 0 n0)), (1, .int p1), (2, .int p2), (3, .ref (xa X 31 n3))]) C dL_period_13 (hN 4 (by decide)) rfl ?_
    refine s_iconst (v := (1 : Int32)) C dL_period_15 (by decide) ?_
    exact s_iret C E dL_period_16
  · refine g_eqo (o' := some ((2 : Int32), μ0)) (by first | rfl | simp) ?_
    refine s_astore (L' := [(4, .ref q), (0, .ref (xa X 0 n0)), (1, .int p1), (2, .int p2), (3, .ref (xa X 31 n3))]) C dL_period_17 (hN 4 (by decide)) rfl ?_
    refine s_iconst (v := (2 : Int32)) C dL_period_19 (by decide) ?_
    exact s_iret C E dL_period_20
  refine g_st (st' := [.int x2, .int (0 : Int32), .ref (xa X 31 n3)]) rfl ?_
  refine s_i2l C dL_period_8 ?_
  refine s_last C (ag31 V) g3 dL_period_9 ?_
  refine g_nmM (fun μ4 => ?_)
  refine s_goto (tgt := 21) C dL_period_10 (by decide) ?_
  refine s_iconst (v := (0 : Int32)) C dL_period_21 (by decide) ?_
  exact s_iret C E dL_period_22
def fL_stuck (fu : Nat) (n0 : Nat) (p1 : Int32) (n2 : Nat) (μ : Mem) : Option (Int32 × Mem) :=
  catX (fX12_stuck fu n0 p1 μ) (fun e3 μ0 => if e3 = 2 then some ((1 : Int32), μ0) else none) fun x2 μ1 =>
  ckI (0 : Int32) (1) <|
  nm (wJ μ1 31 n2 (0 : Int32).toNatClampNeg (x2.toInt64)) fun μ4 =>
  some ((0 : Int32), μ4)
set_option maxHeartbeats 4000000 in
set_option maxRecDepth 100000 in
theorem kL_stuck (l : Launch) (hls : l.stackTraces = false) (fu : Nat) (n0 : Nat) (g0 : n0 < 1) (p1 : Int32) (n2 : Nat) (g2 : n2 < 1) : KonH 2 l yL_stuck cL_stuck 4 (some .int) [(0, 9, 12, 13)] 8 188 1 6 (fun ad => [.ref (ad 0 n0), .int p1, .ref (ad 31 n2)]) rvI (fun μ => fL_stuck fu n0 p1 n2 μ) := by
  refine konH_of (by decide) (fun _ => Nat.le_of_ble_eq_true rfl) (fun X r0 μ hXl hXn V C E TB => ?_)
  have hN : ∀ i : Nat, i < 4 → i < xn X := fun i h => hXn.symm ▸ h
  have R0 := fen_rm E
  have hT : (xl X).stackTraces = false := hXl.symm ▸ hls
  show G X r0 0 0 μ 0 [(0, .ref (xa X 0 n0)), (1, .int p1), (2, .ref (xa X 31 n2))] [] (fL_stuck fu n0 p1 n2 μ)
  unfold fL_stuck
  refine s_aload_n C dL_stuck_0 rfl 2 rfl ?_
  refine s_iconst (v := (0 : Int32)) C dL_stuck_1 (by decide) ?_
  refine s_aload_n C dL_stuck_2 rfl 0 rfl ?_
  refine s_iload_n C dL_stuck_3 rfl 1 rfl ?_
  refine s_callC1 (k0 := 2) C R0 TB (kX12_stuck (xl X) hT fu n0 g0 p1) (Nat.le_trans (by decide) V) mmX12_stuck miX12_stuck q1678 (rc0 _) g0 ⟨by decide, by decide⟩ (by decide) q898 qn905 rfl rfl rfl (Nat.le_of_ble_eq_true rfl) ⟨Nat.le_of_ble_eq_true rfl, Nat.le_of_ble_eq_true rfl, Nat.le_of_ble_eq_true rfl, Nat.le_of_ble_eq_true rfl⟩ dL_stuck_4 (fun q μ0 => ?_) (fun e h μ0 => if_neg h) (fun x2 μ1 => ?_)
  · refine g_eqo (o' := some ((1 : Int32), μ0)) (by first | rfl | simp) ?_
    refine s_astore_n (L' := [(3, .ref q), (0, .ref (xa X 0 n0)), (1, .int p1), (2, .ref (xa X 31 n2))]) C dL_stuck_12 rfl (hN 3 (by decide)) rfl ?_
    refine s_iconst (v := (1 : Int32)) C dL_stuck_13 (by decide) ?_
    exact s_iret C E dL_stuck_14
  refine g_st (st' := [.int x2, .int (0 : Int32), .ref (xa X 31 n2)]) rfl ?_
  refine s_i2l C dL_stuck_7 ?_
  refine s_last C (ag31 V) g2 dL_stuck_8 ?_
  refine g_nmM (fun μ4 => ?_)
  refine s_goto (tgt := 15) C dL_stuck_9 (by decide) ?_
  refine s_iconst (v := (0 : Int32)) C dL_stuck_15 (by decide) ?_
  exact s_iret C E dL_stuck_16
def fL_divider (n0 : Nat) (p1 : Int32) (p2 : Int32) (n3 : Nat) (μ : Mem) : Option (Int32 × Mem) :=
  catX (fX12_divider n0 p1 p2 μ) (fun e3 μ0 => if e3 = 2 then some ((1 : Int32), μ0) else none) fun x2 μ1 =>
  ckI (0 : Int32) (1) <|
  nm (wJ μ1 31 n3 (0 : Int32).toNatClampNeg (x2.toInt64)) fun μ4 =>
  some ((0 : Int32), μ4)
set_option maxHeartbeats 4000000 in
set_option maxRecDepth 100000 in
theorem kL_divider (l : Launch) (hls : l.stackTraces = false) (n0 : Nat) (g0 : n0 < 1) (p1 : Int32) (p2 : Int32) (n3 : Nat) (g3 : n3 < 1) : KonH 2 l yL_divider cL_divider 5 (some .int) [(0, 10, 13, 13)] 7 113 1 6 (fun ad => [.ref (ad 0 n0), .int p1, .int p2, .ref (ad 31 n3)]) rvI (fun μ => fL_divider n0 p1 p2 n3 μ) := by
  refine konH_of (by decide) (fun _ => Nat.le_of_ble_eq_true rfl) (fun X r0 μ hXl hXn V C E TB => ?_)
  have hN : ∀ i : Nat, i < 5 → i < xn X := fun i h => hXn.symm ▸ h
  have R0 := fen_rm E
  have hT : (xl X).stackTraces = false := hXl.symm ▸ hls
  show G X r0 0 0 μ 0 [(0, .ref (xa X 0 n0)), (1, .int p1), (2, .int p2), (3, .ref (xa X 31 n3))] [] (fL_divider n0 p1 p2 n3 μ)
  unfold fL_divider
  refine s_aload_n C dL_divider_0 rfl 3 rfl ?_
  refine s_iconst (v := (0 : Int32)) C dL_divider_1 (by decide) ?_
  refine s_aload_n C dL_divider_2 rfl 0 rfl ?_
  refine s_iload_n C dL_divider_3 rfl 1 rfl ?_
  refine s_iload_n C dL_divider_4 rfl 2 rfl ?_
  refine s_callC1 (k0 := 2) C R0 TB (kX12_divider (xl X) hT n0 g0 p1 p2) (Nat.le_trans (by decide) V) mmX12_divider miX12_divider q1689 (rc0 _) g0 ⟨by decide, by decide⟩ (by decide) q898 qn905 rfl rfl rfl (Nat.le_of_ble_eq_true rfl) ⟨Nat.le_of_ble_eq_true rfl, Nat.le_of_ble_eq_true rfl, Nat.le_of_ble_eq_true rfl, Nat.le_of_ble_eq_true rfl⟩ dL_divider_5 (fun q μ0 => ?_) (fun e h μ0 => if_neg h) (fun x2 μ1 => ?_)
  · refine g_eqo (o' := some ((1 : Int32), μ0)) (by first | rfl | simp) ?_
    refine s_astore (L' := [(4, .ref q), (0, .ref (xa X 0 n0)), (1, .int p1), (2, .int p2), (3, .ref (xa X 31 n3))]) C dL_divider_13 (hN 4 (by decide)) rfl ?_
    refine s_iconst (v := (1 : Int32)) C dL_divider_15 (by decide) ?_
    exact s_iret C E dL_divider_16
  refine g_st (st' := [.int x2, .int (0 : Int32), .ref (xa X 31 n3)]) rfl ?_
  refine s_i2l C dL_divider_8 ?_
  refine s_last C (ag31 V) g3 dL_divider_9 ?_
  refine g_nmM (fun μ4 => ?_)
  refine s_goto (tgt := 17) C dL_divider_10 (by decide) ?_
  refine s_iconst (v := (0 : Int32)) C dL_divider_17 (by decide) ?_
  exact s_iret C E dL_divider_18
def fL_query (fu : Nat) (n0 : Nat) (p1 : Int32) (n2 : Nat) (μ : Mem) : Option (Int32 × Mem) :=
  catX (fX12_query fu n0 p1 μ) (fun e3 μ0 => if e3 = 2 then some ((1 : Int32), μ0) else none) fun x2 μ1 =>
  ckI (0 : Int32) (1) <|
  nm (wJ μ1 31 n2 (0 : Int32).toNatClampNeg (x2.toInt64)) fun μ4 =>
  some ((0 : Int32), μ4)
set_option maxHeartbeats 4000000 in
set_option maxRecDepth 100000 in
theorem kL_query (l : Launch) (hls : l.stackTraces = false) (fu : Nat) (n0 : Nat) (g0 : n0 < 1) (p1 : Int32) (n2 : Nat) (g2 : n2 < 1) : KonH 2 l yL_query cL_query 4 (some .int) [(0, 9, 12, 13)] 36 830 1 6 (fun ad => [.ref (ad 0 n0), .int p1, .ref (ad 31 n2)]) rvI (fun μ => fL_query fu n0 p1 n2 μ) := by
  refine konH_of (by decide) (fun _ => Nat.le_of_ble_eq_true rfl) (fun X r0 μ hXl hXn V C E TB => ?_)
  have hN : ∀ i : Nat, i < 4 → i < xn X := fun i h => hXn.symm ▸ h
  have R0 := fen_rm E
  have hT : (xl X).stackTraces = false := hXl.symm ▸ hls
  show G X r0 0 0 μ 0 [(0, .ref (xa X 0 n0)), (1, .int p1), (2, .ref (xa X 31 n2))] [] (fL_query fu n0 p1 n2 μ)
  unfold fL_query
  refine s_aload_n C dL_query_0 rfl 2 rfl ?_
  refine s_iconst (v := (0 : Int32)) C dL_query_1 (by decide) ?_
  refine s_aload_n C dL_query_2 rfl 0 rfl ?_
  refine s_iload_n C dL_query_3 rfl 1 rfl ?_
  refine s_callC1 (k0 := 2) C R0 TB (kX12_query (xl X) hT fu n0 g0 p1) (Nat.le_trans (by decide) V) mmX12_query miX12_query q1941 (rc0 _) g0 ⟨by decide, by decide⟩ (by decide) q898 qn905 rfl rfl rfl (Nat.le_of_ble_eq_true rfl) ⟨Nat.le_of_ble_eq_true rfl, Nat.le_of_ble_eq_true rfl, Nat.le_of_ble_eq_true rfl, Nat.le_of_ble_eq_true rfl⟩ dL_query_4 (fun q μ0 => ?_) (fun e h μ0 => if_neg h) (fun x2 μ1 => ?_)
  · refine g_eqo (o' := some ((1 : Int32), μ0)) (by first | rfl | simp) ?_
    refine s_astore_n (L' := [(3, .ref q), (0, .ref (xa X 0 n0)), (1, .int p1), (2, .ref (xa X 31 n2))]) C dL_query_12 rfl (hN 3 (by decide)) rfl ?_
    refine s_iconst (v := (1 : Int32)) C dL_query_13 (by decide) ?_
    exact s_iret C E dL_query_14
  refine g_st (st' := [.int x2, .int (0 : Int32), .ref (xa X 31 n2)]) rfl ?_
  refine s_i2l C dL_query_7 ?_
  refine s_last C (ag31 V) g2 dL_query_8 ?_
  refine g_nmM (fun μ4 => ?_)
  refine s_goto (tgt := 15) C dL_query_9 (by decide) ?_
  refine s_iconst (v := (0 : Int32)) C dL_query_15 (by decide) ?_
  exact s_iret C E dL_query_16
