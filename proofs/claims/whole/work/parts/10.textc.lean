/-! the JDK's own methods over String constants: their contracts -/
theorem mmJ0_coder_7d493 : MM yJ0_coder_7d493 cJ0_coder_7d493 1 (some .byte) 0 := ⟨q170, q1003, by decide +kernel, by decide +kernel, by decide +kernel⟩
theorem mmJ0_isLatin1_aae02 : MM yJ0_isLatin1_aae02 cJ0_isLatin1_aae02 1 (some .boolean) 0 := ⟨q170, q1012, by decide +kernel, by decide +kernel, by decide +kernel⟩
theorem mmJ0_length_8abf5 : MM yJ0_length_8abf5 cJ0_length_8abf5 1 (some .int) 0 := ⟨q170, q999, by decide +kernel, by decide +kernel, by decide +kernel⟩
theorem mmJ0_charAt_5068e : MM yJ0_charAt_5068e cJ0_charAt_5068e 2 (some .char) 1 := ⟨q170, q1008, by decide +kernel, by decide +kernel, by decide +kernel⟩
theorem mmJ0_checkIndex_df160 : MM yJ0_checkIndex_df160 cJ0_checkIndex_df160 2 none 2 := ⟨q170, q844, by decide +kernel, by decide +kernel, by decide +kernel⟩
theorem mmJ1_charAt_3b067 : MM yJ1_charAt_3b067 cJ1_charAt_3b067 2 (some .char) 2 := ⟨q178, q1015, by decide +kernel, by decide +kernel, by decide +kernel⟩
theorem mmJ3_checkIndex_8e157 : MM yJ3_checkIndex_8e157 cJ3_checkIndex_8e157 3 (some .int) 3 := ⟨q179, q849, by decide +kernel, by decide +kernel, by decide +kernel⟩
theorem miJ0_coder_7d493 : MI yJ0_coder_7d493 := ⟨q1001, q1002⟩
theorem miJ0_isLatin1_aae02 : MI yJ0_isLatin1_aae02 := ⟨q1010, q1011⟩
theorem miJ0_length_8abf5 : MI yJ0_length_8abf5 := ⟨q997, q998⟩
theorem miJ0_charAt_5068e : MI yJ0_charAt_5068e := ⟨q1006, q1007⟩
set_option maxRecDepth 20000 in
theorem kJ0_coder_7d493 (l : Launch) (i : Nat) (hi : i < 70) : Kon 0 l yJ0_coder_7d493 cJ0_coder_7d493 1 (some .byte) 0 0 0 0 (fun ad => [.ref (ad 51 i)]) rvI (fun μ => some (0, μ)) := by
  refine kon_of (by decide) (fun _ => Nat.le_of_ble_eq_true rfl) (fun X r0 μ hXl hXn V C E => ?_)
  show G X r0 0 0 μ 0 [(0, .ref (xa X 51 i))] [] (some (0, μ))
  refine s_gcs C q1004 dJ0_coder_7d493_0 ?_
  refine g_eqo (o' := if (1 : Int32) = 0 then none else some ((0 : Int32), μ)) (by rw [if_neg (by decide)]) ?_
  refine s_if_eq (tgt := 13) C dJ0_coder_7d493_3 (by decide) (fun _ => g_none) (fun _ => ?_)
  refine s_aload_n C dJ0_coder_7d493_6 rfl 0 rfl ?_
  refine s_strc C hi q1896 dJ0_coder_7d493_7 ?_
  refine s_goto (tgt := 14) C dJ0_coder_7d493_10 (by decide) ?_
  exact s_nret C E rfl dJ0_coder_7d493_14
set_option maxRecDepth 20000 in
theorem kJ0_isLatin1_aae02 (l : Launch) (i : Nat) (hi : i < 70) : Kon 0 l yJ0_isLatin1_aae02 cJ0_isLatin1_aae02 1 (some .boolean) 0 0 0 0 (fun ad => [.ref (ad 51 i)]) rvI (fun μ => some (1, μ)) := by
  refine kon_of (by decide) (fun _ => Nat.le_of_ble_eq_true rfl) (fun X r0 μ hXl hXn V C E => ?_)
  show G X r0 0 0 μ 0 [(0, .ref (xa X 51 i))] [] (some (1, μ))
  refine s_gcs C q1004 dJ0_isLatin1_aae02_0 ?_
  refine g_eqo (o' := if (1 : Int32) = 0 then none else if ¬ (0 : Int32) = 0 then none else some ((1 : Int32), μ)) (by rw [if_neg (by decide), if_neg (by decide)]) ?_
  refine s_if_eq (tgt := 17) C dJ0_isLatin1_aae02_3 (by decide) (fun _ => g_none) (fun _ => ?_)
  refine s_aload_n C dJ0_isLatin1_aae02_6 rfl 0 rfl ?_
  refine s_strc C hi q1896 dJ0_isLatin1_aae02_7 ?_
  refine s_if_ne (tgt := 17) C dJ0_isLatin1_aae02_10 (by decide) (fun _ => g_none) (fun _ => ?_)
  refine s_iconst (v := (1 : Int32)) C dJ0_isLatin1_aae02_13 (by decide) ?_
  refine s_goto (tgt := 18) C dJ0_isLatin1_aae02_14 (by decide) ?_
  exact s_nret C E rfl dJ0_isLatin1_aae02_18
theorem shr0 (x : Int32) : x >>> ((0 : Int32) &&& 31) = x := by
  rw [show (0 : Int32) &&& 31 = 0 by decide]
  exact Int32.shiftRight_zero
def fJ0_length_8abf5 (i : Nat) (μ : Mem) : Option (Int32 × Mem) := some (Int32.ofNat (txN.getD i 0), μ)
set_option maxRecDepth 20000 in
theorem kJ0_length_8abf5 (l : Launch) (i : Nat) (hi : i < 70) : Kon 0 l yJ0_length_8abf5 cJ0_length_8abf5 1 (some .int) 1 20 0 0 (fun ad => [.ref (ad 51 i)]) rvI (fun μ => fJ0_length_8abf5 i μ) := by
  refine kon_of (by decide) (fun _ => Nat.le_of_ble_eq_true rfl) (fun X r0 μ hXl hXn V C E => ?_)
  show G X r0 0 0 μ 0 [(0, .ref (xa X 51 i))] [] (fJ0_length_8abf5 i μ)
  refine g_eqo (o' := bnd (some ((0 : Int32), μ)) fun x1 μ1 => some (Int32.ofNat (txN.getD i 0) >>> (x1 &&& 31), μ1)) (by
    show some (Int32.ofNat (txN.getD i 0), μ) = some (Int32.ofNat (txN.getD i 0) >>> ((0 : Int32) &&& 31), μ)
    rw [shr0]) ?_
  refine s_aload_n C dJ0_length_8abf5_0 rfl 0 rfl ?_
  refine s_strv C hi q1895 dJ0_length_8abf5_1 ?_
  refine s_strn C hi dJ0_length_8abf5_4 ?_
  refine s_aload_n C dJ0_length_8abf5_5 rfl 0 rfl ?_
  refine s_callT C (fen_rm E) (kJ0_coder_7d493 (xl X) i hi) (Nat.zero_le _) mmJ0_coder_7d493 miJ0_coder_7d493 q1000 rfl hi rfl rfl rfl (Nat.le_of_ble_eq_true rfl) ⟨Nat.le_of_ble_eq_true rfl, Nat.le_of_ble_eq_true rfl, Nat.le_of_ble_eq_true rfl, Nat.le_of_ble_eq_true rfl⟩ dJ0_length_8abf5_6 (fun x1 μ1 => ?_)
  refine g_st (st' := [.int x1, .int (Int32.ofNat (txN.getD i 0))]) rfl ?_
  refine s_ishr C dJ0_length_8abf5_9 ?_
  exact s_iret C E dJ0_length_8abf5_10
set_option maxRecDepth 20000 in
theorem kJ3_checkIndex_8e157 (l : Launch) (a b : Int32) (v : Value) (hv : v = .null ∨ ∃ t, v = .ref t) : Kon 0 l yJ3_checkIndex_8e157 cJ3_checkIndex_8e157 3 (some .int) 0 0 0 0 (fun _ => [.int a, .int b, v]) rvI (fun μ => if a < 0 then none else if a < b then some (a, μ) else none) := by
  have key : ∀ (X : CX) (r0 : Int32 × Mem) (μ : Mem), Ok X "jdk/internal/util/Preconditions" cJ3_checkIndex_8e157 → Fen X (some .int) (rvI (xa X) r0.1) r0.2 0 0 0 0 → G X r0 0 0 μ 0 [(0, .int a), (1, .int b)] [] (if a < 0 then none else if a < b then some (a, μ) else none) := by
    intro X r0 μ C E
    refine s_iload_n C dJ3_checkIndex_8e157_0 rfl 0 rfl ?_
    refine s_if_lt (tgt := 9) C dJ3_checkIndex_8e157_1 (by decide) (fun _ => g_none) (fun _ => ?_)
    refine s_iload_n C dJ3_checkIndex_8e157_4 rfl 0 rfl ?_
    refine s_iload_n C dJ3_checkIndex_8e157_5 rfl 1 rfl ?_
    refine s_icmp_lt (tgt := 16) C dJ3_checkIndex_8e157_6 (by decide) (fun _ => ?_) (fun _ => g_none)
    refine s_iload_n C dJ3_checkIndex_8e157_16 rfl 0 rfl ?_
    exact s_iret C E dJ3_checkIndex_8e157_17
  rcases hv with rfl | ⟨t, rfl⟩
  · refine kon_of (by decide) (fun _ => Nat.le_of_ble_eq_true rfl) (fun X r0 μ hXl hXn V C E => ?_)
    exact g_sub [0, 1] rfl (key X r0 μ C E)
  · refine kon_of (by decide) (fun _ => Nat.le_of_ble_eq_true rfl) (fun X r0 μ hXl hXn V C E => ?_)
    exact g_sub [0, 1] rfl (key X r0 μ C E)
def fJ0_checkIndex_df160 (a b : Int32) (μ : Mem) : Option (Unit × Mem) := if a < 0 then none else if a < b then some ((), μ) else none
set_option maxRecDepth 20000 in
theorem kJ0_checkIndex_df160 (l : Launch) (a b : Int32) : Kon 0 l yJ0_checkIndex_df160 cJ0_checkIndex_df160 2 none 1 22 0 0 (fun _ => [.int a, .int b]) rvV (fun μ => fJ0_checkIndex_df160 a b μ) := by
  refine kon_of (by decide) (fun _ => Nat.le_of_ble_eq_true rfl) (fun X r0 μ hXl hXn V C E => ?_)
  show G X r0 0 0 μ 0 [(0, .int a), (1, .int b)] [] (fJ0_checkIndex_df160 a b μ)
  refine g_eqo (o' := bnd (if a < 0 then none else if a < b then some (a, μ) else none) fun x1 μ1 => some ((), μ1)) (by
    unfold fJ0_checkIndex_df160
    by_cases h1 : a < 0
    · rw [if_pos h1, if_pos h1]; rfl
    · rw [if_neg h1, if_neg h1]
      by_cases h2 : a < b
      · rw [if_pos h2, if_pos h2]; rfl
      · rw [if_neg h2, if_neg h2]; rfl) ?_
  refine s_iload_n C dJ0_checkIndex_df160_0 rfl 0 rfl ?_
  refine s_iload_n C dJ0_checkIndex_df160_1 rfl 1 rfl ?_
  refine s_gfmt C q845 dJ0_checkIndex_df160_2 (fun v hv => ?_)
  refine s_callF C (fen_rm E) (kJ3_checkIndex_8e157 (xl X) a b v hv) (Nat.zero_le _) mmJ3_checkIndex_8e157 q848 q847 rfl rfl rfl (Nat.le_of_ble_eq_true rfl) ⟨Nat.le_of_ble_eq_true rfl, Nat.le_of_ble_eq_true rfl, Nat.le_of_ble_eq_true rfl, Nat.le_of_ble_eq_true rfl⟩ dJ0_checkIndex_df160_5 (fun x1 μ1 => ?_)
  refine g_st (st' := [.int x1]) rfl ?_
  refine s_pop C dJ0_checkIndex_df160_8 rfl ?_
  exact s_vret C E dJ0_checkIndex_df160_9
def fJ1_charAt_3b067 (i : Nat) (j : Int32) (μ : Mem) : Option (Int32 × Mem) :=
  bnd (fJ0_checkIndex_df160 j (Int32.ofNat (txN.getD i 0)) μ) fun _ μ1 =>
  ckI j (txN.getD i 0) <|
  some ((((txI.getD i []).getD j.toNatClampNeg 0 &&& 255).toUInt32 % 65536).toInt32, μ1)
set_option maxRecDepth 20000 in
theorem kJ1_charAt_3b067 (l : Launch) (i : Nat) (hi : i < 70) (j : Int32) : Kon 0 l yJ1_charAt_3b067 cJ1_charAt_3b067 2 (some .char) 2 43 0 0 (fun ad => [.ref (ad 52 i), .int j]) rvI (fun μ => fJ1_charAt_3b067 i j μ) := by
  refine kon_of (by decide) (fun _ => Nat.le_of_ble_eq_true rfl) (fun X r0 μ hXl hXn V C E => ?_)
  show G X r0 0 0 μ 0 [(0, .ref (xa X 52 i)), (1, .int j)] [] (fJ1_charAt_3b067 i j μ)
  unfold fJ1_charAt_3b067
  refine s_iload_n C dJ1_charAt_3b067_0 rfl 1 rfl ?_
  refine s_aload_n C dJ1_charAt_3b067_1 rfl 0 rfl ?_
  refine s_strn C hi dJ1_charAt_3b067_2 ?_
  refine s_callF C (fen_rm E) (kJ0_checkIndex_df160 (xl X) j (Int32.ofNat (txN.getD i 0))) (Nat.zero_le _) mmJ0_checkIndex_df160 q843 q1016 rfl rfl rfl (Nat.le_of_ble_eq_true rfl) ⟨Nat.le_of_ble_eq_true rfl, Nat.le_of_ble_eq_true rfl, Nat.le_of_ble_eq_true rfl, Nat.le_of_ble_eq_true rfl⟩ dJ1_charAt_3b067_3 (fun x1 μ1 => ?_)
  refine g_st (st' := []) rfl ?_
  refine s_aload_n C dJ1_charAt_3b067_6 rfl 0 rfl ?_
  refine s_iload_n C dJ1_charAt_3b067_7 rfl 1 rfl ?_
  refine s_strb C hi dJ1_charAt_3b067_8 ?_
  refine s_sipush (v := (255 : Int32)) C dJ1_charAt_3b067_9 (by decide) ?_
  refine s_iand C dJ1_charAt_3b067_12 ?_
  refine s_i2c C dJ1_charAt_3b067_13 ?_
  exact s_nret C E (pk_nc _) dJ1_charAt_3b067_14
def fJ0_charAt_5068e (i : Nat) (j : Int32) (μ : Mem) : Option (Int32 × Mem) := fJ1_charAt_3b067 i j μ
theorem fJ1_char {i : Nat} {j : Int32} {μ : Mem} {r : Int32 × Mem} (h : fJ1_charAt_3b067 i j μ = some r) : narrow .char (.int r.1) = .int r.1 := by
  unfold fJ1_charAt_3b067 at h
  obtain ⟨q, -, h2⟩ := Option.bind_eq_some_iff.mp h
  unfold ckI at h2
  split at h2
  · cases h2; exact pk_nc _
  · cases h2
set_option maxRecDepth 20000 in
theorem kJ0_charAt_5068e (l : Launch) (i : Nat) (hi : i < 70) (j : Int32) : Kon 0 l yJ0_charAt_5068e cJ0_charAt_5068e 2 (some .char) 3 64 0 0 (fun ad => [.ref (ad 51 i), .int j]) rvI (fun μ => fJ0_charAt_5068e i j μ) := by
  refine kon_of (by decide) (fun _ => Nat.le_of_ble_eq_true rfl) (fun X r0 μ hXl hXn V C E => ?_)
  show G X r0 0 0 μ 0 [(0, .ref (xa X 51 i)), (1, .int j)] [] (fJ0_charAt_5068e i j μ)
  intro h
  have hc : narrow .char (.int r0.1) = .int r0.1 := fJ1_char h
  revert h
  show G X r0 0 0 μ 0 [(0, .ref (xa X 51 i)), (1, .int j)] [] (fJ0_charAt_5068e i j μ)
  refine g_eqo (o' := bnd (some ((1 : Int32), μ)) fun x1 μ1 => if x1 = 0 then none else bnd (fJ1_charAt_3b067 i j μ1) fun x2 μ2 => if x2 = r0.1 then some (x2, μ2) else some (x2, μ2)) (by
    show fJ1_charAt_3b067 i j μ = if (1 : Int32) = 0 then none else bnd (fJ1_charAt_3b067 i j μ) fun x2 μ2 => if x2 = r0.1 then some (x2, μ2) else some (x2, μ2)
    rw [if_neg (by decide)]
    cases fJ1_charAt_3b067 i j μ with
    | none => rfl
    | some q => show some q = if q.1 = r0.1 then some (q.1, q.2) else some (q.1, q.2); split <;> rfl) ?_
  refine s_aload_n C dJ0_charAt_5068e_0 rfl 0 rfl ?_
  refine s_callT C (fen_rm E) (kJ0_isLatin1_aae02 (xl X) i hi) (Nat.zero_le _) mmJ0_isLatin1_aae02 miJ0_isLatin1_aae02 q1009 rfl hi rfl rfl rfl (Nat.le_of_ble_eq_true rfl) ⟨Nat.le_of_ble_eq_true rfl, Nat.le_of_ble_eq_true rfl, Nat.le_of_ble_eq_true rfl, Nat.le_of_ble_eq_true rfl⟩ dJ0_charAt_5068e_1 (fun x1 μ1 => ?_)
  refine g_st (st' := [.int x1]) rfl ?_
  refine s_if_eq (tgt := 16) C dJ0_charAt_5068e_4 (by decide) (fun _ => g_none) (fun _ => ?_)
  refine s_aload_n C dJ0_charAt_5068e_7 rfl 0 rfl ?_
  refine s_strv C hi q1895 dJ0_charAt_5068e_8 ?_
  refine s_iload_n C dJ0_charAt_5068e_11 rfl 1 rfl ?_
  refine s_callF C (fen_rm E) (kJ1_charAt_3b067 (xl X) i hi j) (Nat.zero_le _) mmJ1_charAt_3b067 q1014 q1013 rfl rfl rfl (Nat.le_of_ble_eq_true rfl) ⟨Nat.le_of_ble_eq_true rfl, Nat.le_of_ble_eq_true rfl, Nat.le_of_ble_eq_true rfl, Nat.le_of_ble_eq_true rfl⟩ dJ0_charAt_5068e_12 (fun x2 μ2 => ?_)
  refine g_st (st' := [.int x2]) rfl ?_
  intro h
  have e : (x2, μ2) = r0 := by
    split at h <;> exact Option.some.inj h
  exact s_nret C E (by rw [show x2 = r0.1 from congrArg Prod.fst e]; exact hc) dJ0_charAt_5068e_15 (congrArg some e)
