/-! THE JDK'S SMALL METHODS UNDER append -/
theorem q1717 : (Cond.static ({ cls := "jdk/internal/util/ArraysSupport", name := "newLength", desc := "(III)I" } : Jvm.MethodName)) ∈ tb := tb_of (lw_c7 (List.mem_of_getElem? (i := 123) (by decide +kernel))) rfl
theorem q1718 : (Cond.code ({ cls := "jdk/internal/util/ArraysSupport", name := "newLength", desc := "(III)I" } : Jvm.MethodName) prog_39_method_27_code (4 : Nat) (Option.some Jvm.ClassFile.FieldType.int)) ∈ tb := tb_of (lw_c7 (List.mem_of_getElem? (i := 124) (by decide +kernel))) rfl
theorem q1719 : (Cond.methodLink "jdk/internal/util/ArraysSupport" (194 : Nat) ({ cls := "java/lang/Math", name := "max", desc := "(II)I" } : Jvm.MethodName)) ∈ tb := tb_of (lw_c7 (List.mem_of_getElem? (i := 125) (by decide +kernel))) rfl
theorem q1720 : (Cond.constant "jdk/internal/util/ArraysSupport" (200 : Nat) (2147483639 : Int32)) ∈ tb := tb_of (lw_c7 (List.mem_of_getElem? (i := 126) (by decide +kernel))) rfl
theorem q1811 : (Cond.instanceMethod ({ cls := "java/lang/String", name := "getBytes", desc := "([BIB)V" } : Jvm.MethodName)) ∈ tb := tb_of (lw_c7 (List.mem_of_getElem? (i := 217) (by decide +kernel))) rfl
theorem q1812 : (Cond.selects "java/lang/String" ({ cls := "java/lang/String", name := "getBytes", desc := "([BIB)V" } : Jvm.MethodName) ({ cls := "java/lang/String", name := "getBytes", desc := "([BIB)V" } : Jvm.MethodName)) ∈ tb := tb_of (lw_c7 (List.mem_of_getElem? (i := 218) (by decide +kernel))) rfl
theorem q1813 : (Cond.code ({ cls := "java/lang/String", name := "getBytes", desc := "([BIB)V" } : Jvm.MethodName) prog_29_method_147_code (4 : Nat) (Option.none : Option Jvm.ClassFile.FieldType)) ∈ tb := tb_of (lw_c7 (List.mem_of_getElem? (i := 219) (by decide +kernel))) rfl
theorem q1814 : Cond.methodLink "java/lang/String" 212 arraycopyName ∈ tb := tb_of (lw_c7 (List.mem_of_getElem? (i := 220) (by decide +kernel))) rfl
theorem q1829 : (Cond.fieldLink "java/lang/Integer" (83 : Nat) "java/lang/Integer" "DigitOnes" "[B") ∈ tb := tb_of (lw_c7 (List.mem_of_getElem? (i := 235) (by decide +kernel))) rfl
theorem q1831 : (Cond.fieldLink "java/lang/Integer" (87 : Nat) "java/lang/Integer" "DigitTens" "[B") ∈ tb := tb_of (lw_c7 (List.mem_of_getElem? (i := 237) (by decide +kernel))) rfl
theorem q2891 : (Cond.sameMethod "java/lang/AbstractStringBuilder" "java/lang/AbstractStringBuilder" "inflateIfNeededFor" "(Ljava/lang/String;)V") ∈ tb := tb_of (lw_c12 (List.mem_of_getElem? (i := 97) (by decide +kernel))) rfl
theorem miJ0_getBytes_840e7 : MI yJ0_getBytes_840e7 := ⟨q1811, q1812⟩
theorem mmJ0_getBytes_840e7 : MM yJ0_getBytes_840e7 cJ0_getBytes_840e7 4 (none) 3 := ⟨q170, q1813, by decide +kernel, by decide +kernel, by decide +kernel⟩
theorem mmJ5_inflateIfNeededFor_a7421 : MM yJ5_inflateIfNeededFor_a7421 cJ5_inflateIfNeededFor_a7421 2 (none) 1 := ⟨q168, q1789, by decide +kernel, by decide +kernel, by decide +kernel⟩
theorem mmJ8_newLength_cabcc : MM yJ8_newLength_cabcc cJ8_newLength_cabcc 4 (some .int) 3 := ⟨q185, q1718, by decide +kernel, by decide +kernel, by decide +kernel⟩
theorem muJ5_inflateIfNeededFor_a7421 : MVp yJ5_inflateIfNeededFor_a7421 := ⟨q1788, q2891, rfl, Or.inl (List.mem_of_getElem? (i := 0) rfl)⟩
theorem shl_0 (x : Int32) : x <<< ((0 : Int32) &&& 31) = x := by
  have e : (x <<< ((0 : Int32) &&& 31)).toBitVec = x.toBitVec := by
    show x.toBitVec <<< _ = _
    show x.toBitVec <<< (0#32 % 32#32) = _
    simp
  exact Int32.toBitVec_inj.mp e
theorem if_max (a b : Nat) (ha : a < 2 ^ 31) (hb : b < 2 ^ 31) : (if nI a < nI b then nI b else nI a) = nI (max a b) := by
  by_cases h : a < b
  · rw [if_pos (nI_lt h hb), Nat.max_eq_right (Nat.le_of_lt h)]
  · rw [if_neg (nI_nlt (Nat.le_of_not_lt h) ha), Nat.max_eq_left (Nat.le_of_not_lt h)]
theorem st1 {a b : Int32} (h : a = b) : [Value.int a] = [Value.int b] := by rw [h]
theorem st2 {a b : Int32} {st : List Value} (h : a = b) : Value.int a :: st = Value.int b :: st := by rw [h]
theorem g_me {X : CX} {α : Type} {r0 : α} {o : Option α} {ca sl : Nat} {μ μ' : Mem} {pc : Nat} {L : List (Nat × Value)} {st : List Value} (h : μ = μ') (k : G X r0 ca sl μ' pc L st o) : G X r0 ca sl μ pc L st o := by subst h; exact k
theorem nI_subN {a b : Nat} (h : b ≤ a) : nI a - nI b = nI (a - b) := by
  obtain ⟨d, rfl⟩ : ∃ d, a = d + b := ⟨a - b, by omega⟩
  rw [← nI_add, show d + b - b = d by omega]
  exact Int32.add_sub_cancel _ _
theorem kJ5_isLatin1_aae02 (l : Launch) : Kon 0 l yJ5_isLatin1_aae02 cJ5_isLatin1_aae02 1 (some .boolean) 0 0 0 0 (fun ad => [.ref (ad 32 0)]) rvI (fun μ => grd (μ.1 32 0 1 = 0) (some (1, μ))) := by
  refine kon_of (by decide) (fun _ => Nat.le_of_ble_eq_true rfl) (fun X r0 μ hXl hXn V C E => ?_)
  have hN : ∀ i : Nat, i < 1 → i < xn X := fun i h => hXn.symm ▸ h
  have R0 := fen_rm E
  intro h
  obtain ⟨p1, h2⟩ := grd_inv h
  revert h2
  show G X r0 0 0 μ 0 [(0, .ref (xa X 32 0))] [] (some (1, μ))
  refine s_gcs C q686 dJ5_isLatin1_aae02_0 ?_
  refine b_if_eq (tgt := 17) C dJ5_isLatin1_aae02_3 (by decide) (fun h => absurd h (by decide)) (fun _ => ?_)
  refine s_aload_n C dJ5_isLatin1_aae02_6 rfl 0 rfl ?_
  refine s_getI C (fgJ5_22_32 _) (by decide) dJ5_isLatin1_aae02_7 ?_
  refine b_if_ne (tgt := 17) C dJ5_isLatin1_aae02_10 (by decide) (fun h => absurd h (fun w => w p1)) (fun _ => ?_)
  refine s_iconst (v := (1 : Int32)) C dJ5_isLatin1_aae02_13 (by decide) ?_
  refine s_goto (tgt := 18) C dJ5_isLatin1_aae02_14 (by decide) ?_
  exact s_nret C E rfl dJ5_isLatin1_aae02_18
theorem kJ8_newLength_cabcc (l : Launch) (a b g : Nat) (ha : a < 1000000) (hb : b < 1000000) (hg : g < 1000000) (h0 : 0 < max b g) : Kon 0 l yJ8_newLength_cabcc cJ8_newLength_cabcc 4 (some .int) 1 30 0 0 (fun _ => [.int (nI a), .int (nI b), .int (nI g)]) rvI (fun μ => some (nI (a + max b g), μ)) := by
  refine kon_of (by decide) (fun _ => Nat.le_of_ble_eq_true rfl) (fun X r0 μ hXl hXn V C E => ?_)
  have hN : ∀ i : Nat, i < 4 → i < xn X := fun i h => hXn.symm ▸ h
  have R0 := fen_rm E
  show G X r0 0 0 μ 0 [(0, .int (nI a)), (1, .int (nI b)), (2, .int (nI g))] [] (some (nI (a + max b g), μ))
  refine s_iload_n C dJ8_newLength_cabcc_0 rfl 0 rfl ?_
  refine s_iload_n C dJ8_newLength_cabcc_1 rfl 1 rfl ?_
  refine s_iload_n C dJ8_newLength_cabcc_2 rfl 2 rfl ?_
  refine s_mmax C R0 q1719 q729 q172 q730 ⟨Nat.le_of_ble_eq_true rfl, Nat.le_of_ble_eq_true rfl, Nat.le_of_ble_eq_true rfl, Nat.le_of_ble_eq_true rfl⟩ dJ8_newLength_cabcc_3 ?_
  refine g_st (st' := [.int (nI (max b g)), .int (nI a)]) (by rw [if_max b g (by omega) (by omega)]) ?_
  refine s_iadd C dJ8_newLength_cabcc_6 ?_
  refine g_st (st' := [.int (nI (a + max b g))]) (by rw [nI_add]) ?_
  refine s_istore_n C dJ8_newLength_cabcc_7 rfl (hN 3 (by decide)) rfl ?_
  refine s_iconst (v := (0 : Int32)) C dJ8_newLength_cabcc_8 (by decide) ?_
  refine s_iload_n C dJ8_newLength_cabcc_9 rfl 0 rfl ?_
  refine b_icmp_ge (tgt := 21) C dJ8_newLength_cabcc_10 (by decide) (fun h => absurd h (nI_nle (by omega) (by omega))) (fun _ => ?_)
  refine s_iload_n C dJ8_newLength_cabcc_13 rfl 0 rfl ?_
  refine s_ldc (v := (2147483639 : Int32)) C q1720 dJ8_newLength_cabcc_14 ?_
  refine b_icmp_gt (tgt := 21) C dJ8_newLength_cabcc_16 (by decide) (fun h => absurd h (Int32.not_lt.mpr (nI_le (b := 2147483639) (by omega) (by decide)))) (fun _ => ?_)
  refine s_iload_n C dJ8_newLength_cabcc_19 rfl 0 rfl ?_
  exact s_iret C E dJ8_newLength_cabcc_20
theorem kJ5_newCapacity_0f7a4 (l : Launch) (m : Nat) : Kon 0 l yJ5_newCapacity_0f7a4 cJ5_newCapacity_0f7a4 6 (some .int) 2 53 0 0 (fun ad => [.ref (ad 32 0), .int (nI m)]) rvI (fun μ => grd (μ.1 32 0 1 = 0 ∧ bcap μ ≤ 140 ∧ bcap μ < m ∧ m ≤ 1000) (some (nI (max m (2 * bcap μ + 2)), μ))) := by
  refine kon_of (by decide) (fun _ => Nat.le_of_ble_eq_true rfl) (fun X r0 μ hXl hXn V C E => ?_)
  have hN : ∀ i : Nat, i < 6 → i < xn X := fun i h => hXn.symm ▸ h
  have R0 := fen_rm E
  intro h
  obtain ⟨⟨p1, p2, p3, p4⟩, h2⟩ := grd_inv h
  revert h2
  show G X r0 0 0 μ 0 [(0, .ref (xa X 32 0)), (1, .int (nI m))] [] (some (nI (max m (2 * bcap μ + 2)), μ))
  refine s_aload_n C dJ5_newCapacity_0f7a4_0 rfl 0 rfl ?_
  refine s_getF C ((fgJ5_15_32 _)) (by decide) dJ5_newCapacity_0f7a4_1 ?_
  refine b_alen C (by decide) dJ5_newCapacity_0f7a4_4 ?_
  refine s_istore_n C dJ5_newCapacity_0f7a4_5 rfl (hN 2 (by decide)) rfl ?_
  refine s_iload_n C dJ5_newCapacity_0f7a4_6 rfl 2 rfl ?_
  refine s_aload_n C dJ5_newCapacity_0f7a4_7 rfl 1 rfl ?_
  refine s_getI C (fgJ5_22_32 _) (by decide) dJ5_newCapacity_0f7a4_8 ?_
  refine s_ishl C dJ5_newCapacity_0f7a4_11 ?_
  refine g_st (st' := [.int (nI m)]) (by rw [p1, shl_0]) ?_
  refine s_istore_n C dJ5_newCapacity_0f7a4_12 rfl (hN 3 (by decide)) rfl ?_
  refine s_iload_n C dJ5_newCapacity_0f7a4_13 rfl 0 rfl ?_
  refine s_iload_n C dJ5_newCapacity_0f7a4_14 rfl 1 rfl ?_
  refine s_isub C dJ5_newCapacity_0f7a4_15 ?_
  refine g_st (st' := [.int (nI (m - bcap μ))]) (by rw [← nI_subN (Nat.le_of_lt p3)]; rfl) ?_
  refine s_istore C dJ5_newCapacity_0f7a4_16 (hN 4 (by decide)) rfl ?_
  refine s_iload_n C dJ5_newCapacity_0f7a4_18 rfl 2 rfl ?_
  refine s_iload C dJ5_newCapacity_0f7a4_19 0 rfl ?_
  refine s_iload_n C dJ5_newCapacity_0f7a4_21 rfl 2 rfl ?_
  refine s_iconst (v := (2 : Int32)) C dJ5_newCapacity_0f7a4_22 (by decide) ?_
  refine s_aload_n C dJ5_newCapacity_0f7a4_23 rfl 3 rfl ?_
  refine s_getI C (fgJ5_22_32 _) (by decide) dJ5_newCapacity_0f7a4_24 ?_
  refine s_ishl C dJ5_newCapacity_0f7a4_27 ?_
  refine s_iadd C dJ5_newCapacity_0f7a4_28 ?_
  refine g_st (st' := [.int (nI (bcap μ + 2)), .int (nI (m - bcap μ)), .int (nI (bcap μ))]) (by rw [p1, shl_0]; exact st2 (nI_add (bcap μ) 2)) ?_
  refine b_call (r := nI (bcap μ + max (m - bcap μ) (bcap μ + 2))) (μ' := μ) rfl (s_callF (n := 3) (As := [.int (nI (bcap μ)), .int (nI (m - bcap μ)), .int (nI (bcap μ + 2))]) (st := []) C R0 (kJ8_newLength_cabcc (xl X) (bcap μ) (m - bcap μ) (bcap μ + 2) (by omega) (by omega) (by omega) (by omega)) (Nat.zero_le _) mmJ8_newLength_cabcc q1717 q1716 rfl rfl rfl (Nat.le_of_ble_eq_true rfl) ⟨Nat.le_of_ble_eq_true rfl, Nat.le_of_ble_eq_true rfl, Nat.le_of_ble_eq_true rfl, Nat.le_of_ble_eq_true rfl⟩ dJ5_newCapacity_0f7a4_29 (fun r2 μ2 hq => ?_))
  obtain ⟨e2, e3⟩ := grd_inv hq
  cases e2
  revert e3
  show G X r0 0 0 μ 32 [(4, .int (nI (m - bcap μ))), (3, .int (nI m)), (2, .int (nI (bcap μ))), (0, .ref (xa X 32 0)), (1, .int (nI m))] [.int (nI (bcap μ + max (m - bcap μ) (bcap μ + 2)))] (some (nI (max m (2 * bcap μ + 2)), μ))
  refine s_istore C dJ5_newCapacity_0f7a4_32 (hN 5 (by decide)) rfl ?_
  refine s_iload C dJ5_newCapacity_0f7a4_34 0 rfl ?_
  refine s_ldc (v := (2147483647 : Int32)) C q1724 dJ5_newCapacity_0f7a4_36 ?_
  refine b_icmp_ne (tgt := 51) C dJ5_newCapacity_0f7a4_38 (by decide) (fun _ => ?_) (fun h => absurd (fun e => absurd e (by rw [show (2147483647 : Int32) = nI 2147483647 from rfl]; exact fun q => absurd (nI_inj (by omega) (by decide) q) (by omega))) h)
  refine s_iload C dJ5_newCapacity_0f7a4_51 0 rfl ?_
  refine s_aload_n C dJ5_newCapacity_0f7a4_53 rfl 4 rfl ?_
  refine s_getI C (fgJ5_22_32 _) (by decide) dJ5_newCapacity_0f7a4_54 ?_
  refine s_ishr C dJ5_newCapacity_0f7a4_57 ?_
  refine g_st (st' := [.int (nI (max m (2 * bcap μ + 2)))]) (by rw [p1, shr_0, show bcap μ + max (m - bcap μ) (bcap μ + 2) = max m (2 * bcap μ + 2) by omega]) ?_
  exact s_iret C E dJ5_newCapacity_0f7a4_58
/-- n bytes f written from c on -/
def wB (c n : Nat) (f : Nat → Int32) (μ : Mem) : Mem := (fun a b k => if a = 33 ∧ b = 0 ∧ c ≤ k ∧ k < c + n then f (k - c) else μ.1 a b k, μ.2.1, μ.2.2)
/-- the byte j of text i -/
def txb (i j : Nat) : Int32 := (txI.getD i []).getD j 0
theorem txb_fits (i j : Nat) : fits .byte (.int (txb i j)) = true := by
  have h : ∀ l ∈ txI, ∀ x ∈ l, fits .byte (.int x) = true := by decide +kernel
  unfold txb
  rw [List.getD_eq_getElem?_getD (l := txI.getD i [])]
  cases hx : (txI.getD i [])[j]? with
  | none => rfl
  | some x =>
    rw [List.getD_eq_getElem?_getD] at hx
    cases hl : txI[i]? with
    | none => rw [hl] at hx; cases hx
    | some l => rw [hl] at hx; exact h l (List.mem_of_getElem? hl) x (List.mem_of_getElem? hx)
theorem arr_setB {kinds : List KD} {ad : Nat → Nat → Nat} {ty : Nat → ClassId} {μ : Mem} (hnd : (cellsOf kinds).Nodup) {c n q0 cnt t : Nat} {f : Nat → Int32} {len : (Nat → Nat) → Nat → Nat} (h : kinds[33]? = some (cnt, .inr (t, len, none))) (hq : (cellsOf kinds)[q0]? = some (33, 0)) :
    (wlK kinds ad ty μ).set q0 (ad 33 0, .inl (ty t, len (μ.2.1 33 0) 0, .inl (va_cpy f (μ.1 33 0) 0 c n))) = wlK kinds ad ty (wB c n f μ) := by
  rw [← wl_set (μ := μ) hnd (μ' := wB c n f μ) hq (fun a b hab => ⟨by funext k; exact if_neg (fun q => hab ⟨q.1, q.2.1⟩), rfl, rfl⟩)]
  congr 2
  rw [cellK, kd_getD h]
  show _ = Sum.inl (ty t, len (μ.2.1 33 0) 0, Sum.inl ((wB c n f μ).1 33 0))
  congr 3
  refine congrArg Sum.inl (funext fun k => ?_)
  show va_cpy f (μ.1 33 0) 0 c n k = if 33 = 33 ∧ 0 = 0 ∧ c ≤ k ∧ k < c + n then f (k - c) else μ.1 33 0 k
  unfold va_cpy
  by_cases hk : c ≤ k ∧ k < c + n
  · rw [if_pos hk, if_pos ⟨rfl, rfl, hk⟩, Nat.zero_add]
  · rw [if_neg hk, if_neg (fun q => hk q.2.2)]
section CopyT
variable {X : CX} {own : String} {cc : ByteArray} {α : Type} {r0 : α} {ca sl : Nat} {μ : Mem} {pc : Nat} {L : List (Nat × Value)} {st : List Value} {o : Option α}
theorem s_copyT (C : Ok X own cc) {fr lo mcX msX ix i n c : Nat} (E : Rm X fr lo mcX msX) (hw : Cond.methodLink own ix arraycopyName ∈ tb) (h1 : Cond.native arraycopyName ∈ tb) (h2 : Cond.static arraycopyName ∈ tb) (h3 : Cond.initialized "java/lang/System" ∈ tb) (hi : i < 70) (hn : n ≤ txN.getD i 0) (hc : c + n ≤ bcap μ) (hb : bcap μ ≤ 140) (hroom : 1 ≤ fr ∧ (st.map fun v => v.category).sum + (nativeFrameWords "java/lang/System" "arraycopy" 5 + 11) ≤ lo) (hd : decode cc pc = .ok (.invokestatic ix, 3)) (k : G X r0 ca sl (wB c n (txb i) μ) (pc + 3) L st o) : G X r0 ca sl μ pc L (.int (nI n) :: .int (nI c) :: .ref (xa X 33 0) :: .int 0 :: .ref (xa X 52 i) :: st) o := by
  obtain ⟨p, l, e, R, s, m, args, below, meth, c0, D, ad, ty, A, Q, nL, vv⟩ := X
  obtain ⟨hx, hb0, hml, hown, hts, hK, hD, hA, hlk, hZ⟩ := C
  have hRX : R = rm4 fr lo mcX msX := E
  subst hRX
  intro h H locs ls hP hS hl
  obtain ⟨q0, hq⟩ := cell_at (kk33 vv) (show 0 < 1 by decide)
  have e1 : (nI n).toNatClampNeg = n := nI_clamp (by omega)
  have e2 : (nI c).toNatClampNeg = c := nI_clamp (by omega)
  have e3 : (0 : Int32).toNatClampNeg = 0 := by decide
  refine vk_copyt hx hb0 (hml.trans hl.1.symm) hown (hts _ hw) (hts _ h1) (hts _ h2) (hts _ h3) hK hP (hD μ) hS (f := txb i) (hZ.2.2.2.2.2.2.2.2.2.1.1 i hi).2.2.2 q0 1 (arr_at (kk33 vv) hq) rfl (by decide) (nI_pos (by omega)) (nI_pos (by omega)) (by rw [e3, e1, Nat.zero_add]; exact hn) (by rw [e2, e1]; exact hc) (fun j _ => txb_fits i _) hroom.1 hroom.2 hd (fun H1 locs1 hP1 hD1 hS1 => k h H1 locs1 ls ?_ hS1 hl)
  rw [e1, e2, e3, arr_setB (kd_nodup vv) (kk33 vv) hq] at hP1
  exact hP1
end CopyT
theorem kJ0_getBytes_840e7 (l : Launch) (c j : Nat) (hj : j < 70) : Kon 0 l yJ0_getBytes_840e7 cJ0_getBytes_840e7 4 none 1 64 0 0 (fun ad => [.ref (ad 51 j), .ref (ad 33 0), .int (nI c), .int 0]) rvV (fun μ => grd (c + txN.getD j 0 ≤ bcap μ ∧ bcap μ ≤ 140) (some ((), wB c (txN.getD j 0) (txb j) μ))) := by
  refine kon_of (by decide) (fun _ => Nat.le_of_ble_eq_true rfl) (fun X r0 μ hXl hXn V C E => ?_)
  have hN : ∀ i : Nat, i < 4 → i < xn X := fun i h => hXn.symm ▸ h
  have R0 := fen_rm E
  intro h
  obtain ⟨⟨p1, p2⟩, h2⟩ := grd_inv h
  revert h2
  show G X r0 0 0 μ 0 [(0, .ref (xa X 51 j)), (1, .ref (xa X 33 0)), (2, .int (nI c)), (3, .int 0)] [] (some ((), wB c (txN.getD j 0) (txb j) μ))
  refine s_aload_n C dJ0_getBytes_840e7_0 rfl 0 rfl ?_
  refine b_call (r := (0 : Int32)) (μ' := μ) rfl (s_callT C R0 (kJ0_coder_7d493 (xl X) j hj) (Nat.zero_le _) mmJ0_coder_7d493 miJ0_coder_7d493 q1000 rfl hj rfl rfl rfl (Nat.le_of_ble_eq_true rfl) ⟨Nat.le_of_ble_eq_true rfl, Nat.le_of_ble_eq_true rfl, Nat.le_of_ble_eq_true rfl, Nat.le_of_ble_eq_true rfl⟩ dJ0_getBytes_840e7_1 (fun r2 μ2 hq => ?_))
  obtain ⟨e2, e3⟩ := grd_inv hq
  cases e2
  revert e3
  show G X r0 0 0 μ 4 [(0, .ref (xa X 51 j)), (1, .ref (xa X 33 0)), (2, .int (nI c)), (3, .int 0)] [.int 0] (some ((), wB c (txN.getD j 0) (txb j) μ))
  refine s_iload_n C dJ0_getBytes_840e7_4 rfl 3 rfl ?_
  refine b_icmp_ne (tgt := 28) C dJ0_getBytes_840e7_5 (by decide) (fun h => absurd h (fun w => w rfl)) (fun _ => ?_)
  refine s_aload_n C dJ0_getBytes_840e7_8 rfl 0 rfl ?_
  refine s_strv C hj q1895 dJ0_getBytes_840e7_9 ?_
  refine s_iconst (v := (0 : Int32)) C dJ0_getBytes_840e7_12 (by decide) ?_
  refine s_aload_n C dJ0_getBytes_840e7_13 rfl 1 rfl ?_
  refine s_iload_n C dJ0_getBytes_840e7_14 rfl 2 rfl ?_
  refine s_iload_n C dJ0_getBytes_840e7_15 rfl 3 rfl ?_
  refine s_ishl C dJ0_getBytes_840e7_16 ?_
  refine g_st (st' := [.int (nI c), .ref (xa X 33 0), .int 0, .ref (xa X 52 j)]) (by rw [shl_0]) ?_
  refine s_aload_n C dJ0_getBytes_840e7_17 rfl 0 rfl ?_
  refine s_strv C hj q1895 dJ0_getBytes_840e7_18 ?_
  refine s_strn C hj dJ0_getBytes_840e7_21 ?_
  refine s_copyT C R0 q1814 q876 q875 q182 hj (Nat.le_refl _) p1 p2 ⟨Nat.le_of_ble_eq_true rfl, Nat.le_of_ble_eq_true rfl⟩ dJ0_getBytes_840e7_22 ?_
  refine s_goto (tgt := 43) C dJ0_getBytes_840e7_25 (by decide) ?_
  exact s_vret C E dJ0_getBytes_840e7_43
theorem kJ5_inflateIfNeededFor_a7421 (l : Launch) (j : Nat) (hj : j < 70) : Kon 0 l yJ5_inflateIfNeededFor_a7421 cJ5_inflateIfNeededFor_a7421 2 none 1 20 0 0 (fun ad => [.ref (ad 32 0), .ref (ad 51 j)]) rvV (fun μ => grd (μ.1 32 0 1 = 0) (some ((), μ))) := by
  refine kon_of (by decide) (fun _ => Nat.le_of_ble_eq_true rfl) (fun X r0 μ hXl hXn V C E => ?_)
  have hN : ∀ i : Nat, i < 2 → i < xn X := fun i h => hXn.symm ▸ h
  have R0 := fen_rm E
  intro h
  obtain ⟨p1, h2⟩ := grd_inv h
  revert h2
  show G X r0 0 0 μ 0 [(0, .ref (xa X 32 0)), (1, .ref (xa X 51 j))] [] (some ((), μ))
  refine s_gcs C q686 dJ5_inflateIfNeededFor_a7421_0 ?_
  refine b_if_eq (tgt := 21) C dJ5_inflateIfNeededFor_a7421_3 (by decide) (fun h => absurd h (by decide)) (fun _ => ?_)
  refine s_aload_n C dJ5_inflateIfNeededFor_a7421_6 rfl 0 rfl ?_
  refine s_getI C (fgJ5_22_32 _) (by decide) dJ5_inflateIfNeededFor_a7421_7 ?_
  refine s_aload_n C dJ5_inflateIfNeededFor_a7421_10 rfl 1 rfl ?_
  refine b_call (r := (0 : Int32)) (μ' := μ) rfl (s_callT C R0 (kJ0_coder_7d493 (xl X) j hj) (Nat.zero_le _) mmJ0_coder_7d493 miJ0_coder_7d493 q1790 rfl hj rfl (stk := [.ref (xa X 51 j), .int (μ.1 32 0 1)]) (st := [.int (μ.1 32 0 1)]) rfl rfl (Nat.le_of_ble_eq_true rfl) ⟨Nat.le_of_ble_eq_true rfl, Nat.le_of_ble_eq_true rfl, Nat.le_of_ble_eq_true rfl, Nat.le_of_ble_eq_true rfl⟩ dJ5_inflateIfNeededFor_a7421_11 (fun r2 μ2 hq => ?_))
  obtain ⟨e2, e3⟩ := grd_inv hq
  cases e2
  revert e3
  show G X r0 0 0 μ 14 [(0, .ref (xa X 32 0)), (1, .ref (xa X 51 j))] [.int 0, .int (μ.1 32 0 1)] (some ((), μ))
  refine b_icmp_eq (tgt := 21) C dJ5_inflateIfNeededFor_a7421_14 (by decide) (fun _ => ?_) (fun h => absurd p1 h)
  exact s_vret C E dJ5_inflateIfNeededFor_a7421_21
theorem kJ5_putStringAt_47b60 (l : Launch) (c j : Nat) (hj : j < 70) : KonP 0 l yJ5_putStringAt_47b60 cJ5_putStringAt_47b60 3 none 2 87 0 0 (fun ad => [.ref (ad 32 0), .int (nI c), .ref (ad 51 j)]) rvV (fun μ => grd (μ.1 32 0 1 = 0 ∧ c + txN.getD j 0 ≤ bcap μ ∧ bcap μ ≤ 140) (some ((), wB c (txN.getD j 0) (txb j) μ))) := by
  refine konP_of (by decide) (fun _ => Nat.le_of_ble_eq_true rfl) (fun X r0 μ hXl hXn V C Pv E => ?_)
  have hN : ∀ i : Nat, i < 3 → i < xn X := fun i h => hXn.symm ▸ h
  have R0 := fen_rm E
  intro h
  obtain ⟨⟨p0, p1, p2⟩, h2⟩ := grd_inv h
  revert h2
  show G X r0 0 0 μ 0 [(0, .ref (xa X 32 0)), (1, .int (nI c)), (2, .ref (xa X 51 j))] [] (some ((), wB c (txN.getD j 0) (txb j) μ))
  refine s_aload_n C dJ5_putStringAt_47b60_0 rfl 0 rfl ?_
  refine s_aload_n C dJ5_putStringAt_47b60_1 rfl 2 rfl ?_
  refine b_call (r := ()) (μ' := μ) (grd_ok p0) (s_callW (n := 1) (As := [.ref (xa X 51 j)]) (st := []) C Pv R0 (kJ5_inflateIfNeededFor_a7421 (xl X) j hj) (Nat.zero_le _) mmJ5_inflateIfNeededFor_a7421 muJ5_inflateIfNeededFor_a7421 q1786 rfl rfl rfl (Nat.le_of_ble_eq_true rfl) ⟨Nat.le_of_ble_eq_true rfl, Nat.le_of_ble_eq_true rfl, Nat.le_of_ble_eq_true rfl, Nat.le_of_ble_eq_true rfl⟩ dJ5_putStringAt_47b60_2 (fun r2 μ2 hq => ?_))
  obtain ⟨e2, e3⟩ := grd_inv hq
  cases e2
  revert e3
  show G X r0 0 0 μ 5 [(0, .ref (xa X 32 0)), (1, .int (nI c)), (2, .ref (xa X 51 j))] [] (some ((), wB c (txN.getD j 0) (txb j) μ))
  refine s_aload_n C dJ5_putStringAt_47b60_5 rfl 2 rfl ?_
  refine s_aload_n C dJ5_putStringAt_47b60_6 rfl 0 rfl ?_
  refine s_getF C (fgJ5_15_32 _) (by decide) dJ5_putStringAt_47b60_7 ?_
  refine s_iload_n C dJ5_putStringAt_47b60_10 rfl 1 rfl ?_
  refine s_aload_n C dJ5_putStringAt_47b60_11 rfl 0 rfl ?_
  refine s_getI C (fgJ5_22_32 _) (by decide) dJ5_putStringAt_47b60_12 ?_
  refine g_st (st' := [.int 0, .int (nI c), .ref (xa X 33 0), .ref (xa X 51 j)]) (by rw [p0]) ?_
  refine b_call (r := ()) (μ' := wB c (txN.getD j 0) (txb j) μ) (grd_ok ⟨p1, p2⟩) (s_callT (n := 3) (As := [.ref (xa X 33 0), .int (nI c), .int 0]) (st := []) C R0 (kJ0_getBytes_840e7 (xl X) c j hj) (Nat.zero_le _) mmJ0_getBytes_840e7 miJ0_getBytes_840e7 q1810 rfl hj rfl rfl rfl (Nat.le_of_ble_eq_true rfl) ⟨Nat.le_of_ble_eq_true rfl, Nat.le_of_ble_eq_true rfl, Nat.le_of_ble_eq_true rfl, Nat.le_of_ble_eq_true rfl⟩ dJ5_putStringAt_47b60_15 (fun r2 μ2 hq => ?_))
  obtain ⟨e2, e3⟩ := grd_inv hq
  cases e2
  revert e3
  show G X r0 0 0 (wB c (txN.getD j 0) (txb j) μ) 18 [(0, .ref (xa X 32 0)), (1, .int (nI c)), (2, .ref (xa X 51 j))] [] (some ((), wB c (txN.getD j 0) (txb j) μ))
  exact s_vret C E dJ5_putStringAt_47b60_18
theorem kJ1_canEncode_fc78d (l : Launch) : Kon 0 l yJ1_canEncode_fc78d cJ1_canEncode_fc78d 1 (some .boolean) 0 0 0 0 (fun _ => [.int 32]) rvI (fun μ => some (1, μ)) := by
  refine kon_of (by decide) (fun _ => Nat.le_of_ble_eq_true rfl) (fun X r0 μ hXl hXn V C E => ?_)
  have hN : ∀ i : Nat, i < 1 → i < xn X := fun i h => hXn.symm ▸ h
  have R0 := fen_rm E
  show G X r0 0 0 μ 0 [(0, .int 32)] [] (some (1, μ))
  refine s_iload_n C dJ1_canEncode_fc78d_0 rfl 0 rfl ?_
  refine s_sipush (v := (255 : Int32)) C dJ1_canEncode_fc78d_1 (by decide) ?_
  refine b_icmp_gt (tgt := 11) C dJ1_canEncode_fc78d_4 (by decide) (fun h => absurd h (by decide)) (fun _ => ?_)
  refine s_iconst (v := (1 : Int32)) C dJ1_canEncode_fc78d_7 (by decide) ?_
  refine s_goto (tgt := 12) C dJ1_canEncode_fc78d_8 (by decide) ?_
  exact s_nret C E rfl dJ1_canEncode_fc78d_12
theorem neg_100 : ∀ n : Nat, n < 100 → ¬ -(nI n) ≤ -100 ∧ (n < 10 → ¬ -(nI n) ≤ -10) ∧ (¬ n < 10 → -(nI n) ≤ -10) ∧ -(-(nI n)) = nI n ∧ -100 < -(nI n) ∧ (n < 10 → -9 ≤ -(nI n)) ∧ (¬ n < 10 → ¬ -9 ≤ -(nI n)) ∧ ¬ nI n < 0 ∧ 0 ≤ nI n := by decide +kernel
theorem kJ6_stringSize_0f7a4 (l : Launch) (n : Nat) (hn : n < 100) : Kon 0 l yJ6_stringSize_0f7a4 cJ6_stringSize_0f7a4 4 (some .int) 0 0 0 0 (fun _ => [.int (nI n)]) rvI (fun μ => some (nI (if n < 10 then 1 else 2), μ)) := by
  refine kon_of (by decide) (fun _ => Nat.le_of_ble_eq_true rfl) (fun X r0 μ hXl hXn V C E => ?_)
  have hN : ∀ i : Nat, i < 4 → i < xn X := fun i h => hXn.symm ▸ h
  have R0 := fen_rm E
  obtain ⟨a1, a2, a3, a4, a5, a6, a7, a8, a9⟩ := neg_100 n hn
  show G X r0 0 0 μ 0 [(0, .int (nI n))] [] (some (nI (if n < 10 then 1 else 2), μ))
  by_cases h10 : n < 10
  · rw [if_pos h10]
    refine s_iconst (v := (1 : Int32)) C dJ6_stringSize_0f7a4_0 (by decide) ?_
    refine s_istore_n C dJ6_stringSize_0f7a4_1 rfl (hN 1 (by decide)) rfl ?_
    refine s_iload_n C dJ6_stringSize_0f7a4_2 rfl 1 rfl ?_
    refine b_if_lt (tgt := 11) C dJ6_stringSize_0f7a4_3 (by decide) (fun h => absurd h a8) (fun _ => ?_)
    refine s_iconst (v := (0 : Int32)) C dJ6_stringSize_0f7a4_6 (by decide) ?_
    refine s_istore_n C dJ6_stringSize_0f7a4_7 rfl (hN 1 (by decide)) rfl ?_
    refine s_iload_n C dJ6_stringSize_0f7a4_8 rfl 1 rfl ?_
    refine s_ineg C dJ6_stringSize_0f7a4_9 ?_
    refine s_istore_n C dJ6_stringSize_0f7a4_10 rfl (hN 0 (by decide)) rfl ?_
    refine s_bipush (v := (-10 : Int32)) C dJ6_stringSize_0f7a4_11 (by decide) ?_
    refine s_istore_n C dJ6_stringSize_0f7a4_13 rfl (hN 2 (by decide)) rfl ?_
    refine s_iconst (v := (1 : Int32)) C dJ6_stringSize_0f7a4_14 (by decide) ?_
    refine s_istore_n C dJ6_stringSize_0f7a4_15 rfl (hN 3 (by decide)) rfl ?_
    refine s_iload_n C dJ6_stringSize_0f7a4_16 rfl 0 rfl ?_
    refine s_bipush (v := (10 : Int32)) C dJ6_stringSize_0f7a4_17 (by decide) ?_
    refine b_icmp_ge (tgt := 42) C dJ6_stringSize_0f7a4_19 (by decide) (fun h => absurd h (by decide)) (fun _ => ?_)
    refine s_iload_n C dJ6_stringSize_0f7a4_22 rfl 2 rfl ?_
    refine s_iload_n C dJ6_stringSize_0f7a4_23 rfl 1 rfl ?_
    refine b_icmp_le (tgt := 31) C dJ6_stringSize_0f7a4_24 (by decide) (fun h => absurd h (a2 h10)) (fun _ => ?_)
    refine s_iload_n C dJ6_stringSize_0f7a4_27 rfl 0 rfl ?_
    refine s_iload_n C dJ6_stringSize_0f7a4_28 rfl 3 rfl ?_
    refine s_iadd C dJ6_stringSize_0f7a4_29 ?_
    refine g_st (st' := [.int (nI 1)]) (st1 (by decide)) ?_
    exact s_iret C E dJ6_stringSize_0f7a4_30
  · rw [if_neg h10]
    refine s_iconst (v := (1 : Int32)) C dJ6_stringSize_0f7a4_0 (by decide) ?_
    refine s_istore_n C dJ6_stringSize_0f7a4_1 rfl (hN 1 (by decide)) rfl ?_
    refine s_iload_n C dJ6_stringSize_0f7a4_2 rfl 1 rfl ?_
    refine b_if_lt (tgt := 11) C dJ6_stringSize_0f7a4_3 (by decide) (fun h => absurd h a8) (fun _ => ?_)
    refine s_iconst (v := (0 : Int32)) C dJ6_stringSize_0f7a4_6 (by decide) ?_
    refine s_istore_n C dJ6_stringSize_0f7a4_7 rfl (hN 1 (by decide)) rfl ?_
    refine s_iload_n C dJ6_stringSize_0f7a4_8 rfl 1 rfl ?_
    refine s_ineg C dJ6_stringSize_0f7a4_9 ?_
    refine s_istore_n C dJ6_stringSize_0f7a4_10 rfl (hN 0 (by decide)) rfl ?_
    refine s_bipush (v := (-10 : Int32)) C dJ6_stringSize_0f7a4_11 (by decide) ?_
    refine s_istore_n C dJ6_stringSize_0f7a4_13 rfl (hN 2 (by decide)) rfl ?_
    refine s_iconst (v := (1 : Int32)) C dJ6_stringSize_0f7a4_14 (by decide) ?_
    refine s_istore_n C dJ6_stringSize_0f7a4_15 rfl (hN 3 (by decide)) rfl ?_
    refine s_iload_n C dJ6_stringSize_0f7a4_16 rfl 0 rfl ?_
    refine s_bipush (v := (10 : Int32)) C dJ6_stringSize_0f7a4_17 (by decide) ?_
    refine b_icmp_ge (tgt := 42) C dJ6_stringSize_0f7a4_19 (by decide) (fun h => absurd h (by decide)) (fun _ => ?_)
    refine s_iload_n C dJ6_stringSize_0f7a4_22 rfl 2 rfl ?_
    refine s_iload_n C dJ6_stringSize_0f7a4_23 rfl 1 rfl ?_
    refine b_icmp_le (tgt := 31) C dJ6_stringSize_0f7a4_24 (by decide) (fun _ => ?_) (fun h => absurd (a3 h10) h)
    refine s_bipush (v := (10 : Int32)) C dJ6_stringSize_0f7a4_31 (by decide) ?_
    refine s_iload_n C dJ6_stringSize_0f7a4_33 rfl 1 rfl ?_
    refine s_imul C dJ6_stringSize_0f7a4_34 ?_
    refine s_istore_n C dJ6_stringSize_0f7a4_35 rfl (hN 2 (by decide)) rfl ?_
    refine s_iinc (j := 1) C dJ6_stringSize_0f7a4_36 rfl rfl (hN 3 (by decide)) rfl ?_
    refine s_goto (tgt := 16) C dJ6_stringSize_0f7a4_39 (by decide) ?_
    refine s_iload_n C dJ6_stringSize_0f7a4_16 rfl 0 rfl ?_
    refine s_bipush (v := (10 : Int32)) C dJ6_stringSize_0f7a4_17 (by decide) ?_
    refine b_icmp_ge (tgt := 42) C dJ6_stringSize_0f7a4_19 (by decide) (fun h => absurd h (by decide)) (fun _ => ?_)
    refine s_iload_n C dJ6_stringSize_0f7a4_22 rfl 2 rfl ?_
    refine s_iload_n C dJ6_stringSize_0f7a4_23 rfl 1 rfl ?_
    refine b_icmp_le (tgt := 31) C dJ6_stringSize_0f7a4_24 (by decide) (fun h => absurd h a1) (fun _ => ?_)
    refine s_iload_n C dJ6_stringSize_0f7a4_27 rfl 0 rfl ?_
    refine s_iload_n C dJ6_stringSize_0f7a4_28 rfl 3 rfl ?_
    refine s_iadd C dJ6_stringSize_0f7a4_29 ?_
    refine g_st (st' := [.int (nI 2)]) (st1 (by decide)) ?_
    exact s_iret C E dJ6_stringSize_0f7a4_30
/-- the digits of n < 100, before e -/
def wD (n e : Nat) (μ : Mem) : Mem := if n < 10 then wI μ 33 0 (e - 1) (nI (48 + n % 10)) else wI (wI μ 33 0 (e - 1) (nI (48 + n % 10))) 33 0 (e - 2) (nI (48 + n / 10))
def szD (n : Nat) : Nat := if n < 10 then 1 else 2
theorem nar_d : ∀ d : Nat, d < 10 → vp_nar .byte (nI (48 + d)) = nI (48 + d) := by decide +kernel
theorem nI_dec {e k : Nat} (h : k < e) : nI (e - k) + Int32.ofInt (-1) = nI (e - (k + 1)) := by
  obtain ⟨d, rfl⟩ : ∃ d, e = d + (k + 1) := ⟨e - (k + 1), by omega⟩
  rw [show d + (k + 1) - k = d + 1 by omega, show d + (k + 1) - (k + 1) = d by omega]
  show nI (d + 1) + (-1) = nI d
  rw [← nI_pred d]
  exact (Int32.sub_eq_add_neg _ _).symm
theorem kJ6_getChars_ba4f3 (l : Launch) (n e : Nat) (hn : n < 100) (he : szD n ≤ e) : Kon 0 l yJ6_getChars_ba4f3 cJ6_getChars_ba4f3 7 (some .int) 0 0 0 0 (fun ad => [.int (nI n), .int (nI e), .ref (ad 33 0)]) rvI (fun μ => grd (e ≤ bcap μ ∧ bcap μ ≤ 140) (some (nI (e - szD n), wD n e μ))) := by
  refine kon_of (by decide) (fun _ => Nat.le_of_ble_eq_true rfl) (fun X r0 μ hXl hXn V C E => ?_)
  have hN : ∀ i : Nat, i < 7 → i < xn X := fun i h => hXn.symm ▸ h
  have R0 := fen_rm E
  intro h
  obtain ⟨⟨p1, p2⟩, h2⟩ := grd_inv h
  revert h2
  obtain ⟨a1, a2, a3, a4, a5, a6, a7, a8, a9⟩ := neg_100 n hn
  show G X r0 0 0 μ 0 [(0, .int (nI n)), (1, .int (nI e)), (2, .ref (xa X 33 0))] [] (some (nI (e - szD n), wD n e μ))
  unfold szD at he ⊢
  unfold wD
  by_cases h10 : n < 10
  · rw [if_pos h10] at he
    rw [if_pos h10, if_pos h10]
    refine s_iload_n C dJ6_getChars_ba4f3_0 rfl 1 rfl ?_
    refine s_istore C dJ6_getChars_ba4f3_1 (hN 5 (by decide)) rfl ?_
    refine s_iload_n C dJ6_getChars_ba4f3_3 rfl 1 rfl ?_
    refine b_if_ge (tgt := 11) C dJ6_getChars_ba4f3_4 (by decide) (fun _ => ?_) (fun h => absurd a9 h)
    refine s_iconst (v := (0 : Int32)) C dJ6_getChars_ba4f3_11 (by decide) ?_
    refine s_istore C dJ6_getChars_ba4f3_12 (hN 6 (by decide)) rfl ?_
    refine s_iload C dJ6_getChars_ba4f3_14 0 rfl ?_
    refine b_if_ne (tgt := 22) C dJ6_getChars_ba4f3_16 (by decide) (fun h => absurd h (fun w => w rfl)) (fun _ => ?_)
    refine s_iload_n C dJ6_getChars_ba4f3_19 rfl 2 rfl ?_
    refine s_ineg C dJ6_getChars_ba4f3_20 ?_
    refine s_istore_n C dJ6_getChars_ba4f3_21 rfl (hN 0 (by decide)) rfl ?_
    refine s_iload_n C dJ6_getChars_ba4f3_22 rfl 0 rfl ?_
    refine s_bipush (v := (-100 : Int32)) C dJ6_getChars_ba4f3_23 (by decide) ?_
    refine b_icmp_gt (tgt := 72) C dJ6_getChars_ba4f3_25 (by decide) (fun _ => ?_) (fun h => absurd a5 h)
    refine s_aload_n C dJ6_getChars_ba4f3_72 rfl 4 rfl ?_
    refine s_iinc (j := 2) (v := nI (e - 1)) C dJ6_getChars_ba4f3_73 rfl (nI_dec (k := 0) (by omega)) (hN 5 (by decide)) rfl ?_
    refine s_iload C dJ6_getChars_ba4f3_76 0 rfl ?_
    refine s_dig (k := 0) (κ := 56) C (Or.inl ⟨rfl, rfl⟩) q1829 dJ6_getChars_ba4f3_78 ?_
    refine s_iload_n C dJ6_getChars_ba4f3_81 rfl 1 rfl ?_
    refine s_ineg C dJ6_getChars_ba4f3_82 ?_
    refine g_st (st' := [.int (nI n), .ref (xa X 56 0), .int (nI (e - 1)), .ref (xa X 33 0)]) (by rw [a4]) ?_
    refine s_dig1 C (nI_in hn (by decide)) dJ6_getChars_ba4f3_83 ?_
    refine g_st (st' := [.int (nI (48 + n % 10)), .int (nI (e - 1)), .ref (xa X 33 0)]) (by rw [nI_clamp (n := n) (by omega)]) ?_
    refine b_bast C (by decide) (nI_in (show e - 1 < bcap μ by omega) (show bcap μ < 2 ^ 31 by omega)) dJ6_getChars_ba4f3_84 ?_
    refine g_me (μ' := wI μ 33 0 (e - 1) (nI (48 + n % 10))) (by rw [nI_clamp (n := e - 1) (by omega), nar_d _ (by omega)]) ?_
    refine s_iload_n C dJ6_getChars_ba4f3_85 rfl 1 rfl ?_
    refine s_bipush (v := (-9 : Int32)) C dJ6_getChars_ba4f3_86 (by decide) ?_
    refine b_icmp_ge (tgt := 104) C dJ6_getChars_ba4f3_88 (by decide) (fun _ => ?_) (fun h => absurd (a6 h10) h)
    refine s_iload C dJ6_getChars_ba4f3_104 2 rfl ?_
    refine b_if_eq (tgt := 118) C dJ6_getChars_ba4f3_106 (by decide) (fun _ => ?_) (fun h => absurd rfl h)
    refine s_iload C dJ6_getChars_ba4f3_118 0 rfl ?_
    exact s_iret C E dJ6_getChars_ba4f3_120
  · rw [if_neg h10] at he
    rw [if_neg h10, if_neg h10]
    refine s_iload_n C dJ6_getChars_ba4f3_0 rfl 1 rfl ?_
    refine s_istore C dJ6_getChars_ba4f3_1 (hN 5 (by decide)) rfl ?_
    refine s_iload_n C dJ6_getChars_ba4f3_3 rfl 1 rfl ?_
    refine b_if_ge (tgt := 11) C dJ6_getChars_ba4f3_4 (by decide) (fun _ => ?_) (fun h => absurd a9 h)
    refine s_iconst (v := (0 : Int32)) C dJ6_getChars_ba4f3_11 (by decide) ?_
    refine s_istore C dJ6_getChars_ba4f3_12 (hN 6 (by decide)) rfl ?_
    refine s_iload C dJ6_getChars_ba4f3_14 0 rfl ?_
    refine b_if_ne (tgt := 22) C dJ6_getChars_ba4f3_16 (by decide) (fun h => absurd h (fun w => w rfl)) (fun _ => ?_)
    refine s_iload_n C dJ6_getChars_ba4f3_19 rfl 2 rfl ?_
    refine s_ineg C dJ6_getChars_ba4f3_20 ?_
    refine s_istore_n C dJ6_getChars_ba4f3_21 rfl (hN 0 (by decide)) rfl ?_
    refine s_iload_n C dJ6_getChars_ba4f3_22 rfl 0 rfl ?_
    refine s_bipush (v := (-100 : Int32)) C dJ6_getChars_ba4f3_23 (by decide) ?_
    refine b_icmp_gt (tgt := 72) C dJ6_getChars_ba4f3_25 (by decide) (fun _ => ?_) (fun h => absurd a5 h)
    refine s_aload_n C dJ6_getChars_ba4f3_72 rfl 4 rfl ?_
    refine s_iinc (j := 2) (v := nI (e - 1)) C dJ6_getChars_ba4f3_73 rfl (nI_dec (k := 0) (by omega)) (hN 5 (by decide)) rfl ?_
    refine s_iload C dJ6_getChars_ba4f3_76 0 rfl ?_
    refine s_dig (k := 0) (κ := 56) C (Or.inl ⟨rfl, rfl⟩) q1829 dJ6_getChars_ba4f3_78 ?_
    refine s_iload_n C dJ6_getChars_ba4f3_81 rfl 1 rfl ?_
    refine s_ineg C dJ6_getChars_ba4f3_82 ?_
    refine g_st (st' := [.int (nI n), .ref (xa X 56 0), .int (nI (e - 1)), .ref (xa X 33 0)]) (by rw [a4]) ?_
    refine s_dig1 C (nI_in hn (by decide)) dJ6_getChars_ba4f3_83 ?_
    refine g_st (st' := [.int (nI (48 + n % 10)), .int (nI (e - 1)), .ref (xa X 33 0)]) (by rw [nI_clamp (n := n) (by omega)]) ?_
    refine b_bast C (by decide) (nI_in (show e - 1 < bcap μ by omega) (show bcap μ < 2 ^ 31 by omega)) dJ6_getChars_ba4f3_84 ?_
    refine g_me (μ' := wI μ 33 0 (e - 1) (nI (48 + n % 10))) (by rw [nI_clamp (n := e - 1) (by omega), nar_d _ (by omega)]) ?_
    refine s_iload_n C dJ6_getChars_ba4f3_85 rfl 1 rfl ?_
    refine s_bipush (v := (-9 : Int32)) C dJ6_getChars_ba4f3_86 (by decide) ?_
    refine b_icmp_ge (tgt := 104) C dJ6_getChars_ba4f3_88 (by decide) (fun h => absurd h (a7 h10)) (fun _ => ?_)
    refine s_aload_n C dJ6_getChars_ba4f3_91 rfl 4 rfl ?_
    refine s_iinc (j := 0) (v := nI (e - 2)) C dJ6_getChars_ba4f3_92 rfl (nI_dec (k := 1) (by omega)) (hN 5 (by decide)) rfl ?_
    refine s_iload C dJ6_getChars_ba4f3_95 0 rfl ?_
    refine s_dig (k := 0) (κ := 57) C (Or.inr ⟨rfl, rfl⟩) q1831 dJ6_getChars_ba4f3_97 ?_
    refine s_iload_n C dJ6_getChars_ba4f3_100 rfl 1 rfl ?_
    refine s_ineg C dJ6_getChars_ba4f3_101 ?_
    refine g_st (st' := [.int (nI n), .ref (xa X 57 0), .int (nI (e - 2)), .ref (xa X 33 0)]) (by rw [a4]) ?_
    refine s_dig2 C (nI_in hn (by decide)) dJ6_getChars_ba4f3_102 ?_
    refine g_st (st' := [.int (nI (48 + n / 10)), .int (nI (e - 2)), .ref (xa X 33 0)]) (by rw [nI_clamp (n := n) (by omega)]) ?_
    refine b_bast C (by decide) (nI_in (show e - 2 < bcap μ by omega) (show bcap μ < 2 ^ 31 by omega)) dJ6_getChars_ba4f3_103 ?_
    refine g_me (μ' := wI (wI μ 33 0 (e - 1) (nI (48 + n % 10))) 33 0 (e - 2) (nI (48 + n / 10))) (by rw [nI_clamp (n := e - 2) (by omega), nar_d _ (by omega)]) ?_
    refine s_iload C dJ6_getChars_ba4f3_104 2 rfl ?_
    refine b_if_eq (tgt := 118) C dJ6_getChars_ba4f3_106 (by decide) (fun _ => ?_) (fun h => absurd rfl h)
    refine s_iload C dJ6_getChars_ba4f3_118 0 rfl ?_
    exact s_iret C E dJ6_getChars_ba4f3_120
