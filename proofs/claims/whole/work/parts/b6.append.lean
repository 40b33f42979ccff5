/-! APPENDING TO THE BUILDER -/
theorem q1739 : (Cond.sameMethod "java/lang/AbstractStringBuilder" "java/lang/AbstractStringBuilder" "isLatin1" "()Z") ∈ tb := tb_of (lw_c7 (List.mem_of_getElem? (i := 145) (by decide +kernel))) rfl
theorem q1824 : (Cond.static ({ cls := "java/lang/Integer", name := "stringSize", desc := "(I)I" } : Jvm.MethodName)) ∈ tb := tb_of (lw_c7 (List.mem_of_getElem? (i := 230) (by decide +kernel))) rfl
theorem q1825 : (Cond.code ({ cls := "java/lang/Integer", name := "stringSize", desc := "(I)I" } : Jvm.MethodName) prog_25_method_13_code (4 : Nat) (Option.some Jvm.ClassFile.FieldType.int)) ∈ tb := tb_of (lw_c7 (List.mem_of_getElem? (i := 231) (by decide +kernel))) rfl
theorem q1827 : (Cond.static ({ cls := "java/lang/Integer", name := "getChars", desc := "(II[B)I" } : Jvm.MethodName)) ∈ tb := tb_of (lw_c7 (List.mem_of_getElem? (i := 233) (by decide +kernel))) rfl
theorem q1828 : (Cond.code ({ cls := "java/lang/Integer", name := "getChars", desc := "(II[B)I" } : Jvm.MethodName) prog_25_method_12_code (7 : Nat) (Option.some Jvm.ClassFile.FieldType.int)) ∈ tb := tb_of (lw_c7 (List.mem_of_getElem? (i := 234) (by decide +kernel))) rfl
theorem q1927 : (Cond.static ({ cls := "java/lang/StringLatin1", name := "canEncode", desc := "(C)Z" } : Jvm.MethodName)) ∈ tb := tb_of (lw_c8 (List.mem_of_getElem? (i := 93) (by decide +kernel))) rfl
theorem q1928 : (Cond.code ({ cls := "java/lang/StringLatin1", name := "canEncode", desc := "(C)Z" } : Jvm.MethodName) prog_31_method_3_code (1 : Nat) (Option.some Jvm.ClassFile.FieldType.boolean)) ∈ tb := tb_of (lw_c8 (List.mem_of_getElem? (i := 94) (by decide +kernel))) rfl
theorem q2885 : (Cond.sameMethod "java/lang/AbstractStringBuilder" "java/lang/AbstractStringBuilder" "setLength" "(I)V") ∈ tb := tb_of (lw_c12 (List.mem_of_getElem? (i := 91) (by decide +kernel))) rfl
theorem q2886 : (Cond.sameMethod "java/lang/AbstractStringBuilder" "java/lang/AbstractStringBuilder" "ensureCapacityInternal" "(I)V") ∈ tb := tb_of (lw_c12 (List.mem_of_getElem? (i := 92) (by decide +kernel))) rfl
theorem q2888 : (Cond.sameMethod "java/lang/AbstractStringBuilder" "java/lang/AbstractStringBuilder" "append" "(Ljava/lang/String;)Ljava/lang/AbstractStringBuilder;") ∈ tb := tb_of (lw_c12 (List.mem_of_getElem? (i := 94) (by decide +kernel))) rfl
theorem q2890 : (Cond.sameMethod "java/lang/AbstractStringBuilder" "java/lang/AbstractStringBuilder" "putStringAt" "(ILjava/lang/String;)V") ∈ tb := tb_of (lw_c12 (List.mem_of_getElem? (i := 96) (by decide +kernel))) rfl
theorem q2893 : (Cond.sameMethod "java/lang/AbstractStringBuilder" "java/lang/AbstractStringBuilder" "append" "(I)Ljava/lang/AbstractStringBuilder;") ∈ tb := tb_of (lw_c12 (List.mem_of_getElem? (i := 99) (by decide +kernel))) rfl
theorem q2895 : (Cond.sameMethod "java/lang/AbstractStringBuilder" "java/lang/AbstractStringBuilder" "append" "(C)Ljava/lang/AbstractStringBuilder;") ∈ tb := tb_of (lw_c12 (List.mem_of_getElem? (i := 101) (by decide +kernel))) rfl
theorem fpJ5_73_32 (vv : Nat) : FP vv RJ5 73 32 1 2 (none) (.boolean) := ⟨1, _, RJ4, TJ4, tyJ4, kk32 _, rfl, inJ4, rfl, q697, tyJ4_ok, nmJ4, rfl, by decide +kernel⟩
theorem fpJ5_79_32 (vv : Nat) : FP vv RJ5 79 32 1 3 (none) (.int) := ⟨1, _, RJ4, TJ4, tyJ4, kk32 _, rfl, inJ4, rfl, q699, tyJ4_ok, nmJ4, rfl, by decide +kernel⟩
theorem mmJ1_canEncode_fc78d : MM yJ1_canEncode_fc78d cJ1_canEncode_fc78d 1 (some .boolean) 1 := ⟨q178, q1928, by decide +kernel, by decide +kernel, by decide +kernel⟩
theorem mmJ5_append_3fe6f : MM yJ5_append_3fe6f cJ5_append_3fe6f 2 (some (.object "java/lang/AbstractStringBuilder")) 1 := ⟨q168, q1925, by decide +kernel, by decide +kernel, by decide +kernel⟩
theorem mmJ5_append_c97b9 : MM yJ5_append_c97b9 cJ5_append_c97b9 4 (some (.object "java/lang/AbstractStringBuilder")) 1 := ⟨q168, q1822, by decide +kernel, by decide +kernel, by decide +kernel⟩
theorem mmJ5_append_cf1ce : MM yJ5_append_cf1ce cJ5_append_cf1ce 3 (some (.object "java/lang/AbstractStringBuilder")) 1 := ⟨q168, q1761, by decide +kernel, by decide +kernel, by decide +kernel⟩
theorem mmJ5_ensureCapacityInternal_d00df : MM yJ5_ensureCapacityInternal_d00df cJ5_ensureCapacityInternal_d00df 3 (none) 1 := ⟨q168, q1711, by decide +kernel, by decide +kernel, by decide +kernel⟩
theorem mmJ5_isLatin1_aae02 : MM yJ5_isLatin1_aae02 cJ5_isLatin1_aae02 1 (some .boolean) 0 := ⟨q168, q1741, by decide +kernel, by decide +kernel, by decide +kernel⟩
theorem mmJ5_putStringAt_47b60 : MM yJ5_putStringAt_47b60 cJ5_putStringAt_47b60 3 (none) 2 := ⟨q168, q1785, by decide +kernel, by decide +kernel, by decide +kernel⟩
theorem mmJ5_setLength_d00df : MM yJ5_setLength_d00df cJ5_setLength_d00df 2 (none) 1 := ⟨q168, q1707, by decide +kernel, by decide +kernel, by decide +kernel⟩
theorem mmJ6_getChars_ba4f3 : MM yJ6_getChars_ba4f3 cJ6_getChars_ba4f3 7 (some .int) 3 := ⟨q184, q1828, by decide +kernel, by decide +kernel, by decide +kernel⟩
theorem mmJ6_stringSize_0f7a4 : MM yJ6_stringSize_0f7a4 cJ6_stringSize_0f7a4 4 (some .int) 1 := ⟨q184, q1825, by decide +kernel, by decide +kernel, by decide +kernel⟩
theorem muJ5_ensureCapacityInternal_d00df : MVp yJ5_ensureCapacityInternal_d00df := ⟨q1710, q2886, rfl, Or.inl (List.mem_of_getElem? (i := 2) rfl)⟩
theorem muJ5_isLatin1_aae02 : MVp yJ5_isLatin1_aae02 := ⟨q1738, q1739, rfl, Or.inr q1740⟩
theorem muJ5_putStringAt_47b60 : MVp yJ5_putStringAt_47b60 := ⟨q1784, q2890, rfl, Or.inl (List.mem_of_getElem? (i := 3) rfl)⟩
section Small6
variable {X : CX} {own : String} {cc : ByteArray} {α : Type} {r0 : α} {ca sl : Nat} {μ : Mem} {pc : Nat} {L : List (Nat × Value)} {st : List Value} {o : Option α}
theorem s_nonnull (C : Ok X own cc) {x : Nat} {off : Int} {tgt : Nat} (hd : decode cc pc = .ok (.ifnonnull off, 3)) (ht : (pc : Int) + off = (tgt : Int)) (k : G X r0 ca sl μ tgt L st o) : G X r0 ca sl μ pc L (.ref x :: st) o := by
  obtain ⟨p, l, e, R, s, m, args, below, meth, c, D, ad, ty, A, Q, nL, vv⟩ := X
  obtain ⟨hx, hb, hml, hown, hts, hK, hD, hA, hlk, hZ⟩ := C
  intro h H locs ls hP hS hl
  exact lv_ifnonnull hx hb hd ht (k h H locs ls hP hS hl)
theorem b_acmp_eq (C : Ok X own cc) {i j : Nat} {off : Int} {tgt : Nat} (hi : i < 74) (hj : j < 74) (hd : decode cc pc = .ok (.if_acmp .eq off, 3)) (ht : (pc : Int) + off = (tgt : Int)) (k1 : i = j → G X r0 ca sl μ tgt L st o) (k2 : ¬ (i = j) → G X r0 ca sl μ (pc + 3) L st o) : G X r0 ca sl μ pc L (.ref (xa X 50 j) :: .ref (xa X 50 i) :: st) o :=
  g_eqo (o' := if i = j then o else o) (by split <;> rfl) (s_acmp_eq C hi hj hd ht k1 k2)
end Small6
theorem j_ml {X : CX} {ca sl : Nat} {μ μ' : Mem} {pc : Nat} {L : List (Nat × Value)} {st : List Value} (h : μ = μ') (k : J X ca sl μ' pc L st) : J X ca sl μ pc L st := by subst h; exact k
theorem gwN_bcap {N : Nat} {μ : Mem} : bcap (gwN N μ) = N := by
  show up3 μ.2.1 33 0 0 N 33 0 0 = N
  exact if_pos ⟨rfl, rfl, rfl⟩
theorem gw_o {m a b : Nat} {μ : Mem} (h : ¬ (a = 33 ∧ b = 0)) : (gw m μ).1 a b = μ.1 a b ∧ (gw m μ).2.1 a b = μ.2.1 a b ∧ (gw m μ).2.2 = μ.2.2 := by
  unfold gw
  split
  · exact ⟨(gwN_o h).1, (gwN_o h).2.1, rfl⟩
  · exact ⟨rfl, rfl, rfl⟩
theorem gwN_33 {N k : Nat} {μ : Mem} : (gwN N μ).1 33 0 k = gcp μ k := by
  show (if 33 = 33 ∧ 0 = 0 then gcp μ k else μ.1 33 0 k) = gcp μ k
  exact if_pos ⟨rfl, rfl⟩
theorem gw_33 {m k : Nat} {μ : Mem} (h : k < bcap μ) : (gw m μ).1 33 0 k = μ.1 33 0 k := by
  unfold gw
  split
  · exact gwN_33.trans (if_pos h)
  · rfl
theorem gw_ok {c m : Nat} {μ : Mem} (h : SBQ c μ) (hm : m ≤ 70) : SBQ c (gw m μ) ∧ m ≤ bcap (gw m μ) := by
  obtain ⟨p1, p2, p3, p4, p5, p6⟩ := h
  obtain ⟨g1, -, -⟩ := gw_o (m := m) (μ := μ) (a := 32) (b := 0) (by omega)
  by_cases hc : bcap μ < m
  · have e : gw m μ = gwN (max m (2 * bcap μ + 2)) μ := if_pos hc
    have eb : bcap (gw m μ) = max m (2 * bcap μ + 2) := by rw [e]; exact gwN_bcap
    refine ⟨⟨by rw [g1]; exact p1, by omega, by omega, p4, by rw [g1]; exact p5, fun k hk => ?_⟩, by omega⟩
    by_cases hk2 : k < bcap μ
    · rw [gw_33 hk2]; exact p6 k hk2
    · rw [e, gwN_33, show gcp μ k = 0 from if_neg hk2]; rfl
  · have e : gw m μ = μ := if_neg hc
    rw [e]
    exact ⟨⟨p1, p2, p3, p4, p5, p6⟩, Nat.le_of_not_lt hc⟩
/-- n bytes f appended -/
def apB (c n : Nat) (f : Nat → Int32) (μ : Mem) : Mem := wI (wB c n f (gw (c + n) μ)) 32 0 3 (nI (c + n))
theorem apB_o {c n a b k : Nat} {f : Nat → Int32} {μ : Mem} (h : ¬ (a = 33 ∧ b = 0)) (h2 : ¬ (a = 32 ∧ b = 0 ∧ k = 3)) : (apB c n f μ).1 a b k = μ.1 a b k := by
  unfold apB
  rw [show (wI (wB c n f (gw (c + n) μ)) 32 0 3 (nI (c + n))).1 a b k = (wB c n f (gw (c + n) μ)).1 a b k from if_neg h2, show (wB c n f (gw (c + n) μ)).1 a b k = (gw (c + n) μ).1 a b k from if_neg (fun q => h ⟨q.1, q.2.1⟩), (gw_o h).1]
theorem apB_r {c n a b : Nat} {f : Nat → Int32} {μ : Mem} (h : ¬ (a = 33 ∧ b = 0)) : (apB c n f μ).2.1 a b = μ.2.1 a b := (gw_o (m := c + n) (μ := μ) h).2.1
theorem apB_l {c n : Nat} {f : Nat → Int32} {μ : Mem} : (apB c n f μ).2.2 = μ.2.2 := (gw_o (m := c + n) (μ := μ) (a := 0) (b := 0) (by omega)).2.2
theorem apB_c {c n : Nat} {f : Nat → Int32} {μ : Mem} : (apB c n f μ).1 32 0 3 = nI (c + n) := wI_same (μ := wB c n f (gw (c + n) μ))
theorem apB_new {c n k : Nat} {f : Nat → Int32} {μ : Mem} (h1 : c ≤ k) (h2 : k < c + n) : (apB c n f μ).1 33 0 k = f (k - c) := by
  show (if 33 = 32 ∧ 0 = 0 ∧ k = 3 then nI (c + n) else (wB c n f (gw (c + n) μ)).1 33 0 k) = f (k - c)
  rw [if_neg (by omega)]
  exact if_pos ⟨rfl, rfl, h1, h2⟩
theorem apB_out {c n k : Nat} {f : Nat → Int32} {μ : Mem} (h : ¬ (c ≤ k ∧ k < c + n)) : (apB c n f μ).1 33 0 k = (gw (c + n) μ).1 33 0 k := by
  show (if 33 = 32 ∧ 0 = 0 ∧ k = 3 then nI (c + n) else (wB c n f (gw (c + n) μ)).1 33 0 k) = _
  rw [if_neg (by omega)]
  exact if_neg (fun q => h q.2.2)
theorem apB_old {c n k : Nat} {f : Nat → Int32} {μ : Mem} (h : SBQ c μ) (hk : k < c) : (apB c n f μ).1 33 0 k = μ.1 33 0 k := by
  rw [apB_out (by omega)]
  exact gw_33 (by have := h.2.2.1; omega)
theorem apB_ok {c n : Nat} {f : Nat → Int32} {μ : Mem} (h : SBQ c μ) (hn : c + n ≤ 70) (hf : ∀ k, k < n → fits .byte (.int (f k)) = true) : SBQ (c + n) (apB c n f μ) := by
  obtain ⟨⟨p1, p2, p3, p4, p5, p6⟩, hb⟩ := gw_ok h hn
  have hcap : bcap (apB c n f μ) = bcap (gw (c + n) μ) := rfl
  refine ⟨?_, by rw [hcap]; exact p2, by rw [hcap]; exact hb, hn, apB_c, fun k hk => ?_⟩
  · rw [apB_o (by omega) (by omega)]; exact h.1
  · rw [hcap] at hk
    by_cases hk2 : c ≤ k ∧ k < c + n
    · rw [apB_new hk2.1 hk2.2]; exact hf _ (by omega)
    · rw [apB_out hk2]; exact p6 k hk
theorem wB1 {c : Nat} {v : Int32} {μ : Mem} : wI μ 33 0 c v = wB c 1 (fun _ => v) μ := by
  refine Prod.ext (funext fun a => funext fun b => funext fun k => ?_) rfl
  show (if a = 33 ∧ b = 0 ∧ k = c then v else μ.1 a b k) = if a = 33 ∧ b = 0 ∧ c ≤ k ∧ k < c + 1 then v else μ.1 a b k
  by_cases h : a = 33 ∧ b = 0 ∧ k = c
  · rw [if_pos h, if_pos ⟨h.1, h.2.1, by omega, by omega⟩]
  · rw [if_neg h, if_neg (fun q => h ⟨q.1, q.2.1, by omega⟩)]
theorem wI_sw {c : Nat} {v w : Int32} {μ : Mem} : wI (wI μ 32 0 3 w) 33 0 c v = wI (wI μ 33 0 c v) 32 0 3 w := by
  refine Prod.ext (funext fun a => funext fun b => funext fun k => ?_) rfl
  show (if a = 33 ∧ b = 0 ∧ k = c then v else if a = 32 ∧ b = 0 ∧ k = 3 then w else μ.1 a b k) = if a = 32 ∧ b = 0 ∧ k = 3 then w else if a = 33 ∧ b = 0 ∧ k = c then v else μ.1 a b k
  by_cases h : a = 33 ∧ b = 0 ∧ k = c
  · rw [if_pos h, if_neg (by omega), if_pos h]
  · rw [if_neg h, if_neg h]
/-- the digits of n < 100 -/
def dgs (n k : Nat) : Int32 := if n < 10 then nI (48 + n % 10) else if k = 0 then nI (48 + n / 10) else nI (48 + n % 10)
theorem dgs_fits (n k : Nat) (hn : n < 100) : fits .byte (.int (dgs n k)) = true := by
  have h : ∀ d, d < 10 → fits .byte (.int (nI (48 + d))) = true := by decide +kernel
  unfold dgs
  split
  · exact h _ (by omega)
  · split
    · exact h _ (by omega)
    · exact h _ (by omega)
theorem wD_eq {n c : Nat} {μ : Mem} : wD n (c + szD n) μ = wB c (szD n) (dgs n) μ := by
  unfold wD szD
  by_cases h : n < 10
  · rw [if_pos h, if_pos h, Nat.add_sub_cancel, wB1]
    congr 1
    funext k
    exact (if_pos h).symm
  · rw [if_neg h, if_neg h]
    refine Prod.ext (funext fun a => funext fun b => funext fun k => ?_) rfl
    show (if a = 33 ∧ b = 0 ∧ k = c + 2 - 2 then nI (48 + n / 10) else if a = 33 ∧ b = 0 ∧ k = c + 2 - 1 then nI (48 + n % 10) else μ.1 a b k) = if a = 33 ∧ b = 0 ∧ c ≤ k ∧ k < c + 2 then dgs n (k - c) else μ.1 a b k
    by_cases h1 : a = 33 ∧ b = 0 ∧ k = c + 2 - 2
    · rw [if_pos h1, if_pos ⟨h1.1, h1.2.1, by omega, by omega⟩]
      unfold dgs
      rw [if_neg h, if_pos (by omega)]
    · rw [if_neg h1]
      by_cases h2 : a = 33 ∧ b = 0 ∧ k = c + 2 - 1
      · rw [if_pos h2, if_pos ⟨h2.1, h2.2.1, by omega, by omega⟩]
        unfold dgs
        rw [if_neg h, if_neg (by omega)]
      · rw [if_neg h2, if_neg (fun q => by omega)]
/-- what append answers: n bytes f, behind c -/
noncomputable def fAp (c n : Nat) (f : Nat → Int32) (μ : Mem) : Option (Unit × Mem) := grd (SBQ c μ ∧ c + n ≤ 70) (some ((), apB c n f μ))
def rvS : (Nat → Nat → Nat) → Unit → Option Value := fun ad _ => some (.ref (ad 32 0))
theorem t_apS {X : CX} {ad0 : Nat → Nat → Nat} {μ : Mem} {c j : Nat} (hj : j < 70) (hN : ∀ i : Nat, i < 3 → i < xn X) (C : Ok X RJ5 cJ5_append_cf1ce) (Pv : PV X) (E : FenM ad0 X (some (.object "java/lang/AbstractStringBuilder")) (some (.ref (ad0 32 0))) (wI (wB c (txN.getD j 0) (txb j) μ) 32 0 3 (nI (c + txN.getD j 0))) 4 140 1 140) (hS : SBQ c μ) (hn : c + txN.getD j 0 ≤ bcap μ) : G X () 1 140 μ 24 [(2, .int (nI (txN.getD j 0))), (0, .ref (xa X 32 0)), (1, .ref (xa X 51 j))] [] (some ()) := by
  have R0 := fenM_rm E
  obtain ⟨p1, p2, p3, p4, p5, p6⟩ := hS
  refine s_aload_n C dJ5_append_cf1ce_24 rfl 1 rfl ?_
  refine s_aload_n C dJ5_append_cf1ce_25 rfl 1 rfl ?_
  refine s_getI C (fgJ5_79_32 _) (by decide) dJ5_append_cf1ce_26 ?_
  refine g_st (st' := [.int (nI c), .ref (xa X 32 0)]) (by rw [p5]) ?_
  refine s_aload_n C dJ5_append_cf1ce_29 rfl 2 rfl ?_
  refine b_call (r := ()) (μ' := (wB c (txN.getD j 0) (txb j) μ)) (grd_ok ⟨p1, hn, p2⟩) (s_callWP (n := 2) (As := [.int (nI c), .ref (xa X 51 j)]) (st := []) C Pv R0 (kJ5_putStringAt_47b60 (xl X) c j hj) (Nat.zero_le _) mmJ5_putStringAt_47b60 muJ5_putStringAt_47b60 q1782 rfl rfl rfl (Nat.le_of_ble_eq_true rfl) ⟨Nat.le_of_ble_eq_true rfl, Nat.le_of_ble_eq_true rfl, Nat.le_of_ble_eq_true rfl, Nat.le_of_ble_eq_true rfl⟩ dJ5_append_cf1ce_30 (fun r2 μ2 hq => ?_))
  obtain ⟨e2, e3⟩ := grd_inv hq
  cases e2
  revert e3
  show G X () 1 140 (wB c (txN.getD j 0) (txb j) μ) 33 [(2, .int (nI (txN.getD j 0))), (0, .ref (xa X 32 0)), (1, .ref (xa X 51 j))] [] (some ())
  refine s_aload_n C dJ5_append_cf1ce_33 rfl 1 rfl ?_
  refine s_dup C dJ5_append_cf1ce_34 rfl ?_
  refine s_getI C (fgJ5_79_32 _) (by decide) dJ5_append_cf1ce_35 ?_
  refine s_iload_n C dJ5_append_cf1ce_38 rfl 0 rfl ?_
  refine s_iadd C dJ5_append_cf1ce_39 ?_
  refine g_st (st' := [.int (nI (c + txN.getD j 0)), .ref (xa X 32 0)]) (by rw [show (wB c (txN.getD j 0) (txb j) μ).1 32 0 3 = nI c from p5, nI_add]) ?_
  refine s_putI C (fpJ5_79_32 _) (by decide) dJ5_append_cf1ce_40 ?_
  refine s_aload_n C dJ5_append_cf1ce_43 rfl 1 rfl ?_
  exact g_j (j_aretM C E (by decide) rfl (Nat.le_refl _) (Nat.le_refl _) dJ5_append_cf1ce_44)
theorem kJ5_append_cf1ce (l : Launch) (c j : Nat) (hj : j < 70) : KonW 0 l yJ5_append_cf1ce cJ5_append_cf1ce 3 (some (.object "java/lang/AbstractStringBuilder")) 4 140 1 140 (fun ad => [.ref (ad 32 0), .ref (ad 51 j)]) rvS (fun μ => fAp c (txN.getD j 0) (txb j) μ) := by
  refine konW_of (by decide) (fun _ => Nat.le_of_ble_eq_true rfl) (fun X r μ hXl hXn V C Pv E hfr => ?_)
  have hN : ∀ i : Nat, i < 3 → i < xn X := fun i h => hXn.symm ▸ h
  have R0 := fenM_rm E
  obtain ⟨⟨hS, hn⟩, hr⟩ := grd_inv hfr
  cases hr
  refine j_g (r0 := ()) ?_
  show G X () 0 0 μ 0 [(0, .ref (xa X 32 0)), (1, .ref (xa X 51 j))] [] (some ())
  refine s_aload_n C dJ5_append_cf1ce_0 rfl 1 rfl ?_
  refine s_nonnull (tgt := 9) C dJ5_append_cf1ce_1 (by decide) ?_
  refine s_aload_n C dJ5_append_cf1ce_9 rfl 1 rfl ?_
  refine b_call (r := nI (txN.getD j 0)) (μ' := μ) rfl (s_callT (n := 0) (As := []) (st := []) C R0 (kJ0_length_8abf5 (xl X) j hj) (Nat.zero_le _) mmJ0_length_8abf5 miJ0_length_8abf5 q1781 rfl hj rfl rfl rfl (Nat.le_of_ble_eq_true rfl) ⟨Nat.le_of_ble_eq_true rfl, Nat.le_of_ble_eq_true rfl, Nat.le_of_ble_eq_true rfl, Nat.le_of_ble_eq_true rfl⟩ dJ5_append_cf1ce_10 (fun r2 μ2 hq => ?_))
  obtain ⟨e2, e3⟩ := grd_inv hq
  cases e2
  revert e3
  show G X () 0 0 μ 13 [(0, .ref (xa X 32 0)), (1, .ref (xa X 51 j))] [.int (nI (txN.getD j 0))] (some ())
  refine s_istore_n C dJ5_append_cf1ce_13 rfl (hN 2 (by decide)) rfl ?_
  refine s_aload_n C dJ5_append_cf1ce_14 rfl 1 rfl ?_
  refine s_aload_n C dJ5_append_cf1ce_15 rfl 1 rfl ?_
  refine s_getI C (fgJ5_79_32 _) (by decide) dJ5_append_cf1ce_16 ?_
  refine s_iload_n C dJ5_append_cf1ce_19 rfl 0 rfl ?_
  refine s_iadd C dJ5_append_cf1ce_20 ?_
  refine g_st (st' := [.int (nI (c + txN.getD j 0)), .ref (xa X 32 0)]) (by rw [hS.2.2.2.2.1, nI_add]) ?_
  refine g_j (j_callUW (As := [.int (nI (c + txN.getD j 0))]) (st := []) C Pv R0 (kJ5_ensureCapacityInternal_d00df (xl X) (c + txN.getD j 0)) (Nat.zero_le _) mmJ5_ensureCapacityInternal_d00df muJ5_ensureCapacityInternal_d00df q1708 rfl rfl rfl (Nat.le_of_ble_eq_true rfl) ⟨Nat.le_of_ble_eq_true rfl, Nat.le_of_ble_eq_true rfl, Nat.le_of_ble_eq_true rfl, Nat.le_of_ble_eq_true rfl⟩ dJ5_append_cf1ce_21 (r := ()) (μ' := gw (c + txN.getD j 0) μ) (grd_ok ⟨hS.1, hS.2.1, hn, hS.2.2.2.2.2⟩) (fun w Cw => ?_))
  refine j_g (r0 := ()) ?_
  show G (sx w X) () 1 140 (gw (c + txN.getD j 0) μ) 24 [(2, .int (nI (txN.getD j 0))), (0, .ref (xa X 32 0)), (1, .ref (xa X 51 j))] [] (some ())
  rw [show xa X 32 0 = xa (sx w X) 32 0 from (xa_sx (by decide)).symm]
  rw [show xa X 51 j = xa (sx w X) 51 j from (xa_sx (by decide)).symm]
  exact t_apS (c := c) hj (fun i hi => by rw [xn_sx]; exact hN i hi) Cw (pv_sx Pv) (fenM_sx E) (gw_ok hS hn).1 (gw_ok hS hn).2
theorem t_apC {X : CX} {ad0 : Nat → Nat → Nat} {μ : Mem} {c : Nat} (hN : ∀ i : Nat, i < 2 → i < xn X) (C : Ok X RJ5 cJ5_append_3fe6f) (Pv : PV X) (E : FenM ad0 X (some (.object "java/lang/AbstractStringBuilder")) (some (.ref (ad0 32 0))) (wI (wB c 1 (fun _ => 32) μ) 32 0 3 (nI (c + 1))) 4 140 1 140) (hS : SBQ c μ) (hn : c + 1 ≤ bcap μ) : G X () 1 140 μ 10 [(0, .ref (xa X 32 0)), (1, .int 32)] [] (some ()) := by
  have R0 := fenM_rm E
  obtain ⟨p1, p2, p3, p4, p5, p6⟩ := hS
  refine s_aload_n C dJ5_append_3fe6f_10 rfl 0 rfl ?_
  refine b_call (r := (1 : Int32)) (μ' := μ) (grd_ok p1) (s_callW (n := 0) (As := []) (st := []) C Pv R0 (kJ5_isLatin1_aae02 (xl X)) (Nat.zero_le _) mmJ5_isLatin1_aae02 muJ5_isLatin1_aae02 q1737 rfl rfl rfl (Nat.le_of_ble_eq_true rfl) ⟨Nat.le_of_ble_eq_true rfl, Nat.le_of_ble_eq_true rfl, Nat.le_of_ble_eq_true rfl, Nat.le_of_ble_eq_true rfl⟩ dJ5_append_3fe6f_11 (fun r2 μ2 hq => ?_))
  obtain ⟨e2, e3⟩ := grd_inv hq
  cases e2
  revert e3
  show G X () 1 140 μ 14 [(0, .ref (xa X 32 0)), (1, .int 32)] [.int 1] (some ())
  refine b_if_eq (tgt := 45) C dJ5_append_3fe6f_14 (by decide) (fun h => absurd h (by decide)) (fun _ => ?_)
  refine s_iload_n C dJ5_append_3fe6f_17 rfl 1 rfl ?_
  refine b_call (r := (1 : Int32)) (μ' := μ) rfl (s_callF (n := 1) (As := [.int 32]) (st := []) C R0 (kJ1_canEncode_fc78d (xl X)) (Nat.zero_le _) mmJ1_canEncode_fc78d q1927 q1926 rfl rfl rfl (Nat.le_of_ble_eq_true rfl) ⟨Nat.le_of_ble_eq_true rfl, Nat.le_of_ble_eq_true rfl, Nat.le_of_ble_eq_true rfl, Nat.le_of_ble_eq_true rfl⟩ dJ5_append_3fe6f_18 (fun r2 μ2 hq => ?_))
  obtain ⟨e2, e3⟩ := grd_inv hq
  cases e2
  revert e3
  show G X () 1 140 μ 21 [(0, .ref (xa X 32 0)), (1, .int 32)] [.int 1] (some ())
  refine b_if_eq (tgt := 45) C dJ5_append_3fe6f_21 (by decide) (fun h => absurd h (by decide)) (fun _ => ?_)
  refine s_aload_n C dJ5_append_3fe6f_24 rfl 0 rfl ?_
  refine s_getF C (fgJ5_15_32 _) (by decide) dJ5_append_3fe6f_25 ?_
  refine s_aload_n C dJ5_append_3fe6f_28 rfl 0 rfl ?_
  refine s_dup C dJ5_append_3fe6f_29 rfl ?_
  refine s_getI C (fgJ5_79_32 _) (by decide) dJ5_append_3fe6f_30 ?_
  refine g_st (st' := [.int (nI c), .ref (xa X 32 0), .ref (xa X 33 0)]) (by rw [p5]) ?_
  refine s_dup_x1 C dJ5_append_3fe6f_33 rfl rfl ?_
  refine s_iconst (v := (1 : Int32)) C dJ5_append_3fe6f_34 (by decide) ?_
  refine s_iadd C dJ5_append_3fe6f_35 ?_
  refine g_st (st' := [.int (nI (c + 1)), .ref (xa X 32 0), .int (nI c), .ref (xa X 33 0)]) (st2 (nI_1 c)) ?_
  refine s_putI C (fpJ5_79_32 _) (by decide) dJ5_append_3fe6f_36 ?_
  refine s_iload_n C dJ5_append_3fe6f_39 rfl 1 rfl ?_
  refine s_i2b C dJ5_append_3fe6f_40 ?_
  refine g_st (st' := [.int 32, .int (nI c), .ref (xa X 33 0)]) (st2 (by decide)) ?_
  refine b_bast C (by decide) (nI_in (show c < bcap μ by omega) (show bcap μ < 2 ^ 31 by omega)) dJ5_append_3fe6f_41 ?_
  refine g_me (μ' := (wI (wB c 1 (fun _ => 32) μ) 32 0 3 (nI (c + 1)))) (by rw [nI_clamp (n := c) (by omega), show vp_nar .byte (32 : Int32) = 32 by decide, wI_sw, wB1]) ?_
  refine s_goto (tgt := 75) C dJ5_append_3fe6f_42 (by decide) ?_
  refine s_aload_n C dJ5_append_3fe6f_75 rfl 0 rfl ?_
  exact g_j (j_aretM C E (by decide) rfl (Nat.le_refl _) (Nat.le_refl _) dJ5_append_3fe6f_76)
theorem kJ5_append_3fe6f (l : Launch) (c : Nat) : KonW 0 l yJ5_append_3fe6f cJ5_append_3fe6f 2 (some (.object "java/lang/AbstractStringBuilder")) 4 140 1 140 (fun ad => [.ref (ad 32 0), .int 32]) rvS (fun μ => fAp c 1 (fun _ => 32) μ) := by
  refine konW_of (by decide) (fun _ => Nat.le_of_ble_eq_true rfl) (fun X r μ hXl hXn V C Pv E hfr => ?_)
  have hN : ∀ i : Nat, i < 2 → i < xn X := fun i h => hXn.symm ▸ h
  have R0 := fenM_rm E
  obtain ⟨⟨hS, hn⟩, hr⟩ := grd_inv hfr
  cases hr
  refine j_g (r0 := ()) ?_
  show G X () 0 0 μ 0 [(0, .ref (xa X 32 0)), (1, .int 32)] [] (some ())
  refine s_aload_n C dJ5_append_3fe6f_0 rfl 0 rfl ?_
  refine s_aload_n C dJ5_append_3fe6f_1 rfl 0 rfl ?_
  refine s_getI C (fgJ5_79_32 _) (by decide) dJ5_append_3fe6f_2 ?_
  refine s_iconst (v := (1 : Int32)) C dJ5_append_3fe6f_5 (by decide) ?_
  refine s_iadd C dJ5_append_3fe6f_6 ?_
  refine g_st (st' := [.int (nI (c + 1)), .ref (xa X 32 0)]) (by rw [hS.2.2.2.2.1]; exact st2 (nI_1 c)) ?_
  refine g_j (j_callUW (As := [.int (nI (c + 1))]) (st := []) C Pv R0 (kJ5_ensureCapacityInternal_d00df (xl X) (c + 1)) (Nat.zero_le _) mmJ5_ensureCapacityInternal_d00df muJ5_ensureCapacityInternal_d00df q1708 rfl rfl rfl (Nat.le_of_ble_eq_true rfl) ⟨Nat.le_of_ble_eq_true rfl, Nat.le_of_ble_eq_true rfl, Nat.le_of_ble_eq_true rfl, Nat.le_of_ble_eq_true rfl⟩ dJ5_append_3fe6f_7 (r := ()) (μ' := gw (c + 1) μ) (grd_ok ⟨hS.1, hS.2.1, hn, hS.2.2.2.2.2⟩) (fun w Cw => ?_))
  refine j_g (r0 := ()) ?_
  show G (sx w X) () 1 140 (gw (c + 1) μ) 10 [(0, .ref (xa X 32 0)), (1, .int 32)] [] (some ())
  rw [show xa X 32 0 = xa (sx w X) 32 0 from (xa_sx (by decide)).symm]
  exact t_apC (c := c) (fun i hi => by rw [xn_sx]; exact hN i hi) Cw (pv_sx Pv) (fenM_sx E) (gw_ok hS hn).1 (gw_ok hS hn).2
theorem t_apI {X : CX} {ad0 : Nat → Nat → Nat} {μ : Mem} {c m : Nat} (hm : m < 100) (hN : ∀ i : Nat, i < 4 → i < xn X) (C : Ok X RJ5 cJ5_append_c97b9) (Pv : PV X) (E : FenM ad0 X (some (.object "java/lang/AbstractStringBuilder")) (some (.ref (ad0 32 0))) (wI (wB c (szD m) (dgs m) μ) 32 0 3 (nI (c + szD m))) 4 140 1 140) (hS : SBQ c μ) (hn : c + szD m ≤ bcap μ) : G X () 1 140 μ 17 [(3, .int (nI (c + szD m))), (2, .int (nI c)), (0, .ref (xa X 32 0)), (1, .int (nI m))] [] (some ()) := by
  have R0 := fenM_rm E
  obtain ⟨p1, p2, p3, p4, p5, p6⟩ := hS
  refine s_aload_n C dJ5_append_c97b9_17 rfl 2 rfl ?_
  refine b_call (r := (1 : Int32)) (μ' := μ) (grd_ok p1) (s_callW (n := 0) (As := []) (st := []) C Pv R0 (kJ5_isLatin1_aae02 (xl X)) (Nat.zero_le _) mmJ5_isLatin1_aae02 muJ5_isLatin1_aae02 q1737 rfl rfl rfl (Nat.le_of_ble_eq_true rfl) ⟨Nat.le_of_ble_eq_true rfl, Nat.le_of_ble_eq_true rfl, Nat.le_of_ble_eq_true rfl, Nat.le_of_ble_eq_true rfl⟩ dJ5_append_c97b9_18 (fun r2 μ2 hq => ?_))
  obtain ⟨e2, e3⟩ := grd_inv hq
  cases e2
  revert e3
  show G X () 1 140 μ 21 [(3, .int (nI (c + szD m))), (2, .int (nI c)), (0, .ref (xa X 32 0)), (1, .int (nI m))] [.int 1] (some ())
  refine b_if_eq (tgt := 37) C dJ5_append_c97b9_21 (by decide) (fun h => absurd h (by decide)) (fun _ => ?_)
  refine s_iload_n C dJ5_append_c97b9_24 rfl 3 rfl ?_
  refine s_iload_n C dJ5_append_c97b9_25 rfl 0 rfl ?_
  refine s_aload_n C dJ5_append_c97b9_26 rfl 2 rfl ?_
  refine s_getF C (fgJ5_15_32 _) (by decide) dJ5_append_c97b9_27 ?_
  refine b_call (r := nI (c + szD m - szD m)) (μ' := wD m (c + szD m) μ) (grd_ok ⟨hn, p2⟩) (s_callF (n := 3) (As := [.int (nI m), .int (nI (c + szD m)), .ref (xa X 33 0)]) (st := []) C R0 (kJ6_getChars_ba4f3 (xl X) m (c + szD m) hm (Nat.le_add_left _ _)) (Nat.zero_le _) mmJ6_getChars_ba4f3 q1827 q1826 rfl rfl rfl (Nat.le_of_ble_eq_true rfl) ⟨Nat.le_of_ble_eq_true rfl, Nat.le_of_ble_eq_true rfl, Nat.le_of_ble_eq_true rfl, Nat.le_of_ble_eq_true rfl⟩ dJ5_append_c97b9_30 (fun r2 μ2 hq => ?_))
  obtain ⟨e2, e3⟩ := grd_inv hq
  cases e2
  revert e3
  rw [wD_eq]
  show G X () 1 140 (wB c (szD m) (dgs m) μ) 33 [(3, .int (nI (c + szD m))), (2, .int (nI c)), (0, .ref (xa X 32 0)), (1, .int (nI m))] [.int (nI (c + szD m - szD m))] (some ())
  refine s_pop C dJ5_append_c97b9_33 rfl ?_
  refine s_goto (tgt := 48) C dJ5_append_c97b9_34 (by decide) ?_
  refine s_aload_n C dJ5_append_c97b9_48 rfl 2 rfl ?_
  refine s_iload_n C dJ5_append_c97b9_49 rfl 0 rfl ?_
  refine s_putI C (fpJ5_79_32 _) (by decide) dJ5_append_c97b9_50 ?_
  refine s_aload_n C dJ5_append_c97b9_53 rfl 2 rfl ?_
  exact g_j (j_aretM C E (by decide) rfl (Nat.le_refl _) (Nat.le_refl _) dJ5_append_c97b9_54)
theorem kJ5_append_c97b9 (l : Launch) (c m : Nat) (hm : m < 100) : KonW 0 l yJ5_append_c97b9 cJ5_append_c97b9 4 (some (.object "java/lang/AbstractStringBuilder")) 4 140 1 140 (fun ad => [.ref (ad 32 0), .int (nI m)]) rvS (fun μ => fAp c (szD m) (dgs m) μ) := by
  refine konW_of (by decide) (fun _ => Nat.le_of_ble_eq_true rfl) (fun X r μ hXl hXn V C Pv E hfr => ?_)
  have hN : ∀ i : Nat, i < 4 → i < xn X := fun i h => hXn.symm ▸ h
  have R0 := fenM_rm E
  obtain ⟨⟨hS, hn⟩, hr⟩ := grd_inv hfr
  cases hr
  refine j_g (r0 := ()) ?_
  show G X () 0 0 μ 0 [(0, .ref (xa X 32 0)), (1, .int (nI m))] [] (some ())
  refine s_aload_n C dJ5_append_c97b9_0 rfl 0 rfl ?_
  refine s_getI C (fgJ5_79_32 _) (by decide) dJ5_append_c97b9_1 ?_
  refine g_st (st' := [.int (nI c)]) (by rw [hS.2.2.2.2.1]) ?_
  refine s_istore_n C dJ5_append_c97b9_4 rfl (hN 2 (by decide)) rfl ?_
  refine s_iload_n C dJ5_append_c97b9_5 rfl 0 rfl ?_
  refine s_iload_n C dJ5_append_c97b9_6 rfl 2 rfl ?_
  refine b_call (r := nI (szD m)) (μ' := μ) (by unfold szD; rfl) (s_callF (n := 1) (As := [.int (nI m)]) (st := [.int (nI c)]) C R0 (kJ6_stringSize_0f7a4 (xl X) m hm) (Nat.zero_le _) mmJ6_stringSize_0f7a4 q1824 q1823 rfl rfl rfl (Nat.le_of_ble_eq_true rfl) ⟨Nat.le_of_ble_eq_true rfl, Nat.le_of_ble_eq_true rfl, Nat.le_of_ble_eq_true rfl, Nat.le_of_ble_eq_true rfl⟩ dJ5_append_c97b9_7 (fun r2 μ2 hq => ?_))
  obtain ⟨e2, e3⟩ := grd_inv hq
  cases e2
  revert e3
  show G X () 0 0 μ 10 [(2, .int (nI c)), (0, .ref (xa X 32 0)), (1, .int (nI m))] [.int (nI (szD m)), .int (nI c)] (some ())
  refine s_iadd C dJ5_append_c97b9_10 ?_
  refine g_st (st' := [.int (nI (c + szD m))]) (by rw [nI_add]) ?_
  refine s_istore_n C dJ5_append_c97b9_11 rfl (hN 3 (by decide)) rfl ?_
  refine s_aload_n C dJ5_append_c97b9_12 rfl 2 rfl ?_
  refine s_iload_n C dJ5_append_c97b9_13 rfl 0 rfl ?_
  refine g_j (j_callUW (As := [.int (nI (c + szD m))]) (st := []) C Pv R0 (kJ5_ensureCapacityInternal_d00df (xl X) (c + szD m)) (Nat.zero_le _) mmJ5_ensureCapacityInternal_d00df muJ5_ensureCapacityInternal_d00df q1708 rfl rfl rfl (Nat.le_of_ble_eq_true rfl) ⟨Nat.le_of_ble_eq_true rfl, Nat.le_of_ble_eq_true rfl, Nat.le_of_ble_eq_true rfl, Nat.le_of_ble_eq_true rfl⟩ dJ5_append_c97b9_14 (r := ()) (μ' := gw (c + szD m) μ) (grd_ok ⟨hS.1, hS.2.1, hn, hS.2.2.2.2.2⟩) (fun w Cw => ?_))
  refine j_g (r0 := ()) ?_
  show G (sx w X) () 1 140 (gw (c + szD m) μ) 17 [(3, .int (nI (c + szD m))), (2, .int (nI c)), (0, .ref (xa X 32 0)), (1, .int (nI m))] [] (some ())
  rw [show xa X 32 0 = xa (sx w X) 32 0 from (xa_sx (by decide)).symm]
  exact t_apI (c := c) hm (fun i hi => by rw [xn_sx]; exact hN i hi) Cw (pv_sx Pv) (fenM_sx E) (gw_ok hS hn).1 (gw_ok hS hn).2
theorem kJ4_append_15ec4 (l : Launch) (c j : Nat) (hj : j < 70) : KonW 0 l yJ4_append_15ec4 cJ4_append_15ec4 2 (some (.object "java/lang/StringBuilder")) 5 163 1 140 (fun ad => [.ref (ad 32 0), .ref (ad 51 j)]) rvS (fun μ => fAp c (txN.getD j 0) (txb j) μ) := by
  refine konW_of (by decide) (fun _ => Nat.le_of_ble_eq_true rfl) (fun X r μ hXl hXn V C Pv E hfr => ?_)
  have R0 := fenM_rm E
  obtain ⟨hS, hr⟩ := grd_inv hfr
  cases hr
  refine j_g (r0 := ()) ?_
  show G X () 0 0 μ 0 [(0, .ref (xa X 32 0)), (1, .ref (xa X 51 j))] [] (some ())
  refine s_aload_n C dJ4_append_15ec4_0 rfl 0 rfl ?_
  refine s_aload_n C dJ4_append_15ec4_1 rfl 1 rfl ?_
  refine g_j (j_callSUW (As := [.ref (xa X 51 j)]) (st := []) C Pv R0 (kJ5_append_cf1ce (xl X) c j hj) (Nat.zero_le _) (mmJ5_append_cf1ce) q1760 q2888 q708 (by decide) q1759 rfl rfl rfl (Nat.le_of_ble_eq_true rfl) ⟨Nat.le_of_ble_eq_true rfl, Nat.le_of_ble_eq_true rfl, Nat.le_of_ble_eq_true rfl, Nat.le_of_ble_eq_true rfl⟩ dJ4_append_15ec4_2 (r := ()) (μ' := apB c (txN.getD j 0) (txb j) μ) (grd_ok hS) (fun w Cw => ?_))
  have E2 := fenM_sx (w := w) E
  refine j_g (r0 := ()) ?_
  show G (sx w X) () 1 140 (apB c (txN.getD j 0) (txb j) μ) 5 [(0, .ref (xa X 32 0)), (1, .ref (xa X 51 j))] [.ref (xa X 32 0)] (some ())
  rw [show xa X 32 0 = xa (sx w X) 32 0 from (xa_sx (by decide)).symm]
  rw [show xa X 51 j = xa (sx w X) 51 j from (xa_sx (by decide)).symm]
  refine s_pop Cw dJ4_append_15ec4_5 rfl ?_
  refine s_aload_n Cw dJ4_append_15ec4_6 rfl 0 rfl ?_
  exact g_j (j_aretM Cw E2 (by decide) rfl (Nat.le_refl _) (Nat.le_refl _) dJ4_append_15ec4_7)
theorem kJ4_append_cf468 (l : Launch) (c : Nat) : KonW 0 l yJ4_append_cf468 cJ4_append_cf468 2 (some (.object "java/lang/StringBuilder")) 5 163 1 140 (fun ad => [.ref (ad 32 0), .int 32]) rvS (fun μ => fAp c 1 (fun _ => 32) μ) := by
  refine konW_of (by decide) (fun _ => Nat.le_of_ble_eq_true rfl) (fun X r μ hXl hXn V C Pv E hfr => ?_)
  have R0 := fenM_rm E
  obtain ⟨hS, hr⟩ := grd_inv hfr
  cases hr
  refine j_g (r0 := ()) ?_
  show G X () 0 0 μ 0 [(0, .ref (xa X 32 0)), (1, .int 32)] [] (some ())
  refine s_aload_n C dJ4_append_cf468_0 rfl 0 rfl ?_
  refine s_iload_n C dJ4_append_cf468_1 rfl 1 rfl ?_
  refine g_j (j_callSUW (As := [.int 32]) (st := []) C Pv R0 (kJ5_append_3fe6f (xl X) c) (Nat.zero_le _) (mmJ5_append_3fe6f) q1924 q2895 q708 (by decide) q1923 rfl rfl rfl (Nat.le_of_ble_eq_true rfl) ⟨Nat.le_of_ble_eq_true rfl, Nat.le_of_ble_eq_true rfl, Nat.le_of_ble_eq_true rfl, Nat.le_of_ble_eq_true rfl⟩ dJ4_append_cf468_2 (r := ()) (μ' := apB c (1) ((fun _ => 32)) μ) (grd_ok hS) (fun w Cw => ?_))
  have E2 := fenM_sx (w := w) E
  refine j_g (r0 := ()) ?_
  show G (sx w X) () 1 140 (apB c (1) ((fun _ => 32)) μ) 5 [(0, .ref (xa X 32 0)), (1, .int 32)] [.ref (xa X 32 0)] (some ())
  rw [show xa X 32 0 = xa (sx w X) 32 0 from (xa_sx (by decide)).symm]
  refine s_pop Cw dJ4_append_cf468_5 rfl ?_
  refine s_aload_n Cw dJ4_append_cf468_6 rfl 0 rfl ?_
  exact g_j (j_aretM Cw E2 (by decide) rfl (Nat.le_refl _) (Nat.le_refl _) dJ4_append_cf468_7)
theorem kJ4_append_bf812 (l : Launch) (c m : Nat) (hm : m < 100) : KonW 0 l yJ4_append_bf812 cJ4_append_bf812 2 (some (.object "java/lang/StringBuilder")) 5 163 1 140 (fun ad => [.ref (ad 32 0), .int (nI m)]) rvS (fun μ => fAp c (szD m) (dgs m) μ) := by
  refine konW_of (by decide) (fun _ => Nat.le_of_ble_eq_true rfl) (fun X r μ hXl hXn V C Pv E hfr => ?_)
  have R0 := fenM_rm E
  obtain ⟨hS, hr⟩ := grd_inv hfr
  cases hr
  refine j_g (r0 := ()) ?_
  show G X () 0 0 μ 0 [(0, .ref (xa X 32 0)), (1, .int (nI m))] [] (some ())
  refine s_aload_n C dJ4_append_bf812_0 rfl 0 rfl ?_
  refine s_iload_n C dJ4_append_bf812_1 rfl 1 rfl ?_
  refine g_j (j_callSUW (As := [.int (nI m)]) (st := []) C Pv R0 (kJ5_append_c97b9 (xl X) c m hm) (Nat.zero_le _) (mmJ5_append_c97b9) q1821 q2893 q708 (by decide) q1820 rfl rfl rfl (Nat.le_of_ble_eq_true rfl) ⟨Nat.le_of_ble_eq_true rfl, Nat.le_of_ble_eq_true rfl, Nat.le_of_ble_eq_true rfl, Nat.le_of_ble_eq_true rfl⟩ dJ4_append_bf812_2 (r := ()) (μ' := apB c (szD m) (dgs m) μ) (grd_ok hS) (fun w Cw => ?_))
  have E2 := fenM_sx (w := w) E
  refine j_g (r0 := ()) ?_
  show G (sx w X) () 1 140 (apB c (szD m) (dgs m) μ) 5 [(0, .ref (xa X 32 0)), (1, .int (nI m))] [.ref (xa X 32 0)] (some ())
  rw [show xa X 32 0 = xa (sx w X) 32 0 from (xa_sx (by decide)).symm]
  refine s_pop Cw dJ4_append_bf812_5 rfl ?_
  refine s_aload_n Cw dJ4_append_bf812_6 rfl 0 rfl ?_
  exact g_j (j_aretM Cw E2 (by decide) rfl (Nat.le_refl _) (Nat.le_refl _) dJ4_append_bf812_7)
theorem kJ5_ensureCap0 (l : Launch) (m : Nat) : Kon 0 l yJ5_ensureCapacityInternal_d00df cJ5_ensureCapacityInternal_d00df 3 none 0 0 0 0 (fun ad => [.ref (ad 32 0), .int (nI m)]) rvV (fun μ => grd (μ.1 32 0 1 = 0 ∧ bcap μ ≤ 140 ∧ m ≤ bcap μ) (some ((), μ))) := by
  refine kon_of (by decide) (fun _ => Nat.le_of_ble_eq_true rfl) (fun X r0 μ hXl hXn V C E => ?_)
  have hN : ∀ i : Nat, i < 3 → i < xn X := fun i h => hXn.symm ▸ h
  have R0 := fen_rm E
  intro h
  obtain ⟨⟨p1, p2, p3⟩, h2⟩ := grd_inv h
  revert h2
  show G X r0 0 0 μ 0 [(0, .ref (xa X 32 0)), (1, .int (nI m))] [] (some ((), μ))
  refine s_aload_n C dJ5_ensureCapacityInternal_d00df_0 rfl 0 rfl ?_
  refine s_getF C (fgJ5_15_32 _) (by decide) dJ5_ensureCapacityInternal_d00df_1 ?_
  refine b_alen C (by decide) dJ5_ensureCapacityInternal_d00df_4 ?_
  refine s_aload_n C dJ5_ensureCapacityInternal_d00df_5 rfl 0 rfl ?_
  refine s_getI C (fgJ5_22_32 _) (by decide) dJ5_ensureCapacityInternal_d00df_6 ?_
  refine s_ishr C dJ5_ensureCapacityInternal_d00df_9 ?_
  refine g_st (st' := [.int (nI (bcap μ))]) (by rw [p1, shr_0]; rfl) ?_
  refine s_istore_n C dJ5_ensureCapacityInternal_d00df_10 rfl (hN 2 (by decide)) rfl ?_
  refine s_iload_n C dJ5_ensureCapacityInternal_d00df_11 rfl 2 rfl ?_
  refine s_iload_n C dJ5_ensureCapacityInternal_d00df_12 rfl 0 rfl ?_
  refine s_isub C dJ5_ensureCapacityInternal_d00df_13 ?_
  refine b_if_le (tgt := 38) C dJ5_ensureCapacityInternal_d00df_14 (by decide) (fun _ => ?_) (fun h => absurd ((nI_le0 (by omega) (by omega)).mpr p3) h)
  exact s_vret C E dJ5_ensureCapacityInternal_d00df_38
/-- setLength(0) -/
def stL (c : Nat) (μ : Mem) : Mem := wI (if c = 0 then μ else wI μ 32 0 2 1) 32 0 3 0
theorem kJ5_setLength_d00df (l : Launch) (c : Nat) : KonP 0 l yJ5_setLength_d00df cJ5_setLength_d00df 2 none 1 40 0 0 (fun ad => [.ref (ad 32 0), .int 0]) rvV (fun μ => grd (SBQ c μ) (some ((), stL c μ))) := by
  refine konP_of (by decide) (fun _ => Nat.le_of_ble_eq_true rfl) (fun X r0 μ hXl hXn V C Pv E => ?_)
  have hN : ∀ i : Nat, i < 2 → i < xn X := fun i h => hXn.symm ▸ h
  have R0 := fen_rm E
  intro h
  obtain ⟨⟨p1, p2, p3, p4, p5, p6⟩, h2⟩ := grd_inv h
  revert h2
  show G X r0 0 0 μ 0 [(0, .ref (xa X 32 0)), (1, .int 0)] [] (some ((), stL c μ))
  refine s_iload_n C dJ5_setLength_d00df_0 rfl 1 rfl ?_
  refine b_if_ge (tgt := 13) C dJ5_setLength_d00df_1 (by decide) (fun _ => ?_) (fun h => absurd (by decide) h)
  refine s_aload_n C dJ5_setLength_d00df_13 rfl 0 rfl ?_
  refine s_iload_n C dJ5_setLength_d00df_14 rfl 1 rfl ?_
  refine b_call (r := ()) (μ' := μ) (grd_ok ⟨p1, p2, Nat.zero_le _⟩) (s_callW (n := 1) (As := [.int (nI 0)]) (st := []) C Pv R0 (kJ5_ensureCap0 (xl X) 0) (Nat.zero_le _) mmJ5_ensureCapacityInternal_d00df muJ5_ensureCapacityInternal_d00df q1708 rfl rfl rfl (Nat.le_of_ble_eq_true rfl) ⟨Nat.le_of_ble_eq_true rfl, Nat.le_of_ble_eq_true rfl, Nat.le_of_ble_eq_true rfl, Nat.le_of_ble_eq_true rfl⟩ dJ5_setLength_d00df_15 (fun r2 μ2 hq => ?_))
  obtain ⟨e2, e3⟩ := grd_inv hq
  cases e2
  revert e3
  show G X r0 0 0 μ 18 [(0, .ref (xa X 32 0)), (1, .int 0)] [] (some ((), stL c μ))
  refine s_aload_n C dJ5_setLength_d00df_18 rfl 0 rfl ?_
  refine s_getI C (fgJ5_79_32 _) (by decide) dJ5_setLength_d00df_19 ?_
  refine g_st (st' := [.int (nI c)]) (by rw [p5]) ?_
  refine s_iload_n C dJ5_setLength_d00df_22 rfl 1 rfl ?_
  refine b_icmp_ge (tgt := 63) C dJ5_setLength_d00df_23 (by decide) (fun _ => ?_) (fun h => absurd (nI_pos' (n := c) (by omega)) h)
  refine s_aload_n C dJ5_setLength_d00df_63 rfl 0 rfl ?_
  refine s_getI C (fgJ5_79_32 _) (by decide) dJ5_setLength_d00df_64 ?_
  refine g_st (st' := [.int (nI c)]) (by rw [p5]) ?_
  refine s_iload_n C dJ5_setLength_d00df_67 rfl 1 rfl ?_
  unfold stL
  by_cases hc : c = 0
  · rw [if_pos hc]
    refine b_icmp_le (tgt := 76) C dJ5_setLength_d00df_68 (by decide) (fun _ => ?_) (fun h => absurd (by rw [hc]; decide) h)
    refine s_aload_n C dJ5_setLength_d00df_76 rfl 0 rfl ?_
    refine s_iload_n C dJ5_setLength_d00df_77 rfl 1 rfl ?_
    refine s_putI C (fpJ5_79_32 _) (by decide) dJ5_setLength_d00df_78 ?_
    exact s_vret C E dJ5_setLength_d00df_81
  · rw [if_neg hc]
    refine b_icmp_le (tgt := 76) C dJ5_setLength_d00df_68 (by decide) (fun h => absurd ((nI_leI (a := c) (b := 0) (by omega) (by decide)).1 h) (by omega)) (fun _ => ?_)
    refine s_aload_n C dJ5_setLength_d00df_71 rfl 0 rfl ?_
    refine s_iconst (v := (1 : Int32)) C dJ5_setLength_d00df_72 (by decide) ?_
    refine s_putZ C (fpJ5_73_32 _) (by decide) dJ5_setLength_d00df_73 ?_
    refine s_aload_n C dJ5_setLength_d00df_76 rfl 0 rfl ?_
    refine s_iload_n C dJ5_setLength_d00df_77 rfl 1 rfl ?_
    refine s_putI C (fpJ5_79_32 _) (by decide) dJ5_setLength_d00df_78 ?_
    exact s_vret C E dJ5_setLength_d00df_81
theorem kJ4_setLength_d00df (l : Launch) (c : Nat) : KonP 0 l yJ4_setLength_d00df cJ4_setLength_d00df 2 none 2 61 0 0 (fun ad => [.ref (ad 32 0), .int 0]) rvV (fun μ => grd (SBQ c μ) (some ((), stL c μ))) := by
  refine konP_of (by decide) (fun _ => Nat.le_of_ble_eq_true rfl) (fun X r0 μ hXl hXn V C Pv E => ?_)
  have R0 := fen_rm E
  intro h
  obtain ⟨hS, h2⟩ := grd_inv h
  revert h2
  show G X r0 0 0 μ 0 [(0, .ref (xa X 32 0)), (1, .int 0)] [] (some ((), stL c μ))
  refine s_aload_n C dJ4_setLength_d00df_0 rfl 0 rfl ?_
  refine s_iload_n C dJ4_setLength_d00df_1 rfl 1 rfl ?_
  refine b_call (r := ()) (μ' := stL c μ) (grd_ok hS) (s_callSUP (n := 1) (As := [.int 0]) (st := []) C Pv R0 (kJ5_setLength_d00df (xl X) c) (Nat.zero_le _) (mmJ5_setLength_d00df) q1706 q2885 q708 (by decide) q1705 rfl rfl rfl (Nat.le_of_ble_eq_true rfl) ⟨Nat.le_of_ble_eq_true rfl, Nat.le_of_ble_eq_true rfl, Nat.le_of_ble_eq_true rfl, Nat.le_of_ble_eq_true rfl⟩ dJ4_setLength_d00df_2 (fun r2 μ2 hq => ?_))
  obtain ⟨e2, e3⟩ := grd_inv hq
  cases e2
  revert e3
  show G X r0 0 0 (stL c μ) 5 [(0, .ref (xa X 32 0)), (1, .int 0)] [] (some ((), stL c μ))
  exact s_vret C E dJ4_setLength_d00df_5
