/-! APPENDING AN INSTRUCTION; PinEngines.format -/
theorem q1910 : (Cond.methodLink "PinEngines" (301 : Nat) ({ cls := "PinEngines$Program", name := "instructionAt", desc := "(I)LPinEngines$Instruction;" } : Jvm.MethodName)) ∈ tb := tb_of (lw_c8 (List.mem_of_getElem? (i := 76) (by decide +kernel))) rfl
theorem q1936 : (Cond.fieldLink "PinEngines$Instruction" (66 : Nat) "PinEngines$Symbol" "SIDE" "LPinEngines$Symbol;") ∈ tb := tb_of (lw_c8 (List.mem_of_getElem? (i := 102) (by decide +kernel))) rfl
theorem q2917 : (Cond.fieldLink "PinEngines$Instruction" (48 : Nat) "PinEngines$Symbol" "text" "Ljava/lang/String;") ∈ tb := tb_of (lw_c12 (List.mem_of_getElem? (i := 123) (by decide +kernel))) rfl
theorem fgX2_20_9 (vv : Nat) : FG vv RX2 20 9 66 1 (none) := ⟨3, _, RX2, TX2, kk9 _, rfl, inX2, rfl, q259⟩
theorem fgX2_24_9 (vv : Nat) : FG vv RX2 24 9 66 2 (some (50, none)) := ⟨3, _, RX2, TX2, kk9 _, rfl, inX2, rfl, q262⟩
theorem fgX2_27_9 (vv : Nat) : FG vv RX2 27 9 66 3 (some (50, none)) := ⟨3, _, RX2, TX2, kk9 _, rfl, inX2, rfl, q265⟩
theorem fgX2_30_9 (vv : Nat) : FG vv RX2 30 9 66 4 (some (50, none)) := ⟨3, _, RX2, TX2, kk9 _, rfl, inX2, rfl, q268⟩
theorem fgX2_33_9 (vv : Nat) : FG vv RX2 33 9 66 5 (none) := ⟨3, _, RX2, TX2, kk9 _, rfl, inX2, rfl, q271⟩
theorem fgX2_36_9 (vv : Nat) : FG vv RX2 36 9 66 6 (none) := ⟨3, _, RX2, TX2, kk9 _, rfl, inX2, rfl, q274⟩
theorem miJ4_append_15ec4 : MI yJ4_append_15ec4 := ⟨q1756, q1757⟩
theorem miJ4_append_bf812 : MI yJ4_append_bf812 := ⟨q1817, q1818⟩
theorem miJ4_append_cf468 : MI yJ4_append_cf468 := ⟨q1920, q1921⟩
theorem miJ4_setLength_d00df : MI yJ4_setLength_d00df := ⟨q1702, q1703⟩
theorem miX2_appendTo : MI yX2_appendTo := ⟨q1912, q1913⟩
theorem mmJ4_append_15ec4 : MM yJ4_append_15ec4 cJ4_append_15ec4 2 (some (.object "java/lang/StringBuilder")) 1 := ⟨q169, q1758, by decide +kernel, by decide +kernel, by decide +kernel⟩
theorem mmJ4_append_bf812 : MM yJ4_append_bf812 cJ4_append_bf812 2 (some (.object "java/lang/StringBuilder")) 1 := ⟨q169, q1819, by decide +kernel, by decide +kernel, by decide +kernel⟩
theorem mmJ4_append_cf468 : MM yJ4_append_cf468 cJ4_append_cf468 2 (some (.object "java/lang/StringBuilder")) 1 := ⟨q169, q1922, by decide +kernel, by decide +kernel, by decide +kernel⟩
theorem mmJ4_setLength_d00df : MM yJ4_setLength_d00df cJ4_setLength_d00df 2 (none) 1 := ⟨q169, q1704, by decide +kernel, by decide +kernel, by decide +kernel⟩
theorem mmX2_appendNumber : MM yX2_appendNumber cX2_appendNumber 2 (none) 2 := ⟨q160, q1918, by decide +kernel, by decide +kernel, by decide +kernel⟩
theorem mmX2_appendTo : MM yX2_appendTo cX2_appendTo 2 (none) 1 := ⟨q160, q1914, by decide +kernel, by decide +kernel, by decide +kernel⟩
theorem mmX2_appendWord : MM yX2_appendWord cX2_appendWord 2 (none) 2 := ⟨q160, q1935, by decide +kernel, by decide +kernel, by decide +kernel⟩
/-- how many bytes are written -/
def cn (μ : Mem) : Nat := (μ.1 32 0 3).toNatClampNeg
theorem cn_of {c : Nat} {μ : Mem} (h : SBQ c μ) : cn μ = c := by
  unfold cn
  rw [h.2.2.2.2.1]
  exact nI_clamp (by have := h.2.2.2.1; omega)
/-- pieces appended one behind another -/
noncomputable def apS : List (Nat × (Nat → Int32)) → Mem → Option (Unit × Mem)
  | [], μ => some ((), μ)
  | (n, f) :: t, μ => bnd (fAp (cn μ) n f μ) fun _ μ1 => apS t μ1
theorem apS_nil {μ : Mem} : apS [] μ = some ((), μ) := rfl
theorem apS_cons {n : Nat} {f : Nat → Int32} {t : List (Nat × (Nat → Int32))} {μ μ' : Mem} (h : apS ((n, f) :: t) μ = some ((), μ')) : (SBQ (cn μ) μ ∧ cn μ + n ≤ 70) ∧ apS t (apB (cn μ) n f μ) = some ((), μ') := by
  obtain ⟨r, h1, h2⟩ := Option.bind_eq_some_iff.mp h
  obtain ⟨h3, h4⟩ := grd_inv h1
  cases h4
  exact ⟨h3, h2⟩
theorem apS_split : ∀ (s t : List (Nat × (Nat → Int32))) {μ μ' : Mem}, apS (s ++ t) μ = some ((), μ') → ∃ μ1, apS s μ = some ((), μ1) ∧ apS t μ1 = some ((), μ')
  | [], t, μ, μ', h => ⟨μ, rfl, h⟩
  | (n, f) :: s, t, μ, μ', h => by
    obtain ⟨h1, h2⟩ := apS_cons (t := s ++ t) h
    obtain ⟨μ1, h3, h4⟩ := apS_split s t h2
    refine ⟨μ1, ?_, h4⟩
    show bnd (fAp (cn μ) n f μ) _ = _
    unfold fAp
    rw [grd_ok h1, bnd_some]
    exact h3
theorem apS_o : ∀ (s : List (Nat × (Nat → Int32))) {μ μ' : Mem}, apS s μ = some ((), μ') → ∀ a b, a ≠ 32 → a ≠ 33 → μ'.1 a b = μ.1 a b ∧ μ'.2.1 a b = μ.2.1 a b
  | [], μ, μ', h, a, b, h1, h2 => by rw [apS_nil] at h; cases h; exact ⟨rfl, rfl⟩
  | (n, f) :: s, μ, μ', h, a, b, h1, h2 => by
    obtain ⟨h3, h4⟩ := apS_cons h
    obtain ⟨h5, h6⟩ := apS_o s h4 a b h1 h2
    exact ⟨h5.trans (funext fun k => apB_o (by omega) (by omega)), h6.trans (apB_r (by omega))⟩
def NOK (x : Int32) : Prop := x = -1 ∨ ∃ m : Nat, m < 100 ∧ x = nI m
/-- a word, a number behind a blank -/
noncomputable def pW (j : Nat) : List (Nat × (Nat → Int32)) := if j = 0 then [] else [(1, fun _ => 32), (txN.getD (syT.getD j 0) 0, txb (syT.getD j 0))]
noncomputable def pN (x : Int32) : List (Nat × (Nat → Int32)) := if x = -1 then [] else [(1, fun _ => 32), (szD x.toNatClampNeg, dgs x.toNatClampNeg)]
theorem nI_n1 {m : Nat} (hm : m < 100) : ¬ nI m = -1 := by
  have h : ∀ m : Nat, m < 100 → ¬ nI m = -1 := by decide +kernel
  exact h m hm
theorem pN_of {m : Nat} (hm : m < 100) : pN (nI m) = [(1, fun _ => 32), (szD m, dgs m)] := by
  unfold pN
  rw [if_neg (nI_n1 hm), nI_clamp (by omega)]
theorem pW_of {j : Nat} (h : ¬ j = 0) : pW j = [(1, fun _ => 32), (txN.getD (syT.getD j 0) 0, txb (syT.getD j 0))] := if_neg h
section Call7
variable {X : CX} {own : String} {cc : ByteArray} {β : Type} {ca sl fr lo fr1 lo1 mcX msX mc ms : Nat} {μ μ' : Mem} {pc : Nat} {L : List (Nat × Value)} {st stk As : List Value} {rt : Option FieldType} {r : β}
variable {y : MethodName} {bytes : ByteArray} {mL n ix κ cnt ii vm1 : Nat} {av : (Nat → Nat → Nat) → List Value} {rv : (Nat → Nat → Nat) → β → Option Value} {f : Mem → Option (RX β)} {ad0 : Nat → Nat → Nat}
/-- a method that may throw, and doesn't -/
theorem j_callVr (C : Ok X own cc) (E : Rm X fr lo mcX msX) (hk : KonX vm1 (xl X) y bytes mL rt fr1 lo1 mc ms av rv f) (hv1 : vm1 ≤ xv X) (hM : MM y bytes mL rt n) (hI : MI y) (hl : Cond.methodLink own ix y ∈ tb) (hR : RC (xv X) κ cnt y.cls) (hi : ii < cnt)
    (hav : av (xa X) = .ref (xa X κ ii) :: As) (hstk : stk = As.reverse ++ .ref (xa X κ ii) :: st) (hn : As.length = n) (hst : (st.map fun v => v.category).sum ≤ 8) (hroom : fr1 + 1 ≤ fr ∧ 8 + (mL + 11) + lo1 ≤ lo ∧ ca + mc ≤ mcX ∧ sl + ms ≤ msX) (hd : decode cc pc = .ok (.invokevirtual ix, 3)) (hf : f μ = some (.inr r, μ'))
    (kk : J X (ca + mc) (sl + ms) μ' (pc + 3) L ((rv (xa X) r).toList ++ st)) : J X ca sl μ pc L stk := by
  obtain ⟨p, l, e, R, s, m, args, below, meth, c, D, ad, ty, A, Q, nL, vv⟩ := X
  obtain ⟨hx, hb, hml, hown, hts, hK, hD, hA, hlk, hZ⟩ := C
  have hRX : R = rm4 fr lo mcX msX := E
  obtain ⟨m1, m2, m3⟩ := hM
  obtain ⟨ci, sl0, T, N, r1, r2⟩ := hR
  have r1 : (kdL vv)[κ]? = some (cnt, .inl (ci, sl0)) := r1
  subst hRX
  intro H locs ls hP hS hl'
  obtain ⟨q0, hq⟩ := cell_at r1 hi
  have hrec := va_recv hK hP r2 (obj_at r1 hq)
  have hav' : av ad = .ref (ad κ ii) :: As := hav
  have hmet := hk vv hv1 D ad ty μ H.size (.inr r, μ') hf
  rw [hav'] at hmet
  refine run_goX (rv := rv) (r := (.inr r, μ')) (vx_runV (As := As) (rest := st) ⟨hx, hb, hml, hown, hts⟩ hmet (cwV n hts (tb_goodIn (fun w hw => ?_)) rfl rfl rfl ⟨rfl, m3⟩ ⟨hroom.1, hroom.2.1⟩) ⟨kp_blind, hrec, kp_pre hP hK (hD μ) hS hA hZ⟩ rfl hn hl'.1 hstk (lv_room hst) hd ⟨hroom.2.2.1, hroom.2.2.2⟩) hS (wl_A (hD μ) hS hA) (fun k' ce q9 H1 locs1 e1 hP1 hS1 hce hcv hcl => by cases e1) (fun b H1 locs1 e1 hP1 hS1 => ?_)
  · rcases List.mem_append.mp hw with e1 | e1
    · simp only [List.mem_cons, List.not_mem_nil, or_false] at e1
      rcases e1 with e2 | e2 | e2 | e2
      · rw [e2]; exact hl
      · rw [e2]; exact hI.1
      · rw [e2]; exact hI.2
      · rw [e2]; exact m1
    · exact wm_in m2 w e1
  · cases e1
    exact kk H1 locs1 ls hP1 hS1 hl'
theorem j_iretM (C : Ok X own cc) {v : Int32} (E : FenM ad0 X (some .int) (some (.int v)) μ' fr lo mc ms) (hμ : μ = μ') (h1 : ca ≤ mc) (h2 : sl ≤ ms) (hd : decode cc pc = .ok (.ireturn, 1)) : J X ca sl μ pc L [.int v] := by
  obtain ⟨p, l, e, R, s, m, args, below, meth, c, D, ad, ty, A, Q, nL, vv⟩ := X
  obtain ⟨hx, hb, hml, hown, hts, hK, hD, hA, hlk, hZ⟩ := C
  obtain ⟨⟨w, rfl⟩, hr, hR, hQ⟩ := E
  subst hμ
  intro H locs ls hP hS hl
  rw [hQ]
  exact W.widen h1 h2 (W.iret hx hb hr (fun t ht hW => ⟨w, rfl, by rw [ht]; exact hP, hD μ, hS.F ht⟩) hS.2.2 hd)
end Call7
theorem tN_X2_appendNumber {X : CX} {ad0 : Nat → Nat → Nat} {μ μe : Mem} {m : Nat} (hm : m < 100) (C : Ok X RX2 cX2_appendNumber) (Pv : PV X) (E : FenM ad0 X none none μe 6 184 2 280) (h : apS [(szD m, dgs m)] μ = some ((), μe)) : J X 1 140 μ 11 [(0, .ref (xa X 32 0)), (1, .int (nI m))] [.ref (xa X 32 0)] := by
  have R0 := fenM_rm E
  obtain ⟨a2, h2⟩ := apS_cons h
  rw [apS_nil] at h2
  cases h2
  refine j_g (r0 := ()) ?_
  refine s_pop C dX2_appendNumber_11 rfl ?_
  refine s_aload_n C dX2_appendNumber_12 rfl 0 rfl ?_
  refine s_iload_n C dX2_appendNumber_13 rfl 1 rfl ?_
  refine g_j (r0 := ()) (j_callVW (As := [.int (nI m)]) (st := []) C Pv R0 (kJ4_append_bf812 (xl X) (cn μ) m hm) (Nat.zero_le _) mmJ4_append_bf812 miJ4_append_bf812 q1932 (rc32 _) (by decide) rfl rfl rfl (Nat.le_of_ble_eq_true rfl) ⟨Nat.le_of_ble_eq_true rfl, Nat.le_of_ble_eq_true rfl, Nat.le_of_ble_eq_true rfl, Nat.le_of_ble_eq_true rfl⟩ dX2_appendNumber_14 (r := ()) (μ' := apB (cn μ) (szD m) (dgs m) μ) (grd_ok a2) (fun w Cw => ?_))
  refine j_g (r0 := ()) ?_
  show G (sx w X) () 2 280 (apB (cn μ) (szD m) (dgs m) μ) 17 [(0, .ref (xa X 32 0)), (1, .int (nI m))] [.ref (xa X 32 0)] (some ())
  refine s_pop Cw dX2_appendNumber_17 rfl ?_
  exact g_j (j_vretM Cw (fenM_sx E) rfl (Nat.le_refl _) (Nat.le_refl _) dX2_appendNumber_18)
theorem kX2_appendNumber (l : Launch) (x : Int32) (hx : NOK x) : KonW 0 l yX2_appendNumber cX2_appendNumber 2 none 6 184 2 280 (fun ad => [.ref (ad 32 0), .int x]) rvV (fun μ => apS (pN x) μ) := by
  refine konW_of (by decide) (fun _ => Nat.le_of_ble_eq_true rfl) (fun X r μ hXl hXn V C Pv E hfr => ?_)
  have R0 := fenM_rm E
  obtain ⟨⟨⟩, μe⟩ := r
  rcases hx with rfl | ⟨m, hm, rfl⟩
  · have hfr : apS (pN (-1)) μ = some ((), μe) := hfr
    rw [show pN (-1) = [] from if_pos rfl, apS_nil] at hfr
    cases hfr
    refine j_g (r0 := ()) ?_
    show G X () 0 0 μ 0 [(0, .ref (xa X 32 0)), (1, .int (-1))] [] (some ())
    refine s_iload_n C dX2_appendNumber_0 rfl 1 rfl ?_
    refine s_iconst (v := (-1 : Int32)) C dX2_appendNumber_1 (by decide) ?_
    refine b_icmp_eq (tgt := 18) C dX2_appendNumber_2 (by decide) (fun _ => ?_) (fun h => absurd rfl h)
    exact g_j (j_vretM C E rfl (Nat.zero_le _) (Nat.zero_le _) dX2_appendNumber_18)
  · rw [pN_of hm] at hfr
    obtain ⟨a1, h1⟩ := apS_cons hfr
    refine j_g (r0 := ()) ?_
    show G X () 0 0 μ 0 [(0, .ref (xa X 32 0)), (1, .int (nI m))] [] (some ())
    refine s_iload_n C dX2_appendNumber_0 rfl 1 rfl ?_
    refine s_iconst (v := (-1 : Int32)) C dX2_appendNumber_1 (by decide) ?_
    refine b_icmp_eq (tgt := 18) C dX2_appendNumber_2 (by decide) (fun h => absurd h (nI_n1 hm)) (fun _ => ?_)
    refine s_aload_n C dX2_appendNumber_5 rfl 0 rfl ?_
    refine s_bipush (v := (32 : Int32)) C dX2_appendNumber_6 (by decide) ?_
    refine g_j (r0 := ()) (j_callVW (As := [.int 32]) (st := []) C Pv R0 (kJ4_append_cf468 (xl X) (cn μ)) (Nat.zero_le _) mmJ4_append_cf468 miJ4_append_cf468 q1919 (rc32 _) (by decide) rfl rfl rfl (Nat.le_of_ble_eq_true rfl) ⟨Nat.le_of_ble_eq_true rfl, Nat.le_of_ble_eq_true rfl, Nat.le_of_ble_eq_true rfl, Nat.le_of_ble_eq_true rfl⟩ dX2_appendNumber_8 (r := ()) (μ' := apB (cn μ) 1 (fun _ => 32) μ) (grd_ok a1) (fun w Cw => ?_))
    have t := tN_X2_appendNumber hm Cw (pv_sx Pv) (fenM_sx E) h1
    rw [xa_sx (κ := 32) (by decide)] at t
    exact t
theorem tW_X2_appendWord {X : CX} {ad0 : Nat → Nat → Nat} {μ μe : Mem} {j : Nat} (hj : j < 74) (C : Ok X RX2 cX2_appendWord) (Pv : PV X) (E : FenM ad0 X none none μe 6 184 2 280) (h : apS [(txN.getD (syT.getD j 0) 0, txb (syT.getD j 0))] μ = some ((), μe)) : J X 1 140 μ 13 [(0, .ref (xa X 32 0)), (1, .ref (xa X 50 j))] [.ref (xa X 32 0)] := by
  have R0 := fenM_rm E
  obtain ⟨a2, h2⟩ := apS_cons h
  rw [apS_nil] at h2
  cases h2
  refine j_g (r0 := ()) ?_
  refine s_pop C dX2_appendWord_13 rfl ?_
  refine s_aload_n C dX2_appendWord_14 rfl 0 rfl ?_
  refine s_aload_n C dX2_appendWord_15 rfl 1 rfl ?_
  refine s_symt C hj q2917 dX2_appendWord_16 ?_
  refine g_j (r0 := ()) (j_callVW (As := [.ref (xa X 51 (syT.getD j 0))]) (st := []) C Pv R0 (kJ4_append_15ec4 (xl X) (cn μ) (syT.getD j 0) (syT_lt j)) (Nat.zero_le _) mmJ4_append_15ec4 miJ4_append_15ec4 q1915 (rc32 _) (by decide) rfl rfl rfl (Nat.le_of_ble_eq_true rfl) ⟨Nat.le_of_ble_eq_true rfl, Nat.le_of_ble_eq_true rfl, Nat.le_of_ble_eq_true rfl, Nat.le_of_ble_eq_true rfl⟩ dX2_appendWord_19 (r := ()) (μ' := apB (cn μ) (txN.getD (syT.getD j 0) 0) (txb (syT.getD j 0)) μ) (grd_ok a2) (fun w Cw => ?_))
  refine j_g (r0 := ()) ?_
  show G (sx w X) () 2 280 (apB (cn μ) (txN.getD (syT.getD j 0) 0) (txb (syT.getD j 0)) μ) 22 [(0, .ref (xa X 32 0)), (1, .ref (xa X 50 j))] [.ref (xa X 32 0)] (some ())
  refine s_pop Cw dX2_appendWord_22 rfl ?_
  exact g_j (j_vretM Cw (fenM_sx E) rfl (Nat.le_refl _) (Nat.le_refl _) dX2_appendWord_23)
theorem kX2_appendWord (l : Launch) (j : Nat) (hj : j < 74) : KonW 0 l yX2_appendWord cX2_appendWord 2 none 6 184 2 280 (fun ad => [.ref (ad 32 0), .ref (ad 50 j)]) rvV (fun μ => apS (pW j) μ) := by
  refine konW_of (by decide) (fun _ => Nat.le_of_ble_eq_true rfl) (fun X r μ hXl hXn V C Pv E hfr => ?_)
  have R0 := fenM_rm E
  obtain ⟨⟨⟩, μe⟩ := r
  refine j_g (r0 := ()) ?_
  show G X () 0 0 μ 0 [(0, .ref (xa X 32 0)), (1, .ref (xa X 50 j))] [] (some ())
  refine s_aload_n C dX2_appendWord_0 rfl 1 rfl ?_
  refine s_gsym (i := 0) C (by decide) rfl q254 dX2_appendWord_1 ?_
  by_cases h0 : j = 0
  · subst h0
    have hfr : apS (pW 0) μ = some ((), μe) := hfr
    rw [show pW 0 = [] from if_pos rfl, apS_nil] at hfr
    cases hfr
    refine b_acmp_eq (tgt := 23) C hj (by decide) dX2_appendWord_4 (by decide) (fun _ => ?_) (fun h => absurd rfl h)
    exact g_j (j_vretM C E rfl (Nat.zero_le _) (Nat.zero_le _) dX2_appendWord_23)
  · have hfr : apS (pW j) μ = some ((), μe) := hfr
    rw [pW_of h0] at hfr
    obtain ⟨a1, h1⟩ := apS_cons hfr
    refine b_acmp_eq (tgt := 23) C hj (by decide) dX2_appendWord_4 (by decide) (fun h => absurd h h0) (fun _ => ?_)
    refine s_aload_n C dX2_appendWord_7 rfl 0 rfl ?_
    refine s_bipush (v := (32 : Int32)) C dX2_appendWord_8 (by decide) ?_
    refine g_j (r0 := ()) (j_callVW (As := [.int 32]) (st := []) C Pv R0 (kJ4_append_cf468 (xl X) (cn μ)) (Nat.zero_le _) mmJ4_append_cf468 miJ4_append_cf468 q1919 (rc32 _) (by decide) rfl rfl rfl (Nat.le_of_ble_eq_true rfl) ⟨Nat.le_of_ble_eq_true rfl, Nat.le_of_ble_eq_true rfl, Nat.le_of_ble_eq_true rfl, Nat.le_of_ble_eq_true rfl⟩ dX2_appendWord_10 (r := ()) (μ' := apB (cn μ) 1 (fun _ => 32) μ) (grd_ok a1) (fun w Cw => ?_))
    have t := tW_X2_appendWord hj Cw (pv_sx Pv) (fenM_sx E) h1
    rw [xa_sx (κ := 32) (by decide), xa_sx (κ := 50) (by decide)] at t
    exact t
/-- an instruction's cells are fit for appending -/
def IOK (a : Nat → Int32) (b : Nat → Nat) : Prop := (NOK (a 1) ∧ NOK (a 5) ∧ NOK (a 6) ∧ NOK (a 7)) ∧ b 0 < 74 ∧ b 2 < 74 ∧ b 3 < 74 ∧ b 4 < 74
noncomputable def rs75 (a : Nat → Int32) : List (Nat × (Nat → Int32)) := if a 7 = 0 then [] else pW 16 ++ pN (a 7)
noncomputable def rs67 (a : Nat → Int32) : List (Nat × (Nat → Int32)) := pN (a 6) ++ rs75 a
noncomputable def rs52 (a : Nat → Int32) : List (Nat × (Nat → Int32)) := if a 6 = -1 then rs75 a else pW 15 ++ rs67 a
noncomputable def rs44 (a : Nat → Int32) : List (Nat × (Nat → Int32)) := pN (a 5) ++ rs52 a
noncomputable def rs36 (a : Nat → Int32) (b : Nat → Nat) : List (Nat × (Nat → Int32)) := pW (b 4) ++ rs44 a
noncomputable def rs28 (a : Nat → Int32) (b : Nat → Nat) : List (Nat × (Nat → Int32)) := pW (b 3) ++ rs36 a b
noncomputable def rs20 (a : Nat → Int32) (b : Nat → Nat) : List (Nat × (Nat → Int32)) := pW (b 2) ++ rs28 a b
noncomputable def rs12 (a : Nat → Int32) (b : Nat → Nat) : List (Nat × (Nat → Int32)) := pN (a 1) ++ rs20 a b
noncomputable def rsI (a : Nat → Int32) (b : Nat → Nat) : List (Nat × (Nat → Int32)) := (txN.getD (syT.getD (b 0) 0) 0, txb (syT.getD (b 0) 0)) :: rs12 a b
theorem tT_97 {X : CX} {ad0 : Nat → Nat → Nat} {n ca sl : Nat} {μ μe : Mem} {a : Nat → Int32} {b : Nat → Nat} (hn : n < 66) (H : IOK a b) (C : Ok X RX2 cX2_appendTo) (Pv : PV X) (E : FenM ad0 X none none μe 7 205 19 2660) (hc : ca + 0 ≤ 19) (hs : sl + 0 ≤ 2660) (ha : μ.1 9 n = a) (hb : μ.2.1 9 n = b) (h : apS ([]) μ = some ((), μe)) : J X ca sl μ 97 [(0, .ref (xa X 9 n)), (1, .ref (xa X 32 0))] [] := by
  have R0 := fenM_rm E
  rw [apS_nil] at h
  cases h
  exact j_vretM C E rfl (by omega) (by omega) dX2_appendTo_97
theorem tT_89 {X : CX} {ad0 : Nat → Nat → Nat} {n ca sl : Nat} {μ μe : Mem} {a : Nat → Int32} {b : Nat → Nat} (hn : n < 66) (H : IOK a b) (C : Ok X RX2 cX2_appendTo) (Pv : PV X) (E : FenM ad0 X none none μe 7 205 19 2660) (hc : ca + 2 ≤ 19) (hs : sl + 280 ≤ 2660) (ha : μ.1 9 n = a) (hb : μ.2.1 9 n = b) (h : apS (pN (a 7) ++ []) μ = some ((), μe)) : J X ca sl μ 89 [(0, .ref (xa X 9 n)), (1, .ref (xa X 32 0))] [] := by
  have R0 := fenM_rm E
  obtain ⟨μ1, h1, h2⟩ := apS_split _ _ h
  refine j_g (r0 := ()) ?_
  refine s_aload_n C dX2_appendTo_89 rfl 1 rfl ?_
  refine s_aload_n C dX2_appendTo_90 rfl 0 rfl ?_
  refine s_getI C (fgX2_39_9 _) hn dX2_appendTo_91 ?_
  refine g_st (st' := [.int (a 7), .ref (xa X 32 0)]) (by rw [ha]) ?_
  refine g_j (r0 := ()) (j_callSW (As := [.ref (xa X 32 0), .int (a 7)]) (st := []) C Pv R0 (kX2_appendNumber (xl X) (a 7) H.1.2.2.2) (Nat.zero_le _) mmX2_appendNumber q1917 q1916 rfl rfl rfl (Nat.le_of_ble_eq_true rfl) ⟨Nat.le_of_ble_eq_true rfl, Nat.le_of_ble_eq_true rfl, by omega, by omega⟩ dX2_appendTo_94 (r := ()) h1 (fun w Cw => ?_))
  have f0 := apS_o _ h1 9 n (by decide) (by decide)
  have t := tT_97 hn H Cw (pv_sx Pv) (fenM_sx E) (ca := ca + 2) (sl := sl + 280) (by omega) (by omega) (f0.1.trans ha) (f0.2.trans hb) h2
  rw [xa_sx (κ := 9) (by decide), xa_sx (κ := 32) (by decide)] at t
  exact t
theorem tT_75 {X : CX} {ad0 : Nat → Nat → Nat} {n ca sl : Nat} {μ μe : Mem} {a : Nat → Int32} {b : Nat → Nat} (hn : n < 66) (H : IOK a b) (C : Ok X RX2 cX2_appendTo) (Pv : PV X) (E : FenM ad0 X none none μe 7 205 19 2660) (hc : ca + 4 ≤ 19) (hs : sl + 560 ≤ 2660) (ha : μ.1 9 n = a) (hb : μ.2.1 9 n = b) (h : apS (rs75 a) μ = some ((), μe)) : J X ca sl μ 75 [(0, .ref (xa X 9 n)), (1, .ref (xa X 32 0))] [] := by
  have R0 := fenM_rm E
  unfold rs75 at h
  refine j_g (r0 := ()) ?_
  refine s_aload_n C dX2_appendTo_75 rfl 0 rfl ?_
  refine s_getI C (fgX2_39_9 _) hn dX2_appendTo_76 ?_
  refine g_st (st' := [.int (a 7)]) (by rw [ha]) ?_
  by_cases h7 : a 7 = 0
  · rw [if_pos h7] at h
    refine b_if_eq (tgt := 97) C dX2_appendTo_79 (by decide) (fun _ => ?_) (fun q => absurd h7 q)
    exact g_j (tT_97 hn H C Pv E (by omega) (by omega) ha hb h)
  · rw [if_neg h7] at h
    obtain ⟨μ1, h1, h2⟩ := apS_split _ _ h
    rw [← List.append_nil (pN (a 7))] at h2
    refine b_if_eq (tgt := 97) C dX2_appendTo_79 (by decide) (fun q => absurd q h7) (fun _ => ?_)
    refine s_aload_n C dX2_appendTo_82 rfl 1 rfl ?_
    refine s_gsym (i := 16) C (by decide) rfl q1937 dX2_appendTo_83 ?_
    refine g_j (r0 := ()) (j_callSW (As := [.ref (xa X 32 0), .ref (xa X 50 16)]) (st := []) C Pv R0 (kX2_appendWord (xl X) 16 (by decide)) (Nat.zero_le _) mmX2_appendWord q1934 q1933 rfl rfl rfl (Nat.le_of_ble_eq_true rfl) ⟨Nat.le_of_ble_eq_true rfl, Nat.le_of_ble_eq_true rfl, by omega, by omega⟩ dX2_appendTo_86 (r := ()) h1 (fun w Cw => ?_))
    have f0 := apS_o _ h1 9 n (by decide) (by decide)
    have t := tT_89 hn H Cw (pv_sx Pv) (fenM_sx E) (ca := ca + 2) (sl := sl + 280) (by omega) (by omega) (f0.1.trans ha) (f0.2.trans hb) h2
    rw [xa_sx (κ := 9) (by decide), xa_sx (κ := 32) (by decide)] at t
    exact t
theorem tT_67 {X : CX} {ad0 : Nat → Nat → Nat} {n ca sl : Nat} {μ μe : Mem} {a : Nat → Int32} {b : Nat → Nat} (hn : n < 66) (H : IOK a b) (C : Ok X RX2 cX2_appendTo) (Pv : PV X) (E : FenM ad0 X none none μe 7 205 19 2660) (hc : ca + 6 ≤ 19) (hs : sl + 840 ≤ 2660) (ha : μ.1 9 n = a) (hb : μ.2.1 9 n = b) (h : apS (rs67 a) μ = some ((), μe)) : J X ca sl μ 67 [(0, .ref (xa X 9 n)), (1, .ref (xa X 32 0))] [] := by
  have R0 := fenM_rm E
  obtain ⟨μ1, h1, h2⟩ := apS_split _ _ h
  refine j_g (r0 := ()) ?_
  refine s_aload_n C dX2_appendTo_67 rfl 1 rfl ?_
  refine s_aload_n C dX2_appendTo_68 rfl 0 rfl ?_
  refine s_getI C (fgX2_36_9 _) hn dX2_appendTo_69 ?_
  refine g_st (st' := [.int (a 6), .ref (xa X 32 0)]) (by rw [ha]) ?_
  refine g_j (r0 := ()) (j_callSW (As := [.ref (xa X 32 0), .int (a 6)]) (st := []) C Pv R0 (kX2_appendNumber (xl X) (a 6) H.1.2.2.1) (Nat.zero_le _) mmX2_appendNumber q1917 q1916 rfl rfl rfl (Nat.le_of_ble_eq_true rfl) ⟨Nat.le_of_ble_eq_true rfl, Nat.le_of_ble_eq_true rfl, by omega, by omega⟩ dX2_appendTo_72 (r := ()) h1 (fun w Cw => ?_))
  have f0 := apS_o _ h1 9 n (by decide) (by decide)
  have t := tT_75 hn H Cw (pv_sx Pv) (fenM_sx E) (ca := ca + 2) (sl := sl + 280) (by omega) (by omega) (f0.1.trans ha) (f0.2.trans hb) h2
  rw [xa_sx (κ := 9) (by decide), xa_sx (κ := 32) (by decide)] at t
  exact t
theorem tT_52 {X : CX} {ad0 : Nat → Nat → Nat} {n ca sl : Nat} {μ μe : Mem} {a : Nat → Int32} {b : Nat → Nat} (hn : n < 66) (H : IOK a b) (C : Ok X RX2 cX2_appendTo) (Pv : PV X) (E : FenM ad0 X none none μe 7 205 19 2660) (hc : ca + 8 ≤ 19) (hs : sl + 1120 ≤ 2660) (ha : μ.1 9 n = a) (hb : μ.2.1 9 n = b) (h : apS (rs52 a) μ = some ((), μe)) : J X ca sl μ 52 [(0, .ref (xa X 9 n)), (1, .ref (xa X 32 0))] [] := by
  have R0 := fenM_rm E
  unfold rs52 at h
  refine j_g (r0 := ()) ?_
  refine s_aload_n C dX2_appendTo_52 rfl 0 rfl ?_
  refine s_getI C (fgX2_36_9 _) hn dX2_appendTo_53 ?_
  refine g_st (st' := [.int (a 6)]) (by rw [ha]) ?_
  refine s_iconst (v := (-1 : Int32)) C dX2_appendTo_56 (by decide) ?_
  by_cases h6 : a 6 = -1
  · rw [if_pos h6] at h
    refine b_icmp_eq (tgt := 75) C dX2_appendTo_57 (by decide) (fun _ => ?_) (fun q => absurd h6 q)
    exact g_j (tT_75 hn H C Pv E (by omega) (by omega) ha hb h)
  · rw [if_neg h6] at h
    obtain ⟨μ1, h1, h2⟩ := apS_split _ _ h
    refine b_icmp_eq (tgt := 75) C dX2_appendTo_57 (by decide) (fun q => absurd q h6) (fun _ => ?_)
    refine s_aload_n C dX2_appendTo_60 rfl 1 rfl ?_
    refine s_gsym (i := 15) C (by decide) rfl q1936 dX2_appendTo_61 ?_
    refine g_j (r0 := ()) (j_callSW (As := [.ref (xa X 32 0), .ref (xa X 50 15)]) (st := []) C Pv R0 (kX2_appendWord (xl X) 15 (by decide)) (Nat.zero_le _) mmX2_appendWord q1934 q1933 rfl rfl rfl (Nat.le_of_ble_eq_true rfl) ⟨Nat.le_of_ble_eq_true rfl, Nat.le_of_ble_eq_true rfl, by omega, by omega⟩ dX2_appendTo_64 (r := ()) h1 (fun w Cw => ?_))
    have f0 := apS_o _ h1 9 n (by decide) (by decide)
    have t := tT_67 hn H Cw (pv_sx Pv) (fenM_sx E) (ca := ca + 2) (sl := sl + 280) (by omega) (by omega) (f0.1.trans ha) (f0.2.trans hb) h2
    rw [xa_sx (κ := 9) (by decide), xa_sx (κ := 32) (by decide)] at t
    exact t
theorem tT_44 {X : CX} {ad0 : Nat → Nat → Nat} {n ca sl : Nat} {μ μe : Mem} {a : Nat → Int32} {b : Nat → Nat} (hn : n < 66) (H : IOK a b) (C : Ok X RX2 cX2_appendTo) (Pv : PV X) (E : FenM ad0 X none none μe 7 205 19 2660) (hc : ca + 10 ≤ 19) (hs : sl + 1400 ≤ 2660) (ha : μ.1 9 n = a) (hb : μ.2.1 9 n = b) (h : apS (rs44 a) μ = some ((), μe)) : J X ca sl μ 44 [(0, .ref (xa X 9 n)), (1, .ref (xa X 32 0))] [] := by
  have R0 := fenM_rm E
  obtain ⟨μ1, h1, h2⟩ := apS_split _ _ h
  refine j_g (r0 := ()) ?_
  refine s_aload_n C dX2_appendTo_44 rfl 1 rfl ?_
  refine s_aload_n C dX2_appendTo_45 rfl 0 rfl ?_
  refine s_getI C (fgX2_33_9 _) hn dX2_appendTo_46 ?_
  refine g_st (st' := [.int (a 5), .ref (xa X 32 0)]) (by rw [ha]) ?_
  refine g_j (r0 := ()) (j_callSW (As := [.ref (xa X 32 0), .int (a 5)]) (st := []) C Pv R0 (kX2_appendNumber (xl X) (a 5) H.1.2.1) (Nat.zero_le _) mmX2_appendNumber q1917 q1916 rfl rfl rfl (Nat.le_of_ble_eq_true rfl) ⟨Nat.le_of_ble_eq_true rfl, Nat.le_of_ble_eq_true rfl, by omega, by omega⟩ dX2_appendTo_49 (r := ()) h1 (fun w Cw => ?_))
  have f0 := apS_o _ h1 9 n (by decide) (by decide)
  have t := tT_52 hn H Cw (pv_sx Pv) (fenM_sx E) (ca := ca + 2) (sl := sl + 280) (by omega) (by omega) (f0.1.trans ha) (f0.2.trans hb) h2
  rw [xa_sx (κ := 9) (by decide), xa_sx (κ := 32) (by decide)] at t
  exact t
theorem tT_36 {X : CX} {ad0 : Nat → Nat → Nat} {n ca sl : Nat} {μ μe : Mem} {a : Nat → Int32} {b : Nat → Nat} (hn : n < 66) (H : IOK a b) (C : Ok X RX2 cX2_appendTo) (Pv : PV X) (E : FenM ad0 X none none μe 7 205 19 2660) (hc : ca + 12 ≤ 19) (hs : sl + 1680 ≤ 2660) (ha : μ.1 9 n = a) (hb : μ.2.1 9 n = b) (h : apS (rs36 a b) μ = some ((), μe)) : J X ca sl μ 36 [(0, .ref (xa X 9 n)), (1, .ref (xa X 32 0))] [] := by
  have R0 := fenM_rm E
  obtain ⟨μ1, h1, h2⟩ := apS_split _ _ h
  refine j_g (r0 := ()) ?_
  refine s_aload_n C dX2_appendTo_36 rfl 1 rfl ?_
  refine s_aload_n C dX2_appendTo_37 rfl 0 rfl ?_
  refine s_getM C (fgX2_30_9 _) hn dX2_appendTo_38 ?_
  refine g_st (st' := [.ref (xa X 50 (b 4)), .ref (xa X 32 0)]) (by rw [hb]) ?_
  refine g_j (r0 := ()) (j_callSW (As := [.ref (xa X 32 0), .ref (xa X 50 (b 4))]) (st := []) C Pv R0 (kX2_appendWord (xl X) (b 4) H.2.2.2.2) (Nat.zero_le _) mmX2_appendWord q1934 q1933 rfl rfl rfl (Nat.le_of_ble_eq_true rfl) ⟨Nat.le_of_ble_eq_true rfl, Nat.le_of_ble_eq_true rfl, by omega, by omega⟩ dX2_appendTo_41 (r := ()) h1 (fun w Cw => ?_))
  have f0 := apS_o _ h1 9 n (by decide) (by decide)
  have t := tT_44 hn H Cw (pv_sx Pv) (fenM_sx E) (ca := ca + 2) (sl := sl + 280) (by omega) (by omega) (f0.1.trans ha) (f0.2.trans hb) h2
  rw [xa_sx (κ := 9) (by decide), xa_sx (κ := 32) (by decide)] at t
  exact t
theorem tT_28 {X : CX} {ad0 : Nat → Nat → Nat} {n ca sl : Nat} {μ μe : Mem} {a : Nat → Int32} {b : Nat → Nat} (hn : n < 66) (H : IOK a b) (C : Ok X RX2 cX2_appendTo) (Pv : PV X) (E : FenM ad0 X none none μe 7 205 19 2660) (hc : ca + 14 ≤ 19) (hs : sl + 1960 ≤ 2660) (ha : μ.1 9 n = a) (hb : μ.2.1 9 n = b) (h : apS (rs28 a b) μ = some ((), μe)) : J X ca sl μ 28 [(0, .ref (xa X 9 n)), (1, .ref (xa X 32 0))] [] := by
  have R0 := fenM_rm E
  obtain ⟨μ1, h1, h2⟩ := apS_split _ _ h
  refine j_g (r0 := ()) ?_
  refine s_aload_n C dX2_appendTo_28 rfl 1 rfl ?_
  refine s_aload_n C dX2_appendTo_29 rfl 0 rfl ?_
  refine s_getM C (fgX2_27_9 _) hn dX2_appendTo_30 ?_
  refine g_st (st' := [.ref (xa X 50 (b 3)), .ref (xa X 32 0)]) (by rw [hb]) ?_
  refine g_j (r0 := ()) (j_callSW (As := [.ref (xa X 32 0), .ref (xa X 50 (b 3))]) (st := []) C Pv R0 (kX2_appendWord (xl X) (b 3) H.2.2.2.1) (Nat.zero_le _) mmX2_appendWord q1934 q1933 rfl rfl rfl (Nat.le_of_ble_eq_true rfl) ⟨Nat.le_of_ble_eq_true rfl, Nat.le_of_ble_eq_true rfl, by omega, by omega⟩ dX2_appendTo_33 (r := ()) h1 (fun w Cw => ?_))
  have f0 := apS_o _ h1 9 n (by decide) (by decide)
  have t := tT_36 hn H Cw (pv_sx Pv) (fenM_sx E) (ca := ca + 2) (sl := sl + 280) (by omega) (by omega) (f0.1.trans ha) (f0.2.trans hb) h2
  rw [xa_sx (κ := 9) (by decide), xa_sx (κ := 32) (by decide)] at t
  exact t
theorem tT_20 {X : CX} {ad0 : Nat → Nat → Nat} {n ca sl : Nat} {μ μe : Mem} {a : Nat → Int32} {b : Nat → Nat} (hn : n < 66) (H : IOK a b) (C : Ok X RX2 cX2_appendTo) (Pv : PV X) (E : FenM ad0 X none none μe 7 205 19 2660) (hc : ca + 16 ≤ 19) (hs : sl + 2240 ≤ 2660) (ha : μ.1 9 n = a) (hb : μ.2.1 9 n = b) (h : apS (rs20 a b) μ = some ((), μe)) : J X ca sl μ 20 [(0, .ref (xa X 9 n)), (1, .ref (xa X 32 0))] [] := by
  have R0 := fenM_rm E
  obtain ⟨μ1, h1, h2⟩ := apS_split _ _ h
  refine j_g (r0 := ()) ?_
  refine s_aload_n C dX2_appendTo_20 rfl 1 rfl ?_
  refine s_aload_n C dX2_appendTo_21 rfl 0 rfl ?_
  refine s_getM C (fgX2_24_9 _) hn dX2_appendTo_22 ?_
  refine g_st (st' := [.ref (xa X 50 (b 2)), .ref (xa X 32 0)]) (by rw [hb]) ?_
  refine g_j (r0 := ()) (j_callSW (As := [.ref (xa X 32 0), .ref (xa X 50 (b 2))]) (st := []) C Pv R0 (kX2_appendWord (xl X) (b 2) H.2.2.1) (Nat.zero_le _) mmX2_appendWord q1934 q1933 rfl rfl rfl (Nat.le_of_ble_eq_true rfl) ⟨Nat.le_of_ble_eq_true rfl, Nat.le_of_ble_eq_true rfl, by omega, by omega⟩ dX2_appendTo_25 (r := ()) h1 (fun w Cw => ?_))
  have f0 := apS_o _ h1 9 n (by decide) (by decide)
  have t := tT_28 hn H Cw (pv_sx Pv) (fenM_sx E) (ca := ca + 2) (sl := sl + 280) (by omega) (by omega) (f0.1.trans ha) (f0.2.trans hb) h2
  rw [xa_sx (κ := 9) (by decide), xa_sx (κ := 32) (by decide)] at t
  exact t
theorem tT_12 {X : CX} {ad0 : Nat → Nat → Nat} {n ca sl : Nat} {μ μe : Mem} {a : Nat → Int32} {b : Nat → Nat} (hn : n < 66) (H : IOK a b) (C : Ok X RX2 cX2_appendTo) (Pv : PV X) (E : FenM ad0 X none none μe 7 205 19 2660) (hc : ca + 18 ≤ 19) (hs : sl + 2520 ≤ 2660) (ha : μ.1 9 n = a) (hb : μ.2.1 9 n = b) (h : apS (rs12 a b) μ = some ((), μe)) : J X ca sl μ 12 [(0, .ref (xa X 9 n)), (1, .ref (xa X 32 0))] [] := by
  have R0 := fenM_rm E
  obtain ⟨μ1, h1, h2⟩ := apS_split _ _ h
  refine j_g (r0 := ()) ?_
  refine s_aload_n C dX2_appendTo_12 rfl 1 rfl ?_
  refine s_aload_n C dX2_appendTo_13 rfl 0 rfl ?_
  refine s_getI C (fgX2_20_9 _) hn dX2_appendTo_14 ?_
  refine g_st (st' := [.int (a 1), .ref (xa X 32 0)]) (by rw [ha]) ?_
  refine g_j (r0 := ()) (j_callSW (As := [.ref (xa X 32 0), .int (a 1)]) (st := []) C Pv R0 (kX2_appendNumber (xl X) (a 1) H.1.1) (Nat.zero_le _) mmX2_appendNumber q1917 q1916 rfl rfl rfl (Nat.le_of_ble_eq_true rfl) ⟨Nat.le_of_ble_eq_true rfl, Nat.le_of_ble_eq_true rfl, by omega, by omega⟩ dX2_appendTo_17 (r := ()) h1 (fun w Cw => ?_))
  have f0 := apS_o _ h1 9 n (by decide) (by decide)
  have t := tT_20 hn H Cw (pv_sx Pv) (fenM_sx E) (ca := ca + 2) (sl := sl + 280) (by omega) (by omega) (f0.1.trans ha) (f0.2.trans hb) h2
  rw [xa_sx (κ := 9) (by decide), xa_sx (κ := 32) (by decide)] at t
  exact t
theorem kX2_appendTo (l : Launch) (n : Nat) (hn : n < 66) : KonW 0 l yX2_appendTo cX2_appendTo 2 none 7 205 19 2660 (fun ad => [.ref (ad 9 n), .ref (ad 32 0)]) rvV (fun μ => grd (IOK (μ.1 9 n) (μ.2.1 9 n)) (apS (rsI (μ.1 9 n) (μ.2.1 9 n)) μ)) := by
  refine konW_of (by decide) (fun _ => Nat.le_of_ble_eq_true rfl) (fun X r μ hXl hXn V C Pv E hfr => ?_)
  have R0 := fenM_rm E
  obtain ⟨⟨⟩, μe⟩ := r
  obtain ⟨H, h⟩ := grd_inv hfr
  obtain ⟨a1, h1⟩ := apS_cons h
  refine j_g (r0 := ()) ?_
  show G X () 0 0 μ 0 [(0, .ref (xa X 9 n)), (1, .ref (xa X 32 0))] [] (some ())
  refine s_aload_n C dX2_appendTo_0 rfl 1 rfl ?_
  refine s_aload_n C dX2_appendTo_1 rfl 0 rfl ?_
  refine s_getM C (fgX2_15_9 _) hn dX2_appendTo_2 ?_
  refine s_symt C H.2.1 q2917 dX2_appendTo_5 ?_
  refine g_j (r0 := ()) (j_callVW (As := [.ref (xa X 51 (syT.getD (μ.2.1 9 n 0) 0))]) (st := []) C Pv R0 (kJ4_append_15ec4 (xl X) (cn μ) (syT.getD (μ.2.1 9 n 0) 0) (syT_lt _)) (Nat.zero_le _) mmJ4_append_15ec4 miJ4_append_15ec4 q1915 (rc32 _) (by decide) rfl rfl rfl (Nat.le_of_ble_eq_true rfl) ⟨Nat.le_of_ble_eq_true rfl, Nat.le_of_ble_eq_true rfl, Nat.le_of_ble_eq_true rfl, Nat.le_of_ble_eq_true rfl⟩ dX2_appendTo_8 (r := ()) (μ' := apB (cn μ) (txN.getD (syT.getD (μ.2.1 9 n 0) 0) 0) (txb (syT.getD (μ.2.1 9 n 0) 0)) μ) (grd_ok a1) (fun w Cw => ?_))
  refine j_g (r0 := ()) ?_
  show G (sx w X) () 1 140 (apB (cn μ) (txN.getD (syT.getD (μ.2.1 9 n 0) 0) 0) (txb (syT.getD (μ.2.1 9 n 0) 0)) μ) 11 [(0, .ref (xa X 9 n)), (1, .ref (xa X 32 0))] [.ref (xa X 32 0)] (some ())
  refine s_pop Cw dX2_appendTo_11 rfl ?_
  have t := tT_12 hn H Cw (pv_sx Pv) (fenM_sx E) (ca := 1) (sl := 140) (by decide) (by decide) (funext fun k => apB_o (by omega) (by omega)) (apB_r (by omega)) h1
  rw [xa_sx (κ := 9) (by decide), xa_sx (κ := 32) (by decide)] at t
  exact g_j t
/-- the class's format, where the address is good -/
noncomputable def fFm (c x : Nat) (μ : Mem) : Option (Int32 × Mem) := grd ((μ.2.1 0 0 4 < 2 ∧ x < 32 ∧ nI x < μ.1 5 (μ.2.1 0 0 4) 0) ∧ SBQ c μ ∧ IOK (μ.1 9 (33 * μ.2.1 0 0 4 + x)) (μ.2.1 9 (33 * μ.2.1 0 0 4 + x))) (bnd (apS (rsI (μ.1 9 (33 * μ.2.1 0 0 4 + x)) (μ.2.1 9 (33 * μ.2.1 0 0 4 + x))) (stL c μ)) fun _ μ1 => some (μ1.1 32 0 3, μ1))
theorem stL_o {c a b k : Nat} {μ : Mem} (h : a ≠ 32) : (stL c μ).1 a b k = μ.1 a b k := by
  unfold stL
  rw [wI_o (by omega)]
  split
  · rfl
  · exact wI_o (by omega)
theorem stL_r {c : Nat} {μ : Mem} : (stL c μ).2 = μ.2 := by
  unfold stL
  split <;> rfl
theorem chk_ok {μ : Mem} {x : Nat} (h1 : μ.2.1 0 0 4 < 2) (h2 : x < 32) (h3 : nI x < μ.1 5 (μ.2.1 0 0 4) 0) : fX12_checkAddress 0 (nI x) μ = some (.inr (), μ) := by
  unfold fX12_checkAddress
  rw [jn_eq, if_neg (nI_pos (by omega)), nm_eq, ckB, if_pos h1, if_pos h3]
theorem ins_ok {μ : Mem} {p x : Nat} (h2 : x < 32) (h3 : nI x < μ.1 5 p 0) : fX4_instructionAt p (nI x) μ = some (33 * p + x, μ) := by
  unfold fX4_instructionAt
  rw [jn_eq, jn_eq, if_neg (nI_pos (by omega)), if_pos h3, ckI_nI h2 (by omega), nI_clamp (by omega)]
theorem tF_ {X : CX} {ad0 : Nat → Nat → Nat} {μ : Mem} {x : Nat} (C : Ok X RX12 cX12_format) (E : FenM ad0 X (some .int) (some (.int (μ.1 32 0 3))) μ 8 226 20 2666) : J X 20 2666 μ 28 [(0, .ref (xa X 0 0)), (1, .int (nI x))] [] := by
  have R0 := fenM_rm E
  refine j_g (r0 := ()) ?_
  refine s_aload_n C dX12_format_28 rfl 0 rfl ?_
  refine s_getF C (fgX12_96_0 _) (by decide) dX12_format_29 ?_
  refine b_call (r := μ.1 32 0 3) (μ' := μ) rfl (s_callV (n := 0) (As := []) (st := []) C R0 (kJ4_length_8abf5 (xl X)) (Nat.zero_le _) mmJ4_length_8abf5 miJ4_length_8abf5 q827 (rc32 _) (by decide) rfl rfl rfl (Nat.le_of_ble_eq_true rfl) ⟨Nat.le_of_ble_eq_true rfl, Nat.le_of_ble_eq_true rfl, Nat.le_of_ble_eq_true rfl, Nat.le_of_ble_eq_true rfl⟩ dX12_format_32 (fun r2 μ2 hq => ?_))
  obtain ⟨e2, e3⟩ := grd_inv hq
  cases e2
  exact j_iretM C E rfl (Nat.le_refl _) (Nat.le_refl _) dX12_format_35
theorem kX12_format (l : Launch) (hls : l.stackTraces = false) (c x : Nat) : KonW 0 l yX12_format cX12_format 2 (some .int) 8 226 20 2666 (fun ad => [.ref (ad 0 0), .int (nI x)]) rvI (fun μ => fFm c x μ) := by
  refine konW_of (by decide) (fun _ => Nat.le_of_ble_eq_true rfl) (fun X r μ hXl hXn V C Pv E hfr => ?_)
  have R0 := fenM_rm E
  have hT : (xl X).stackTraces = false := hXl.symm ▸ hls
  obtain ⟨⟨⟨h1, h2, h3⟩, hS, H⟩, h⟩ := grd_inv hfr
  obtain ⟨⟨⟨⟩, μe⟩, h4, h5⟩ := Option.bind_eq_some_iff.mp h
  have h5 : some (μe.1 32 0 3, μe) = some r := h5
  cases h5
  refine j_g (r0 := ()) ?_
  show G X () 0 0 μ 0 [(0, .ref (xa X 0 0)), (1, .int (nI x))] [] (some ())
  refine s_aload_n C dX12_format_0 rfl 0 rfl ?_
  refine s_iload_n C dX12_format_1 rfl 1 rfl ?_
  refine g_j (r0 := ()) (j_callVr (n := 1) (As := [.int (nI x)]) (st := []) (r := ()) (μ' := μ) C R0 (kX12_checkAddress (xl X) hT 0 (by decide) (nI x)) (Nat.zero_le _) mmX12_checkAddress miX12_checkAddress q1664 (rc0 _) (by decide) rfl rfl rfl (Nat.le_of_ble_eq_true rfl) ⟨Nat.le_of_ble_eq_true rfl, Nat.le_of_ble_eq_true rfl, Nat.le_of_ble_eq_true rfl, Nat.le_of_ble_eq_true rfl⟩ dX12_format_2 (chk_ok h1 h2 h3) ?_)
  refine j_g (r0 := ()) ?_
  show G X () 1 6 μ 5 [(0, .ref (xa X 0 0)), (1, .int (nI x))] [] (some ())
  refine s_aload_n C dX12_format_5 rfl 0 rfl ?_
  refine s_getF C (fgX12_96_0 _) (by decide) dX12_format_6 ?_
  refine s_iconst (v := (0 : Int32)) C dX12_format_9 (by decide) ?_
  refine b_call (r := ()) (μ' := stL c μ) (grd_ok hS) (s_callVP (n := 1) (As := [.int 0]) (st := []) C Pv R0 (kJ4_setLength_d00df (xl X) c) (Nat.zero_le _) mmJ4_setLength_d00df miJ4_setLength_d00df q1701 (rc32 _) (by decide) rfl rfl rfl (Nat.le_of_ble_eq_true rfl) ⟨Nat.le_of_ble_eq_true rfl, Nat.le_of_ble_eq_true rfl, Nat.le_of_ble_eq_true rfl, Nat.le_of_ble_eq_true rfl⟩ dX12_format_10 (fun r2 μ2 hq => ?_))
  obtain ⟨e2, e3⟩ := grd_inv hq
  cases e2
  revert e3
  show G X () 1 6 (stL c μ) 13 [(0, .ref (xa X 0 0)), (1, .int (nI x))] [] (some ())
  refine s_aload_n C dX12_format_13 rfl 0 rfl ?_
  refine s_getM C (fgX12_32_0 _) (by decide) dX12_format_14 ?_
  refine g_st (st' := [.ref (xa X 5 (μ.2.1 0 0 4))]) (by rw [stL_r]) ?_
  refine s_iload_n C dX12_format_17 rfl 1 rfl ?_
  refine b_call (r := 33 * μ.2.1 0 0 4 + x) (μ' := stL c μ) (ins_ok h2 (by rw [stL_o (by decide)]; exact h3)) (s_callV (n := 1) (As := [.int (nI x)]) (st := []) C R0 (kX4_instructionAt (xl X) (μ.2.1 0 0 4) h1 (nI x)) (Nat.zero_le _) mmX4_instructionAt miX4_instructionAt q1910 (rc5 _) h1 rfl rfl rfl (Nat.le_of_ble_eq_true rfl) ⟨Nat.le_of_ble_eq_true rfl, Nat.le_of_ble_eq_true rfl, Nat.le_of_ble_eq_true rfl, Nat.le_of_ble_eq_true rfl⟩ dX12_format_18 (fun r2 μ2 hq => ?_))
  obtain ⟨e2, e3⟩ := grd_inv hq
  cases e2
  revert e3
  show G X () 1 6 (stL c μ) 21 [(0, .ref (xa X 0 0)), (1, .int (nI x))] [.ref (xa X 9 (33 * μ.2.1 0 0 4 + x))] (some ())
  refine s_aload_n C dX12_format_21 rfl 0 rfl ?_
  refine s_getF C (fgX12_96_0 _) (by decide) dX12_format_22 ?_
  have e9 : (stL c μ).1 9 (33 * μ.2.1 0 0 4 + x) = μ.1 9 (33 * μ.2.1 0 0 4 + x) := funext fun k => stL_o (by decide)
  have e9' : (stL c μ).2.1 9 (33 * μ.2.1 0 0 4 + x) = μ.2.1 9 (33 * μ.2.1 0 0 4 + x) := by rw [stL_r]
  refine g_j (r0 := ()) (j_callVW (n := 1) (As := [.ref (xa X 32 0)]) (st := []) C Pv R0 (kX2_appendTo (xl X) (33 * μ.2.1 0 0 4 + x) (by omega)) (Nat.zero_le _) mmX2_appendTo miX2_appendTo q1911 (rc9 _) (by omega) rfl rfl rfl (Nat.le_of_ble_eq_true rfl) ⟨Nat.le_of_ble_eq_true rfl, Nat.le_of_ble_eq_true rfl, Nat.le_of_ble_eq_true rfl, Nat.le_of_ble_eq_true rfl⟩ dX12_format_25 (r := ()) (μ' := μe) (by show grd (IOK ((stL c μ).1 9 (33 * μ.2.1 0 0 4 + x)) ((stL c μ).2.1 9 (33 * μ.2.1 0 0 4 + x))) (apS (rsI ((stL c μ).1 9 (33 * μ.2.1 0 0 4 + x)) ((stL c μ).2.1 9 (33 * μ.2.1 0 0 4 + x))) (stL c μ)) = _; rw [e9, e9', grd_ok H]; exact h4) (fun w Cw => ?_))
  have t := tF_ (x := x) Cw (fenM_sx E)
  rw [xa_sx (κ := 0) (by decide)] at t
  exact t
theorem kX_X12_format (l : Launch) (hls : l.stackTraces = false) (x : Int32) : KonX 0 l yX12_format cX12_format 2 (some .int) 7 110 1 6 (fun ad => [.ref (ad 0 0), .int x]) rvI (fun μ => bndX (fX12_checkAddress 0 x μ) fun _ _ => none) := by
  refine konX_of (by decide) (fun _ => Nat.le_of_ble_eq_true rfl) (fun X r0 μ hXl hXn V C E => ?_)
  have hT : (xl X).stackTraces = false := hXl.symm ▸ hls
  show G X r0 0 0 μ 0 [(0, .ref (xa X 0 0)), (1, .int x)] [] (bndX (fX12_checkAddress 0 x μ) fun _ _ => none)
  refine s_aload_n C dX12_format_0 rfl 0 rfl ?_
  refine s_iload_n C dX12_format_1 rfl 1 rfl ?_
  exact s_callVX (n := 1) (As := [.int x]) (st := []) C E (kX12_checkAddress (xl X) hT 0 (by decide) x) (Nat.zero_le _) mmX12_checkAddress miX12_checkAddress q1664 (rc0 _) (by decide) rfl rfl rfl (Nat.le_of_ble_eq_true rfl) ⟨Nat.le_of_ble_eq_true rfl, Nat.le_of_ble_eq_true rfl, Nat.le_of_ble_eq_true rfl, Nat.le_of_ble_eq_true rfl⟩ dX12_format_2 (fun _ _ => g_none)
