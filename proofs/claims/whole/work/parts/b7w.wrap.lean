/-! THE LAW'S WRAPPER OF format, AND ITS CASE 38 -/
theorem q1695 : (Cond.static ({ cls := "PinEnginesLaw", name := "format", desc := "(LPinEngines;I[J)I" } : Jvm.MethodName)) ∈ tb := tb_of (lw_c7 (List.mem_of_getElem? (i := 101) (by decide +kernel))) rfl
theorem q1696 : (Cond.codeWith ({ cls := "PinEnginesLaw", name := "format", desc := "(LPinEngines;I[J)I" } : Jvm.MethodName) method_35_code (4 : Nat) (Option.some Jvm.ClassFile.FieldType.int) [((0 : Nat), (9 : Nat), (12 : Nat), (18 : Nat))]) ∈ tb := tb_of (lw_c7 (List.mem_of_getElem? (i := 102) (by decide +kernel))) rfl
theorem q1698 : (Cond.instanceMethod ({ cls := "PinEngines", name := "format", desc := "(I)I" } : Jvm.MethodName)) ∈ tb := tb_of (lw_c7 (List.mem_of_getElem? (i := 104) (by decide +kernel))) rfl
theorem q1699 : (Cond.selects "PinEngines" ({ cls := "PinEngines", name := "format", desc := "(I)I" } : Jvm.MethodName) ({ cls := "PinEngines", name := "format", desc := "(I)I" } : Jvm.MethodName)) ∈ tb := tb_of (lw_c7 (List.mem_of_getElem? (i := 105) (by decide +kernel))) rfl
theorem q1700 : (Cond.code ({ cls := "PinEngines", name := "format", desc := "(I)I" } : Jvm.MethodName) prog_1_method_40_code (2 : Nat) (Option.some Jvm.ClassFile.FieldType.int)) ∈ tb := tb_of (lw_c7 (List.mem_of_getElem? (i := 106) (by decide +kernel))) rfl
theorem q2809 : (Cond.instanceMethod ({ cls := "PinEnginesModel", name := "format", desc := "(I)I" } : Jvm.MethodName)) ∈ tb := tb_of (lw_c12 (List.mem_of_getElem? (i := 15) (by decide +kernel))) rfl
theorem q2810 : (Cond.selects "PinEnginesModel" ({ cls := "PinEnginesModel", name := "format", desc := "(I)I" } : Jvm.MethodName) ({ cls := "PinEnginesModel", name := "format", desc := "(I)I" } : Jvm.MethodName)) ∈ tb := tb_of (lw_c12 (List.mem_of_getElem? (i := 16) (by decide +kernel))) rfl
theorem q2811 : (Cond.code ({ cls := "PinEnginesModel", name := "format", desc := "(I)I" } : Jvm.MethodName) prog_15_method_151_code (3 : Nat) (Option.some Jvm.ClassFile.FieldType.int)) ∈ tb := tb_of (lw_c12 (List.mem_of_getElem? (i := 17) (by decide +kernel))) rfl
theorem miX12_format : MI yX12_format := ⟨q1698, q1699⟩
theorem miX13_format : MI yX13_format := ⟨q2809, q2810⟩
theorem mmX12_format : MM yX12_format cX12_format 2 (some .int) 1 := ⟨q155, q1700, by decide +kernel, by decide +kernel, by decide +kernel⟩
theorem mmX13_format : MM yX13_format cX13_format 3 (some .int) 1 := ⟨q173, q2811, by decide +kernel, by decide +kernel, by decide +kernel⟩
/-- a method with a table of its own that returns, and moves the bytes -/
def KonHM {β : Type} (vm : Nat) (l : Launch) (y : MethodName) (cc : ByteArray) (mL : Nat) (rt : Option FieldType) (hh : List (Nat × Nat × Nat × Nat)) (fr lo mc ms : Nat) (av : (Nat → Nat → Nat) → List Value) (rv : (Nat → Nat → Nat) → β → Option Value) (f : Mem → Option (β × Mem)) : Prop :=
  ∀ (vv : Nat) (_ : vm ≤ vv) (D : va_G) (ad : Nat → Nat → Nat) (ty : Nat → ClassId) (μ : Mem) (sz : Nat) (r : β × Mem), f μ = some r → Met l y (Cond.codeWith y cc mL rt hh :: tb) (rm4 fr lo mc ms) (KPP vv D ad ty μ sz (av ad)) (KQM vv D ad ty r.2 (rv ad r.1) (va_A (wl vv ad ty μ) sz)) mc ms (va_A (wl vv ad ty μ) sz)
theorem konHM_of {β : Type} {vm : Nat} {l : Launch} {y : MethodName} {cc : ByteArray} {mL : Nat} {rt : Option FieldType} {hh : List (Nat × Nat × Nat × Nat)} {fr lo mc ms : Nat} {av : (Nat → Nat → Nat) → List Value} {rv : (Nat → Nat → Nat) → β → Option Value} {f : Mem → Option (β × Mem)} (hy : plainName y.cls = true) (hlen : ∀ ad : Nat → Nat → Nat, (lg_sl (av ad)).length ≤ mL)
    (body : ∀ (X : CX) (r : β × Mem) (μ : Mem), xl X = l → xn X = mL → vm ≤ xv X → Ok X y.cls cc → PV X → FenM (xa X) X rt (rv (xa X) r.1) r.2 fr lo mc ms → f μ = some r → J X 0 0 μ 0 (lv_args 0 (av (xa X))) []) : KonHM vm l y cc mL rt hh fr lo mc ms av rv f := by
  intro vv hvv D ad ty μ sz r hf
  refine met_ofWH (cc := cc) (maxL := mL) (ret := rt) hy rfl ?_
  intro p e s m args below meth c s₁ B hml htab hv
  obtain ⟨⟨rfl, hsz, hP, hK, hD0, hZ⟩, hV⟩ := hv
  subst hsz
  have hts := atoms_spec (ws := Cond.codeWith y cc mL rt hh :: tb) B.pre
  have h1 := body (p, l, e, (headSpec (Cond.codeWith y cc mL rt hh :: tb) (rm4 fr lo mc ms)).room, s, m, (av ad).toArray, below, meth, c, D, ad, ty, va_A (wl vv ad ty μ) s.heap.size, MQ below (KQM vv D ad ty r.2 (rv ad r.1) (va_A (wl vv ad ty μ) s.heap.size)) (av ad).toArray s mc ms (va_A (wl vv ad ty μ) s.heap.size), mL, vv) r μ rfl rfl hvv
    ⟨B.exec, B.bytes, hml, findClass_of_methodNamed B.named, fun w hw => hts w (List.mem_cons_of_mem _ hw), hK, fun μ' => wl_fst μ' hD0.self, fun q h => Or.inr h, B.notSynchronized, hZ⟩ hV ⟨⟨_, am_self.symm⟩, B.returns, rfl, rfl⟩ hf s.heap [] _ hP va_S.rf (lv_entry (av ad) (hlen ad))
  rw [lg_entry_eq]
  exact h1
section CallHM
variable {X : CX} {own : String} {cc : ByteArray} {β : Type} {ca sl fr lo fr1 lo1 mcX msX mc ms : Nat} {μ : Mem} {pc : Nat} {L : List (Nat × Value)} {st stk As : List Value} {rt : Option FieldType}
variable {y : MethodName} {bytes : ByteArray} {mL n ix vm1 : Nat} {hh : List (Nat × Nat × Nat × Nat)} {av : (Nat → Nat → Nat) → List Value} {rv : (Nat → Nat → Nat) → β → Option Value} {f : Mem → Option (β × Mem)}
theorem j_callHM (C : Ok X own cc) (Pv : PV X) (E : Rm X fr lo mcX msX) (hk : KonHM vm1 (xl X) y bytes mL rt hh fr1 lo1 mc ms av rv f) (hv1 : vm1 ≤ xv X) (m1 : Cond.initialized y.cls ∈ tb) (m2 : Cond.codeWith y bytes mL rt hh ∈ tb) (m3 : y.cls ≠ "java/lang/invoke/MethodHandle" ∧ y.cls ≠ "java/lang/invoke/VarHandle" ∧ (parseMethodDescriptor y.desc).map (fun d => d.parameters.length) = some n) (hI : Cond.static y ∈ tb) (hl : Cond.methodLink own ix y ∈ tb)
    (hav : av (xa X) = As) (hstk : stk = As.reverse ++ st) (hn : As.length = n) (hst : (st.map fun v => v.category).sum ≤ 8) (hroom : fr1 + 1 ≤ fr ∧ 8 + (mL + 11) + lo1 ≤ lo ∧ ca + mc ≤ mcX ∧ sl + ms ≤ msX) (hd : decode cc pc = .ok (.invokestatic ix, 3)) {r : β} {μ' : Mem} (hf : f μ = some (r, μ'))
    (kk : ∀ w : Nat, Ok (sx w X) own cc → J (sx w X) (ca + mc) (sl + ms) μ' (pc + 3) L ((rv (xa X) r).toList ++ st)) : J X ca sl μ pc L stk := by
  obtain ⟨p, l, e, R, s, m, args, below, meth, c, D, ad, ty, A, Q, nL, vv⟩ := X
  have Pv : PVs s := Pv
  obtain ⟨hx, hb, hml, hown, hts, hK, hD, hA, hlk, hZ⟩ := C
  have hRX : R = rm4 fr lo mcX msX := E
  subst hRX
  intro H locs ls hP hS hl'
  have hav' : av ad = As := hav
  have hmet := hk vv hv1 D ad ty μ H.size (r, μ') hf
  rw [hav'] at hmet
  have hin : ∀ w ∈ (Cond.codeWith y bytes mL rt hh :: tb : List Cond), w ∈ tb := fun w hw => by
    rcases List.mem_cons.mp hw with e | e
    · rw [e]; exact m2
    · exact e
  exact run_goM (v := rv ad r) (μ1 := μ') (vx_runSW (hh := hh) (As := As) (rest := st) ⟨hx, hb, hml, hown, hts⟩ hmet ⟨⟨rfl, rfl, hroom.1, hroom.2.1, pay_in hts (tb_goodIn hin), List.mem_cons_self⟩, hts _ m2, hts _ m1, ⟨m3.1, m3.2.1⟩, fun sig h => by have h5 := m3.2.2; rw [h] at h5; exact (Option.some.inj h5).symm, hts _ hl, hts _ hI⟩ ⟨kpp_blind, kpp_pre Pv hP hK (hD μ) hS hA hZ⟩ rfl hn hl'.1 hstk (lv_room hst) hd ⟨hroom.2.2.1, hroom.2.2.2⟩) hS (wl_A (hD μ) hS hA) (fun w H1 locs1 hP1 hD1 hS1 => kk w ⟨hx, hb, hml, hown, hts, hK, fun μ' => wl_fst μ' hD1, hA, hlk, hZ.am⟩ H1 locs1 ls hP1 hS1 hl')
end CallHM
/-- the wrapper, where the address is good -/
noncomputable def fLg (c x : Nat) (μ : Mem) : Option (Int32 × Mem) := bnd (fFm c x μ) fun v μ1 => some ((0 : Int32), wJ μ1 31 0 (0 : Int32).toNatClampNeg v.toInt64)
theorem xv_sx2 {X : CX} {w : Nat} (h : 2 ≤ xv X) : 2 ≤ xv (sx w X) := by rw [xv_sx]; exact h
theorem kLg_format (l : Launch) (hls : l.stackTraces = false) (c x : Nat) : KonHM 2 l yL_format cL_format 4 (some .int) [(0, 9, 12, 18)] 9 247 20 2666 (fun ad => [.ref (ad 0 0), .int (nI x), .ref (ad 31 0)]) rvI (fun μ => fLg c x μ) := by
  refine konHM_of (by decide) (fun _ => Nat.le_of_ble_eq_true rfl) (fun X r μ hXl hXn V C Pv E hfr => ?_)
  have R0 := fenM_rm E
  have hT : (xl X).stackTraces = false := hXl.symm ▸ hls
  obtain ⟨⟨v, μ1⟩, h1, h2⟩ := Option.bind_eq_some_iff.mp hfr
  have h2 : some ((0 : Int32), wJ μ1 31 0 (0 : Int32).toNatClampNeg v.toInt64) = some r := h2
  cases h2
  refine j_g (r0 := ()) ?_
  show G X () 0 0 μ 0 [(0, .ref (xa X 0 0)), (1, .int (nI x)), (2, .ref (xa X 31 0))] [] (some ())
  refine s_aload_n C dL_format_0 rfl 2 rfl ?_
  refine s_iconst (v := (0 : Int32)) C dL_format_1 (by decide) ?_
  refine s_aload_n C dL_format_2 rfl 0 rfl ?_
  refine s_iload_n C dL_format_3 rfl 1 rfl ?_
  refine g_j (r0 := ()) (j_callVW (n := 1) (As := [.int (nI x)]) (st := [.int 0, .ref (xa X 31 0)]) C Pv R0 (kX12_format (xl X) hT c x) (Nat.zero_le _) mmX12_format miX12_format q1697 (rc0 _) (by decide) rfl rfl rfl (Nat.le_of_ble_eq_true rfl) ⟨Nat.le_of_ble_eq_true rfl, Nat.le_of_ble_eq_true rfl, Nat.le_of_ble_eq_true rfl, Nat.le_of_ble_eq_true rfl⟩ dL_format_4 (r := v) (μ' := μ1) h1 (fun w Cw => ?_))
  refine j_g (r0 := ()) ?_
  show G (sx w X) () 20 2666 μ1 7 [(0, .ref (xa X 0 0)), (1, .int (nI x)), (2, .ref (xa X 31 0))] [.int v, .int 0, .ref (xa X 31 0)] (some ())
  rw [show xa X 0 0 = xa (sx w X) 0 0 from (xa_sx (by decide)).symm, show xa X 31 0 = xa (sx w X) 31 0 from (xa_sx (by decide)).symm]
  refine s_i2l Cw dL_format_7 ?_
  refine g_eqo (o' := ckI (0 : Int32) 1 (some ())) (if_pos (by decide)).symm ?_
  refine s_last Cw (ag31 (xv_sx2 V)) (by decide) dL_format_8 ?_
  refine s_goto (tgt := 15) Cw dL_format_9 (by decide) ?_
  refine s_iconst (v := (0 : Int32)) Cw dL_format_15 (by decide) ?_
  exact g_j (j_iretM Cw (fenM_sx E) rfl (Nat.le_refl _) (Nat.le_refl _) dL_format_16)
/-- .. and where it is bad -/
def fLb (x : Int32) (μ : Mem) : Option (Int32 × Mem) := catX (bndX (β := Unit) (γ := Int32) (fX12_checkAddress 0 x μ) fun _ _ => none) (fun e3 μ0 => if e3 = 1 then some ((1 : Int32), μ0) else none) fun _ _ => none
theorem kLb_format (l : Launch) (hls : l.stackTraces = false) (x : Int32) : KonH 2 l yL_format cL_format 4 (some .int) [(0, 9, 12, 18)] 8 131 1 6 (fun ad => [.ref (ad 0 0), .int x, .ref (ad 31 0)]) rvI (fun μ => fLb x μ) := by
  refine konH_of (by decide) (fun _ => Nat.le_of_ble_eq_true rfl) (fun X r0 μ hXl hXn V C E TB => ?_)
  have hN : ∀ i : Nat, i < 4 → i < xn X := fun i h => hXn.symm ▸ h
  have R0 := fen_rm E
  have hT : (xl X).stackTraces = false := hXl.symm ▸ hls
  show G X r0 0 0 μ 0 [(0, .ref (xa X 0 0)), (1, .int x), (2, .ref (xa X 31 0))] [] (fLb x μ)
  unfold fLb
  refine s_aload_n C dL_format_0 rfl 2 rfl ?_
  refine s_iconst (v := (0 : Int32)) C dL_format_1 (by decide) ?_
  refine s_aload_n C dL_format_2 rfl 0 rfl ?_
  refine s_iload_n C dL_format_3 rfl 1 rfl ?_
  refine s_callC1 (k0 := 1) C R0 TB (kX_X12_format (xl X) hT x) (Nat.zero_le _) mmX12_format miX12_format q1697 (rc0 _) (by decide) ⟨by decide, by decide⟩ (by decide) q1212 qn1222 rfl rfl rfl (Nat.le_of_ble_eq_true rfl) ⟨Nat.le_of_ble_eq_true rfl, Nat.le_of_ble_eq_true rfl, Nat.le_of_ble_eq_true rfl, Nat.le_of_ble_eq_true rfl⟩ dL_format_4 (fun q μ0 => ?_) (fun e h μ0 => if_neg h) (fun x2 μ1 => g_none)
  refine g_eqo (o' := some ((1 : Int32), μ0)) (by first | rfl | simp) ?_
  refine s_astore_n (L' := [(3, .ref q), (0, .ref (xa X 0 0)), (1, .int x), (2, .ref (xa X 31 0))]) C dL_format_12 rfl (hN 3 (by decide)) rfl ?_
  refine s_iconst (v := (1 : Int32)) C dL_format_13 (by decide) ?_
  exact s_iret C E dL_format_14
/-- case 38 behind the wrapper's answer -/
def tl38 (fu : Nat) (xs : Nat → Int32) (SL : Nat) (i : Int32) (μ : Mem) (x2 : Int32) (μ1 : Mem) : Option Mem :=
  ckI (i + (1 : Int32)) SL <|
  bndJ μ1 (fX13_format fu 0 (xs (i + (1 : Int32)).toNatClampNeg) (kJ μ μ1)) fun x4 μ3 =>
  bndJ μ3 (fX13_thrown 0 (kJ μ μ3)) fun x6 μ5 =>
  if x6 = x2 then (
    jn (fun (μ8 : Mem) =>
      some μ8
    ) fun j2502 =>
    if ¬ x2 = 0 then (
      j2502 μ5
    ) else (
      ckI (0 : Int32) (1) <|
      if (lg_cmp (μ5.2.2 31 0 (0 : Int32).toNatClampNeg) (x4.toInt64)) = 0 then (
        j2502 μ5
      ) else (
        none
      )
    )
  ) else (
    none
  )
set_option maxHeartbeats 4000000 in
set_option maxRecDepth 100000 in
theorem tz38 {X : CX} (hT : (xl X).stackTraces = false) (V : 2 ≤ xv X) (C : Ok X RL cL_law) (R0 : Rm X 2048 84000 601024 7293034) (hN : ∀ i : Nat, i < 8 → i < xn X) {bs SL : Nat} {xs : Nat → Int32} (S : Scr X bs SL xs) (fu : Nat) {ca sl : Nat} (hc : ca ≤ 601024) (hs : sl ≤ 7293034) (i x2 : Int32) (μ μ1 r0 : Mem) (H0 : J X ca sl r0 2636 [(4, .int i), (0, .ref bs), (1, .ref (xa X 0 0)), (2, .ref (xa X 26 0)), (3, .ref (xa X 31 0))] []) : G X r0 ca sl μ1 2460 [(4, .int i), (0, .ref bs), (1, .ref (xa X 0 0)), (2, .ref (xa X 26 0)), (3, .ref (xa X 31 0))] [.int x2] (tl38 fu xs SL i μ x2 μ1) := by
  unfold tl38
  refine s_istore (L' := [(5, .int x2), (4, .int i), (0, .ref bs), (1, .ref (xa X 0 0)), (2, .ref (xa X 26 0)), (3, .ref (xa X 31 0))]) C dL_law_2460 (hN 5 (by decide)) rfl ?_
  refine s_aload_n C dL_law_2462 rfl 4 rfl ?_
  refine s_aload_n C dL_law_2463 rfl 2 rfl ?_
  refine s_iload C dL_law_2464 1 rfl ?_
  refine s_iconst (v := (1 : Int32)) C dL_law_2466 (by decide) ?_
  refine s_iadd C dL_law_2467 ?_
  refine s_sld C S dL_law_2468 ?_
  refine s_callM C R0 V (kX13_format (xl X) fu 0 (by decide) (xs (i + (1 : Int32)).toNatClampNeg)) mmX13_format miX13_format q2808 (rc26 (Nat.le_trans (by decide) V)) (by decide) rfl rfl rfl (Nat.le_of_ble_eq_true rfl) ⟨Nat.le_of_ble_eq_true rfl, Nat.le_of_ble_eq_true rfl, by omega, by omega⟩ dL_law_2469 (fun x4 μ3 => ?_)
  refine g_st (st' := [.int x4]) rfl ?_
  refine s_istore (L' := [(6, .int x4), (5, .int x2), (4, .int i), (0, .ref bs), (1, .ref (xa X 0 0)), (2, .ref (xa X 26 0)), (3, .ref (xa X 31 0))]) C dL_law_2472 (hN 6 (by decide)) rfl ?_
  refine s_aload_n C dL_law_2474 rfl 5 rfl ?_
  refine s_callM C R0 V (kX13_thrown (xl X) 0 (by decide)) mmX13_thrown miX13_thrown q2229 (rc26 (Nat.le_trans (by decide) V)) (by decide) rfl rfl rfl (Nat.le_of_ble_eq_true rfl) ⟨Nat.le_of_ble_eq_true rfl, Nat.le_of_ble_eq_true rfl, by omega, by omega⟩ dL_law_2475 (fun x6 μ5 => ?_)
  refine g_st (st' := [.int x6]) rfl ?_
  refine s_iload C dL_law_2478 1 rfl ?_
  refine s_icmp_eq (tgt := 2485) C dL_law_2480 (by decide) (fun c7 => ?_) (fun c7 => ?_)
  ·
    refine g_jn (P := fun j2502 => ∀ (μ8 : Mem), G X r0 ca sl μ8 2502 [(0, .ref bs), (1, .ref (xa X 0 0)), (2, .ref (xa X 26 0)), (3, .ref (xa X 31 0)), (4, .int i)] [] (j2502 μ8)) ?_ (fun j2502 hj2502 => ?_)
    · intro μ8
      refine s_goto (tgt := 2636) C dL_law_2502 (by decide) ?_
      exact g_endL (ca1 := ca) (sl1 := sl) (by omega) (by omega) [4, 0, 1, 2, 3] rfl H0
    refine s_iload C dL_law_2485 1 rfl ?_
    refine s_if_ne (tgt := 2502) C dL_law_2487 (by decide) (fun c9 => ?_) (fun c9 => ?_)
    ·
      exact g_sub [3, 4, 5, 6, 2] rfl (hj2502 μ5)
    ·
      refine s_aload_n C dL_law_2490 rfl 6 rfl ?_
      refine s_iconst (v := (0 : Int32)) C dL_law_2491 (by decide) ?_
      refine s_lald C (ag31 V) (by decide) dL_law_2492 ?_
      refine s_iload C dL_law_2493 0 rfl ?_
      refine s_i2l C dL_law_2495 ?_
      refine s_lcmp C dL_law_2496 ?_
      refine s_if_eq (tgt := 2502) C dL_law_2497 (by decide) (fun c10 => ?_) (fun c10 => ?_)
      ·
        exact g_sub [3, 4, 5, 6, 2] rfl (hj2502 μ5)
      ·
        refine s_iconst (v := (0 : Int32)) C dL_law_2500 (by decide) ?_
        exact g_none
  ·
    refine s_iconst (v := (0 : Int32)) C dL_law_2483 (by decide) ?_
    exact g_none
/-- case 38, the address bad -/
def cb38 (fu : Nat) (xs : Nat → Int32) (SL : Nat) (i : Int32) (μ : Mem) : Option Mem :=
  ckI (i + (1 : Int32)) SL <| bnd (fLb (xs (i + (1 : Int32)).toNatClampNeg) μ) fun x2 μ1 => tl38 fu xs SL i μ x2 μ1
theorem bz38 {X : CX} (hT : (xl X).stackTraces = false) (V : 2 ≤ xv X) (C : Ok X RL cL_law) (R0 : Rm X 2048 84000 601024 7293034) (hN : ∀ i : Nat, i < 8 → i < xn X) {bs SL : Nat} {xs : Nat → Int32} (S : Scr X bs SL xs) (fu : Nat) {ca sl : Nat} (hc : ca + 20 ≤ 601024) (hs : sl + 10000 ≤ 7293034) (i : Int32) (μ r0 : Mem) (H0 : J X (ca + 20) (sl + 10000) r0 2636 [(4, .int i), (0, .ref bs), (1, .ref (xa X 0 0)), (2, .ref (xa X 26 0)), (3, .ref (xa X 31 0))] []) : G X r0 ca sl μ 2449 [(4, .int i), (0, .ref bs), (1, .ref (xa X 0 0)), (2, .ref (xa X 26 0)), (3, .ref (xa X 31 0))] [] (cb38 fu xs SL i μ) := by
  unfold cb38
  refine s_aload_n C dL_law_2449 rfl 2 rfl ?_
  refine s_aload_n C dL_law_2450 rfl 1 rfl ?_
  refine s_iload C dL_law_2451 0 rfl ?_
  refine s_iconst (v := (1 : Int32)) C dL_law_2453 (by decide) ?_
  refine s_iadd C dL_law_2454 ?_
  refine s_sld C S dL_law_2455 ?_
  refine s_aload_n C dL_law_2456 rfl 4 rfl ?_
  refine s_callH (n := 3) C R0 (kLb_format (xl X) hT (xs (i + (1 : Int32)).toNatClampNeg)) V q154 q1696 ⟨by decide +kernel, by decide +kernel, by decide +kernel⟩ q1695 q1694 rfl rfl rfl (Nat.le_of_ble_eq_true rfl) ⟨Nat.le_of_ble_eq_true rfl, Nat.le_of_ble_eq_true rfl, by omega, by omega⟩ dL_law_2457 (fun x2 μ1 => ?_)
  refine g_st (st' := [.int x2]) rfl ?_
  exact tz38 hT V C R0 hN S fu (by omega) (by omega) i x2 μ μ1 r0 (j_wid (by omega) (by omega) H0)
/-- case 38, the address good -/
theorem gz38 {X : CX} (hT : (xl X).stackTraces = false) (V : 2 ≤ xv X) (C : Ok X RL cL_law) (Pv : PV X) (R0 : Rm X 2048 84000 601024 7293034) (hN : ∀ i : Nat, i < 8 → i < xn X) {bs SL : Nat} {xs : Nat → Int32} (S : Scr X bs SL xs) {ca sl c x : Nat} (hc : ca + 20 ≤ 601024) (hs : sl + 10000 ≤ 7293034) (i : Int32) (hi : ¬ (i + (1 : Int32) < 0 ∨ SL ≤ (i + (1 : Int32)).toNatClampNeg)) (hx : xs (i + (1 : Int32)).toNatClampNeg = nI x) (fu : Nat) (μ μ1 r0 : Mem) (hf : fLg c x μ = some (0, μ1)) (ht : tl38 fu xs SL i μ 0 μ1 = some r0)
    (H0 : ∀ w : Nat, Ok (sx w X) RL cL_law → J (sx w X) (ca + 20) (sl + 10000) r0 2636 [(4, .int i), (0, .ref bs), (1, .ref (xa X 0 0)), (2, .ref (xa X 26 0)), (3, .ref (xa X 31 0))] []) : J X ca sl μ 2449 [(4, .int i), (0, .ref bs), (1, .ref (xa X 0 0)), (2, .ref (xa X 26 0)), (3, .ref (xa X 31 0))] [] := by
  refine j_g (r0 := ()) ?_
  refine s_aload_n C dL_law_2449 rfl 2 rfl ?_
  refine s_aload_n C dL_law_2450 rfl 1 rfl ?_
  refine s_iload C dL_law_2451 0 rfl ?_
  refine s_iconst (v := (1 : Int32)) C dL_law_2453 (by decide) ?_
  refine s_iadd C dL_law_2454 ?_
  refine g_eqo (o' := ckI (i + (1 : Int32)) SL (some ())) (if_pos hi).symm ?_
  refine s_sld C S dL_law_2455 ?_
  refine s_aload_n C dL_law_2456 rfl 4 rfl ?_
  refine g_st (st' := [.ref (xa X 31 0), .int (nI x), .ref (xa X 0 0)]) (by rw [hx]) ?_
  refine g_j (r0 := ()) (j_callHM (n := 3) (As := [.ref (xa X 0 0), .int (nI x), .ref (xa X 31 0)]) (st := []) C Pv R0 (kLg_format (xl X) hT c x) V q154 q1696 ⟨by decide +kernel, by decide +kernel, by decide +kernel⟩ q1695 q1694 rfl rfl rfl (Nat.le_of_ble_eq_true rfl) ⟨Nat.le_of_ble_eq_true rfl, Nat.le_of_ble_eq_true rfl, by omega, by omega⟩ dL_law_2457 (r := (0 : Int32)) (μ' := μ1) hf (fun w Cw => ?_))
  have h0 := H0 w Cw
  rw [show xa X 0 0 = xa (sx w X) 0 0 from (xa_sx (by decide)).symm, show xa X 26 0 = xa (sx w X) 26 0 from (xa_sx (by decide)).symm, show xa X 31 0 = xa (sx w X) 31 0 from (xa_sx (by decide)).symm] at h0
  have t := tz38 (X := sx w X) (by rw [xl_sx]; exact hT) (xv_sx2 V) Cw (rm_sx R0) (fun i h => by rw [xn_sx]; exact hN i h) (scr_sx S) fu (ca := ca + 20) (sl := sl + 2666) (by omega) (by omega) i 0 μ μ1 r0 (j_wid (by omega) (by omega) h0) ht
  rw [xa_sx (κ := 0) (by decide), xa_sx (κ := 26) (by decide), xa_sx (κ := 31) (by decide)] at t
  exact t
