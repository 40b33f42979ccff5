/-! THE BUILDER'S PRIVATE METHODS: what the tables say of them goes along from call to call -/
def pvL : List MethodName := [yJ5_inflateIfNeededFor_a7421, yJ5_newCapacity_0f7a4, yJ5_ensureCapacityInternal_d00df, yJ5_putStringAt_47b60]
def PVs (s : State) : Prop := ∀ y ∈ pvL, s.PrivateAt y
theorem pv_vm {s U : State} (h1 : U.methodNamed? = s.methodNamed?) (h2 : ∀ m, U.vm.method? m = s.vm.method? m) (h : PVs s) : PVs U := fun y hy mk meth g1 g2 => h y hy mk meth (by rw [← h1]; exact g1) (by rw [← h2]; exact g2)
theorem pv_warm {s U : State} (hW : s.WarmedH U.vm) (h : PVs s) : PVs U := by
  have hal := hW.alike
  have e : U.methodNamed? = (s.setVm U.vm).methodNamed? := by
    funext y
    simp only [State.methodNamed?, State.vm_setVm]
  exact pv_vm (by rw [e]; exact funext fun y => State.methodNamed?_setVm hal y) (fun m => hal.method? m) h
def PV : CX → Prop
  | (p, l, e, R, s, m, args, below, meth, c, D, ad, ty, A, Q, nL, vv) => PVs s
theorem pv_sx {X : CX} {w : Nat} (h : PV X) : PV (sx w X) := by
  obtain ⟨p, l, e, R, s, m, args, below, meth, c, D, ad, ty, A, Q, nL, vv⟩ := X
  have h : PVs s := h
  exact (show PVs s from h)
def KPP (vv : Nat) (D : va_G) (ad : Nat → Nat → Nat) (ty : Nat → ClassId) (μ : Mem) (sz : Nat) (av : List Value) : Array Value → State → Prop := fun v U => KP vv D ad ty μ sz av v U ∧ PVs U
theorem kpp_blind {vv : Nat} {D : va_G} {ad : Nat → Nat → Nat} {ty : Nat → ClassId} {μ : Mem} {sz : Nat} {av : List Value} : FrameBlind (KPP vv D ad ty μ sz av) := fun a U g mk q => ⟨kp_blind a U g mk q.1, pv_vm (s := U) rfl (fun _ => rfl) q.2⟩
theorem kpp_pre {s : State} {H : Heap} {locs : List Loc} {A : Nat → Prop} {vv : Nat} {D : va_G} {ad : Nat → Nat → Nat} {ty : Nat → ClassId} {μ : Mem} {av : List Value} (hV : PVs s) (hP : va_P D vwCl (wl vv ad ty μ) H) (hK : va_K D vwCl (tys ty) s) (hD : va_D A (wl vv ad ty μ)) (hS : va_S A s.heap H locs) (hA : ∀ q : Nat, s.heap.size ≤ q → A q) (hZ : Cst ad A s s.heap) : ∀ U : State, U.heap = H → s.WarmedH U.vm → KPP vv D ad ty μ H.size av av.toArray U := fun U hU hW => ⟨kp_pre hP hK hD hS hA hZ U hU hW, pv_warm hW hV⟩
def KonP {β : Type} (vm : Nat) (l : Launch) (y : MethodName) (cc : ByteArray) (mL : Nat) (rt : Option FieldType) (fr lo mc ms : Nat) (av : (Nat → Nat → Nat) → List Value) (rv : (Nat → Nat → Nat) → β → Option Value) (f : Mem → Option (β × Mem)) : Prop :=
  ∀ (vv : Nat) (_ : vm ≤ vv) (D : va_G) (ad : Nat → Nat → Nat) (ty : Nat → ClassId) (μ : Mem) (sz : Nat) (r : β × Mem), f μ = some r → Met l y (wm y cc mL rt) (rm4 fr lo mc ms) (KPP vv D ad ty μ sz (av ad)) (KQ vv D ad ty r.2 (rv ad r.1) (va_A (wl vv ad ty μ) sz)) mc ms (va_A (wl vv ad ty μ) sz)
theorem konP_of {β : Type} {vm : Nat} {l : Launch} {y : MethodName} {cc : ByteArray} {mL : Nat} {rt : Option FieldType} {fr lo mc ms : Nat} {av : (Nat → Nat → Nat) → List Value} {rv : (Nat → Nat → Nat) → β → Option Value} {f : Mem → Option (β × Mem)} (hy : plainName y.cls = true) (hlen : ∀ ad : Nat → Nat → Nat, (lg_sl (av ad)).length ≤ mL)
    (body : ∀ (X : CX) (r : β × Mem) (μ : Mem), xl X = l → xn X = mL → vm ≤ xv X → Ok X y.cls cc → PV X → Fen X rt (rv (xa X) r.1) r.2 fr lo mc ms → G X r 0 0 μ 0 (lv_args 0 (av (xa X))) [] (f μ)) : KonP vm l y cc mL rt fr lo mc ms av rv f := by
  intro vv hvv D ad ty μ sz r hf
  refine Met.ofW (cc := cc) (maxL := mL) (ret := rt) hy rfl ?_
  intro p e s m args below meth c s₁ B hml hv
  obtain ⟨⟨rfl, hsz, hP, hK, hD0, hZ⟩, hV⟩ := hv
  subst hsz
  have hts := atoms_spec (ws := wm y cc mL rt) B.pre
  have h1 := body (p, l, e, (headSpec (wm y cc mL rt) (rm4 fr lo mc ms)).room, s, m, (av ad).toArray, below, meth, c, D, ad, ty, va_A (wl vv ad ty μ) s.heap.size, MQ below (KQ vv D ad ty r.2 (rv ad r.1) (va_A (wl vv ad ty μ) s.heap.size)) (av ad).toArray s mc ms (va_A (wl vv ad ty μ) s.heap.size), mL, vv) r μ rfl rfl hvv
    ⟨B.exec, B.bytes, hml, findClass_of_methodNamed B.named, fun w hw => hts w (List.mem_cons_of_mem _ hw), hK, fun μ' => wl_fst μ' hD0.self, fun q h => Or.inr h, B.notSynchronized, hZ⟩ hV ⟨B.returns, rfl, rfl⟩ hf s.heap [] _ hP va_S.rf (lv_entry (av ad) (hlen ad))
  rw [lg_entry_eq]
  exact h1
def KonW {β : Type} (vm : Nat) (l : Launch) (y : MethodName) (cc : ByteArray) (mL : Nat) (rt : Option FieldType) (fr lo mc ms : Nat) (av : (Nat → Nat → Nat) → List Value) (rv : (Nat → Nat → Nat) → β → Option Value) (f : Mem → Option (β × Mem)) : Prop :=
  ∀ (vv : Nat) (_ : vm ≤ vv) (D : va_G) (ad : Nat → Nat → Nat) (ty : Nat → ClassId) (μ : Mem) (sz : Nat) (r : β × Mem), f μ = some r → Met l y (wm y cc mL rt) (rm4 fr lo mc ms) (KPP vv D ad ty μ sz (av ad)) (KQM vv D ad ty r.2 (rv ad r.1) (va_A (wl vv ad ty μ) sz)) mc ms (va_A (wl vv ad ty μ) sz)
theorem konW_of {β : Type} {vm : Nat} {l : Launch} {y : MethodName} {cc : ByteArray} {mL : Nat} {rt : Option FieldType} {fr lo mc ms : Nat} {av : (Nat → Nat → Nat) → List Value} {rv : (Nat → Nat → Nat) → β → Option Value} {f : Mem → Option (β × Mem)} (hy : plainName y.cls = true) (hlen : ∀ ad : Nat → Nat → Nat, (lg_sl (av ad)).length ≤ mL)
    (body : ∀ (X : CX) (r : β × Mem) (μ : Mem), xl X = l → xn X = mL → vm ≤ xv X → Ok X y.cls cc → PV X → FenM (xa X) X rt (rv (xa X) r.1) r.2 fr lo mc ms → f μ = some r → J X 0 0 μ 0 (lv_args 0 (av (xa X))) []) : KonW vm l y cc mL rt fr lo mc ms av rv f := by
  intro vv hvv D ad ty μ sz r hf
  refine Met.ofW (cc := cc) (maxL := mL) (ret := rt) hy rfl ?_
  intro p e s m args below meth c s₁ B hml hv
  obtain ⟨⟨rfl, hsz, hP, hK, hD0, hZ⟩, hV⟩ := hv
  subst hsz
  have hts := atoms_spec (ws := wm y cc mL rt) B.pre
  have h1 := body (p, l, e, (headSpec (wm y cc mL rt) (rm4 fr lo mc ms)).room, s, m, (av ad).toArray, below, meth, c, D, ad, ty, va_A (wl vv ad ty μ) s.heap.size, MQ below (KQM vv D ad ty r.2 (rv ad r.1) (va_A (wl vv ad ty μ) s.heap.size)) (av ad).toArray s mc ms (va_A (wl vv ad ty μ) s.heap.size), mL, vv) r μ rfl rfl hvv
    ⟨B.exec, B.bytes, hml, findClass_of_methodNamed B.named, fun w hw => hts w (List.mem_cons_of_mem _ hw), hK, fun μ' => wl_fst μ' hD0.self, fun q h => Or.inr h, B.notSynchronized, hZ⟩ hV ⟨⟨_, am_self.symm⟩, B.returns, rfl, rfl⟩ hf s.heap [] _ hP va_S.rf (lv_entry (av ad) (hlen ad))
  rw [lg_entry_eq]
  exact h1
theorem sel_privA {C : String} {x0 y : MethodName} {s : State} {args : Array Value} (hy : y.cls ≠ "java/lang/invoke/MethodHandle" ∧ y.cls ≠ "java/lang/invoke/VarHandle") (hxy : x0.cls = y.cls) (hs : (Cond.selects C x0 x0).before args s = true) (hpriv : s.PrivateAt y) (hinst : (Cond.instanceMethod y).before args s = true) : (Cond.selects C y y).before args s = true := by
  obtain ⟨mk, methM, hnamed, hmethM, -, -⟩ := Cond.instanceMethod_spec hinst
  have hfound : s.methodFound? y.cls y.name y.desc = some mk := State.methodFound?_of_named hnamed hy
  simp only [Cond.before, Cond.holds, Cond.value] at hs ⊢
  cases hc : s.vm.findClass C with
  | none => rw [hc] at hs; simp at hs
  | some c =>
    rw [hc] at hs
    cases hf : s.methodFound? x0.cls x0.name x0.desc with
    | none => rw [hf] at hs; simp at hs
    | some r =>
      rw [hf] at hs
      cases hn : s.methodNamed? x0 with
      | none => rw [hn] at hs; simp at hs
      | some m0 =>
        rw [hn] at hs
        have h0 : m0.cls = mk.cls := by
          have e1 := findClass_of_methodNamed hn
          have e2 := findClass_of_methodNamed hnamed
          rw [hxy] at e1
          exact Option.some.inj (e1.symm.trans e2)
        have hsel : selectMethod {} s.vm c mk = .method mk := selectMethod_private hmethM (hpriv mk methM hnamed hmethM)
        rw [hfound, hnamed]
        dsimp only at hs ⊢
        rw [hsel]
        cases hq : selectMethod {} s.vm c r with
        | method m' => rw [hq, h0] at hs; simp at hs ⊢; exact hs.2
        | _ => rw [hq] at hs; simp at hs
def MVp (y : MethodName) : Prop := Cond.instanceMethod y ∈ tb ∧ Cond.sameMethod y.cls y.cls y.name y.desc ∈ tb ∧ y.cls = "java/lang/AbstractStringBuilder" ∧ (y ∈ pvL ∨ Cond.selects "java/lang/StringBuilder" y y ∈ tb)
theorem mv_sel {y : MethodName} {s : State} {args : Array Value} (h : MVp y) (hV : PVs s) (hts : ∀ w ∈ tb, w.before args s = true) : (Cond.selects "java/lang/StringBuilder" y y).before args s = true := by
  obtain ⟨h1, h2, h3, h4⟩ := h
  rcases h4 with h4 | h4
  · exact sel_privA (x0 := yJ5_isLatin1_aae02) (by rw [h3]; decide +kernel) (by rw [h3]; rfl) (hts _ q1740) (hV _ h4) (hts _ h1)
  · exact hts _ h4
theorem va_cv {R : Room} {s : State} {args : Array Value} {own : String} {index maxL mc ms n : Nat} {y : MethodName} {bytes : ByteArray} {ret : Option FieldType} {fr lo : Nat} (hts : ∀ w ∈ tb, w.before args s = true) (hM : MM y bytes maxL ret n) (hU : MVp y) (hV : PVs s) (hl : Cond.methodLink own index y ∈ tb) (hR : fr + 1 ≤ R.frames ∧ 8 + (maxL + 11) + lo ≤ R.locals) :
    va_CU R s args own "java/lang/StringBuilder" y.cls index y y bytes maxL ret (wm y bytes maxL ret) (rm4 fr lo mc ms) mc ms n := by
  obtain ⟨m1, m2, m3⟩ := hM
  refine ⟨⟨rfl, rfl, hR.1, hR.2, pay_in hts (tb_goodIn (wm_in m2)), List.mem_cons_self⟩, hts _ m2, hts _ m1, ⟨m3.1, m3.2.1⟩, fun sig h => ?_, hts _ hl, hts _ hU.2.1, va_Decl.of (hts _ hU.1) (hts _ m2), mv_sel hU hV hts, hts _ hU.1⟩
  have h2 := m3.2.2
  rw [h] at h2
  exact (Option.some.inj h2).symm
section CallsW
variable {X : CX} {own : String} {cc : ByteArray} {α β : Type} {r0 : α} {ca sl fr lo fr1 lo1 mcX msX mc ms : Nat} {μ : Mem} {pc : Nat} {L : List (Nat × Value)} {st stk As : List Value}
variable {y : MethodName} {bytes : ByteArray} {mL n ix κ cnt ii vm1 : Nat} {rt : Option FieldType} {av : (Nat → Nat → Nat) → List Value} {rv : (Nat → Nat → Nat) → β → Option Value} {f : Mem → Option (β × Mem)} {k : β → Mem → Option α}
theorem s_callW (C : Ok X own cc) (Pv : PV X) (E : Rm X fr lo mcX msX) (hk : Kon vm1 (xl X) y bytes mL rt fr1 lo1 mc ms av rv f) (hv1 : vm1 ≤ xv X) (hM : MM y bytes mL rt n) (hU : MVp y) (hl : Cond.methodLink own ix y ∈ tb)
    (hav : av (xa X) = .ref (xa X 32 0) :: As) (hstk : stk = As.reverse ++ .ref (xa X 32 0) :: st) (hn : As.length = n) (hst : (st.map fun v => v.category).sum ≤ 8) (hroom : fr1 + 1 ≤ fr ∧ 8 + (mL + 11) + lo1 ≤ lo ∧ ca + mc ≤ mcX ∧ sl + ms ≤ msX) (hd : decode cc pc = .ok (.invokevirtual ix, 3))
    (kk : ∀ (r : β) (μ' : Mem), G X r0 (ca + mc) (sl + ms) μ' (pc + 3) L ((rv (xa X) r).toList ++ st) (k r μ')) : G X r0 ca sl μ pc L stk (bnd (f μ) k) := by
  obtain ⟨p, l, e, R, s, m, args, below, meth, c, D, ad, ty, A, Q, nL, vv⟩ := X
  have Pv : PVs s := Pv
  obtain ⟨hx, hb, hml, hown, hts, hK, hD, hA, hlk, hZ⟩ := C
  have hRX : R = rm4 fr lo mcX msX := E
  subst hRX
  intro h H locs ls hP hS hl'
  obtain ⟨rr, h1, h2⟩ := Option.bind_eq_some_iff.mp h
  obtain ⟨r, μ'⟩ := rr
  have hav' : av ad = .ref (ad 32 0) :: As := hav
  have hmet := hk vv hv1 D ad ty μ H.size (r, μ') h1
  rw [hav'] at hmet
  exact run_go (v := rv ad r) (μ1 := μ') (va_runU (C := "java/lang/StringBuilder") (owner := y.cls) (As := As) (rest := st) (n := n) ⟨hx, hb, hml, hown, hts⟩ hmet (va_cv hts hM hU Pv hl ⟨hroom.1, hroom.2.1⟩) ⟨kp_blind, sb_recv hK hP, kp_pre hP hK (hD μ) hS hA hZ⟩ rfl hn hl'.1 hstk (lv_room hst) hd ⟨hroom.2.2.1, hroom.2.2.2⟩) hS (wl_A (hD μ) hS hA) (fun H1 locs1 hP1 hS1 => kk r μ' h2 H1 locs1 ls hP1 hS1 hl')
theorem s_callWP (C : Ok X own cc) (Pv : PV X) (E : Rm X fr lo mcX msX) (hk : KonP vm1 (xl X) y bytes mL rt fr1 lo1 mc ms av rv f) (hv1 : vm1 ≤ xv X) (hM : MM y bytes mL rt n) (hU : MVp y) (hl : Cond.methodLink own ix y ∈ tb)
    (hav : av (xa X) = .ref (xa X 32 0) :: As) (hstk : stk = As.reverse ++ .ref (xa X 32 0) :: st) (hn : As.length = n) (hst : (st.map fun v => v.category).sum ≤ 8) (hroom : fr1 + 1 ≤ fr ∧ 8 + (mL + 11) + lo1 ≤ lo ∧ ca + mc ≤ mcX ∧ sl + ms ≤ msX) (hd : decode cc pc = .ok (.invokevirtual ix, 3))
    (kk : ∀ (r : β) (μ' : Mem), G X r0 (ca + mc) (sl + ms) μ' (pc + 3) L ((rv (xa X) r).toList ++ st) (k r μ')) : G X r0 ca sl μ pc L stk (bnd (f μ) k) := by
  obtain ⟨p, l, e, R, s, m, args, below, meth, c, D, ad, ty, A, Q, nL, vv⟩ := X
  have Pv : PVs s := Pv
  obtain ⟨hx, hb, hml, hown, hts, hK, hD, hA, hlk, hZ⟩ := C
  have hRX : R = rm4 fr lo mcX msX := E
  subst hRX
  intro h H locs ls hP hS hl'
  obtain ⟨rr, h1, h2⟩ := Option.bind_eq_some_iff.mp h
  obtain ⟨r, μ'⟩ := rr
  have hav' : av ad = .ref (ad 32 0) :: As := hav
  have hmet := hk vv hv1 D ad ty μ H.size (r, μ') h1
  rw [hav'] at hmet
  exact run_go (v := rv ad r) (μ1 := μ') (va_runU (C := "java/lang/StringBuilder") (owner := y.cls) (As := As) (rest := st) (n := n) ⟨hx, hb, hml, hown, hts⟩ hmet (va_cv hts hM hU Pv hl ⟨hroom.1, hroom.2.1⟩) ⟨kpp_blind, sb_recv hK hP, kpp_pre Pv hP hK (hD μ) hS hA hZ⟩ rfl hn hl'.1 hstk (lv_room hst) hd ⟨hroom.2.2.1, hroom.2.2.2⟩) hS (wl_A (hD μ) hS hA) (fun H1 locs1 hP1 hS1 => kk r μ' h2 H1 locs1 ls hP1 hS1 hl')
theorem s_callSUP (C : Ok X own cc) (Pv : PV X) (E : Rm X fr lo mcX msX) (hk : KonP vm1 (xl X) y bytes mL rt fr1 lo1 mc ms av rv f) (hv1 : vm1 ≤ xv X) (hM : MM y bytes mL rt n) (hi : Cond.instanceMethod y ∈ tb) (hsm : Cond.sameMethod y.cls y.cls y.name y.desc ∈ tb) (hsu : Cond.superclass own y.cls ∈ tb) (hy : y.name ≠ "<init>") (hl : Cond.methodLink own ix y ∈ tb)
    (hav : av (xa X) = .ref (xa X 32 0) :: As) (hstk : stk = As.reverse ++ .ref (xa X 32 0) :: st) (hn : As.length = n) (hst : (st.map fun v => v.category).sum ≤ 8) (hroom : fr1 + 1 ≤ fr ∧ 8 + (mL + 11) + lo1 ≤ lo ∧ ca + mc ≤ mcX ∧ sl + ms ≤ msX) (hd : decode cc pc = .ok (.invokespecial ix, 3))
    (kk : ∀ (r : β) (μ' : Mem), G X r0 (ca + mc) (sl + ms) μ' (pc + 3) L ((rv (xa X) r).toList ++ st) (k r μ')) : G X r0 ca sl μ pc L stk (bnd (f μ) k) := by
  obtain ⟨p, l, e, R, s, m, args, below, meth, c, D, ad, ty, A, Q, nL, vv⟩ := X
  have Pv : PVs s := Pv
  obtain ⟨hx, hb, hml, hown, hts, hK, hD, hA, hlk, hZ⟩ := C
  have hRX : R = rm4 fr lo mcX msX := E
  subst hRX
  intro h H locs ls hP hS hl'
  obtain ⟨rr, h1, h2⟩ := Option.bind_eq_some_iff.mp h
  obtain ⟨r, μ'⟩ := rr
  have hav' : av ad = .ref (ad 32 0) :: As := hav
  have hmet := hk vv hv1 D ad ty μ H.size (r, μ') h1
  rw [hav'] at hmet
  exact run_go (v := rv ad r) (μ1 := μ') (va_runSU (C := "java/lang/StringBuilder") (As := As) (rest := st) (n := n) (sbc_at hK) ⟨hx, hb, hml, hown, hts⟩ hmet (va_cs hts hM hi hsm hsu hy hl ⟨hroom.1, hroom.2.1⟩) ⟨kpp_blind, sb_recv hK hP, kpp_pre Pv hP hK (hD μ) hS hA hZ⟩ rfl hn hl'.1 hstk (lv_room hst) hd ⟨hroom.2.2.1, hroom.2.2.2⟩) hS (wl_A (hD μ) hS hA) (fun H1 locs1 hP1 hS1 => kk r μ' h2 H1 locs1 ls hP1 hS1 hl')
theorem j_callUW (C : Ok X own cc) (Pv : PV X) (E : Rm X fr lo mcX msX) (hk : KonW vm1 (xl X) y bytes mL rt fr1 lo1 mc ms av rv f) (hv1 : vm1 ≤ xv X) (hM : MM y bytes mL rt n) (hU : MVp y) (hl : Cond.methodLink own ix y ∈ tb)
    (hav : av (xa X) = .ref (xa X 32 0) :: As) (hstk : stk = As.reverse ++ .ref (xa X 32 0) :: st) (hn : As.length = n) (hst : (st.map fun v => v.category).sum ≤ 8) (hroom : fr1 + 1 ≤ fr ∧ 8 + (mL + 11) + lo1 ≤ lo ∧ ca + mc ≤ mcX ∧ sl + ms ≤ msX) (hd : decode cc pc = .ok (.invokevirtual ix, 3)) {r : β} {μ' : Mem} (hf : f μ = some (r, μ'))
    (kk : ∀ w : Nat, Ok (sx w X) own cc → J (sx w X) (ca + mc) (sl + ms) μ' (pc + 3) L ((rv (xa X) r).toList ++ st)) : J X ca sl μ pc L stk := by
  obtain ⟨p, l, e, R, s, m, args, below, meth, c, D, ad, ty, A, Q, nL, vv⟩ := X
  have Pv : PVs s := Pv
  have C0 := C
  obtain ⟨hx, hb, hml, hown, hts, hK, hD, hA, hlk, hZ⟩ := C
  have hRX : R = rm4 fr lo mcX msX := E
  subst hRX
  intro H locs ls hP hS hl'
  have hav' : av ad = .ref (ad 32 0) :: As := hav
  have hmet := hk vv hv1 D ad ty μ H.size (r, μ') hf
  rw [hav'] at hmet
  exact run_goM (v := rv ad r) (μ1 := μ') (va_runU (C := "java/lang/StringBuilder") (owner := y.cls) (As := As) (rest := st) (n := n) ⟨hx, hb, hml, hown, hts⟩ hmet (va_cv hts hM hU Pv hl ⟨hroom.1, hroom.2.1⟩) ⟨kpp_blind, sb_recv hK hP, kpp_pre Pv hP hK (hD μ) hS hA hZ⟩ rfl hn hl'.1 hstk (lv_room hst) hd ⟨hroom.2.2.1, hroom.2.2.2⟩) hS (wl_A (hD μ) hS hA) (fun w H1 locs1 hP1 hD1 hS1 => kk w ⟨hx, hb, hml, hown, hts, hK, fun μ' => wl_fst μ' hD1, hA, hlk, hZ.am⟩ H1 locs1 ls hP1 hS1 hl')
theorem j_callSUW (C : Ok X own cc) (Pv : PV X) (E : Rm X fr lo mcX msX) (hk : KonW vm1 (xl X) y bytes mL rt fr1 lo1 mc ms av rv f) (hv1 : vm1 ≤ xv X) (hM : MM y bytes mL rt n) (hi : Cond.instanceMethod y ∈ tb) (hsm : Cond.sameMethod y.cls y.cls y.name y.desc ∈ tb) (hsu : Cond.superclass own y.cls ∈ tb) (hy : y.name ≠ "<init>") (hl : Cond.methodLink own ix y ∈ tb)
    (hav : av (xa X) = .ref (xa X 32 0) :: As) (hstk : stk = As.reverse ++ .ref (xa X 32 0) :: st) (hn : As.length = n) (hst : (st.map fun v => v.category).sum ≤ 8) (hroom : fr1 + 1 ≤ fr ∧ 8 + (mL + 11) + lo1 ≤ lo ∧ ca + mc ≤ mcX ∧ sl + ms ≤ msX) (hd : decode cc pc = .ok (.invokespecial ix, 3)) {r : β} {μ' : Mem} (hf : f μ = some (r, μ'))
    (kk : ∀ w : Nat, Ok (sx w X) own cc → J (sx w X) (ca + mc) (sl + ms) μ' (pc + 3) L ((rv (xa X) r).toList ++ st)) : J X ca sl μ pc L stk := by
  obtain ⟨p, l, e, R, s, m, args, below, meth, c, D, ad, ty, A, Q, nL, vv⟩ := X
  have Pv : PVs s := Pv
  obtain ⟨hx, hb, hml, hown, hts, hK, hD, hA, hlk, hZ⟩ := C
  have hRX : R = rm4 fr lo mcX msX := E
  subst hRX
  intro H locs ls hP hS hl'
  have hav' : av ad = .ref (ad 32 0) :: As := hav
  have hmet := hk vv hv1 D ad ty μ H.size (r, μ') hf
  rw [hav'] at hmet
  exact run_goM (v := rv ad r) (μ1 := μ') (va_runSU (C := "java/lang/StringBuilder") (As := As) (rest := st) (n := n) (sbc_at hK) ⟨hx, hb, hml, hown, hts⟩ hmet (va_cs hts hM hi hsm hsu hy hl ⟨hroom.1, hroom.2.1⟩) ⟨kpp_blind, sb_recv hK hP, kpp_pre Pv hP hK (hD μ) hS hA hZ⟩ rfl hn hl'.1 hstk (lv_room hst) hd ⟨hroom.2.2.1, hroom.2.2.2⟩) hS (wl_A (hD μ) hS hA) (fun w H1 locs1 hP1 hD1 hS1 => kk w ⟨hx, hb, hml, hown, hts, hK, fun μ' => wl_fst μ' hD1, hA, hlk, hZ.am⟩ H1 locs1 ls hP1 hS1 hl')
theorem j_callVW (C : Ok X own cc) (Pv : PV X) (E : Rm X fr lo mcX msX) (hk : KonW vm1 (xl X) y bytes mL rt fr1 lo1 mc ms av rv f) (hv1 : vm1 ≤ xv X) (hM : MM y bytes mL rt n) (hI : MI y) (hl : Cond.methodLink own ix y ∈ tb) (hR : RC (xv X) κ cnt y.cls) (hi : ii < cnt)
    (hav : av (xa X) = .ref (xa X κ ii) :: As) (hstk : stk = As.reverse ++ .ref (xa X κ ii) :: st) (hn : As.length = n) (hst : (st.map fun v => v.category).sum ≤ 8) (hroom : fr1 + 1 ≤ fr ∧ 8 + (mL + 11) + lo1 ≤ lo ∧ ca + mc ≤ mcX ∧ sl + ms ≤ msX) (hd : decode cc pc = .ok (.invokevirtual ix, 3)) {r : β} {μ' : Mem} (hf : f μ = some (r, μ'))
    (kk : ∀ w : Nat, Ok (sx w X) own cc → J (sx w X) (ca + mc) (sl + ms) μ' (pc + 3) L ((rv (xa X) r).toList ++ st)) : J X ca sl μ pc L stk := by
  obtain ⟨p, l, e, R, s, m, args, below, meth, c, D, ad, ty, A, Q, nL, vv⟩ := X
  have Pv : PVs s := Pv
  obtain ⟨hx, hb, hml, hown, hts, hK, hD, hA, hlk, hZ⟩ := C
  have hRX : R = rm4 fr lo mcX msX := E
  obtain ⟨m1, m2, m3⟩ := hM
  obtain ⟨ci, sl0, T, N, r1, r2⟩ := hR
  have r1 : (kdL vv)[κ]? = some (cnt, .inl (ci, sl0)) := r1
  subst hRX
  intro H locs ls hP hS hl'
  obtain ⟨q0, hq⟩ := cell_at r1 hi
  have hrec := va_recv hK hP r2 (obj_at r1 hq)
  have hav' : av ad = .ref (ad κ ii) :: As := hav
  have hmet := hk vv hv1 D ad ty μ H.size (r, μ') hf
  rw [hav'] at hmet
  refine run_goM (v := rv ad r) (μ1 := μ') (va_runV (As := As) (rest := st) ⟨hx, hb, hml, hown, hts⟩ hmet (cwV n hts (tb_goodIn (fun w hw => ?_)) rfl rfl rfl ⟨rfl, m3⟩ ⟨hroom.1, hroom.2.1⟩) ⟨kpp_blind, hrec, kpp_pre Pv hP hK (hD μ) hS hA hZ⟩ rfl hn hl'.1 hstk (lv_room hst) hd ⟨hroom.2.2.1, hroom.2.2.2⟩) hS (wl_A (hD μ) hS hA) (fun w H1 locs1 hP1 hD1 hS1 => kk w ⟨hx, hb, hml, hown, hts, hK, fun μ' => wl_fst μ' hD1, hA, hlk, hZ.am⟩ H1 locs1 ls hP1 hS1 hl')
  rcases List.mem_append.mp hw with e1 | e1
  · simp only [List.mem_cons, List.not_mem_nil, or_false] at e1
    rcases e1 with e2 | e2 | e2 | e2
    · rw [e2]; exact hl
    · rw [e2]; exact hI.1
    · rw [e2]; exact hI.2
    · rw [e2]; exact m1
  · exact wm_in m2 w e1
theorem j_callSW (C : Ok X own cc) (Pv : PV X) (E : Rm X fr lo mcX msX) (hk : KonW vm1 (xl X) y bytes mL rt fr1 lo1 mc ms av rv f) (hv1 : vm1 ≤ xv X) (hM : MM y bytes mL rt n) (hI : Cond.static y ∈ tb) (hl : Cond.methodLink own ix y ∈ tb)
    (hav : av (xa X) = As) (hstk : stk = As.reverse ++ st) (hn : As.length = n) (hst : (st.map fun v => v.category).sum ≤ 8) (hroom : fr1 + 1 ≤ fr ∧ 8 + (mL + 11) + lo1 ≤ lo ∧ ca + mc ≤ mcX ∧ sl + ms ≤ msX) (hd : decode cc pc = .ok (.invokestatic ix, 3)) {r : β} {μ' : Mem} (hf : f μ = some (r, μ'))
    (kk : ∀ w : Nat, Ok (sx w X) own cc → J (sx w X) (ca + mc) (sl + ms) μ' (pc + 3) L ((rv (xa X) r).toList ++ st)) : J X ca sl μ pc L stk := by
  obtain ⟨p, l, e, R, s, m, args, below, meth, c, D, ad, ty, A, Q, nL, vv⟩ := X
  have Pv : PVs s := Pv
  obtain ⟨hx, hb, hml, hown, hts, hK, hD, hA, hlk, hZ⟩ := C
  have hRX : R = rm4 fr lo mcX msX := E
  obtain ⟨m1, m2, m3⟩ := hM
  subst hRX
  intro H locs ls hP hS hl'
  have hav' : av ad = As := hav
  have hmet := hk vv hv1 D ad ty μ H.size (r, μ') hf
  rw [hav'] at hmet
  exact run_goM (v := rv ad r) (μ1 := μ') (va_runS (As := As) (rest := st) ⟨hx, hb, hml, hown, hts⟩ hmet ⟨callB_of n hts (tb_goodIn (wm_in m2)) rfl rfl rfl (hts _ m1) (hts _ hl) m3 ⟨hroom.1, hroom.2.1⟩, hts _ hI⟩ ⟨kpp_blind, kpp_pre Pv hP hK (hD μ) hS hA hZ⟩ rfl hn hl'.1 hstk (lv_room hst) hd ⟨hroom.2.2.1, hroom.2.2.2⟩) hS (wl_A (hD μ) hS hA) (fun w H1 locs1 hP1 hD1 hS1 => kk w ⟨hx, hb, hml, hown, hts, hK, fun μ' => wl_fst μ' hD1, hA, hlk, hZ.am⟩ H1 locs1 ls hP1 hS1 hl')
theorem s_callVP (C : Ok X own cc) (Pv : PV X) (E : Rm X fr lo mcX msX) (hk : KonP vm1 (xl X) y bytes mL rt fr1 lo1 mc ms av rv f) (hv1 : vm1 ≤ xv X) (hM : MM y bytes mL rt n) (hI : MI y) (hl : Cond.methodLink own ix y ∈ tb) (hR : RC (xv X) κ cnt y.cls) (hi : ii < cnt)
    (hav : av (xa X) = .ref (xa X κ ii) :: As) (hstk : stk = As.reverse ++ .ref (xa X κ ii) :: st) (hn : As.length = n) (hst : (st.map fun v => v.category).sum ≤ 8) (hroom : fr1 + 1 ≤ fr ∧ 8 + (mL + 11) + lo1 ≤ lo ∧ ca + mc ≤ mcX ∧ sl + ms ≤ msX) (hd : decode cc pc = .ok (.invokevirtual ix, 3))
    (kk : ∀ (r : β) (μ' : Mem), G X r0 (ca + mc) (sl + ms) μ' (pc + 3) L ((rv (xa X) r).toList ++ st) (k r μ')) : G X r0 ca sl μ pc L stk (bnd (f μ) k) := by
  obtain ⟨p, l, e, R, s, m, args, below, meth, c, D, ad, ty, A, Q, nL, vv⟩ := X
  have Pv : PVs s := Pv
  obtain ⟨hx, hb, hml, hown, hts, hK, hD, hA, hlk, hZ⟩ := C
  have hRX : R = rm4 fr lo mcX msX := E
  obtain ⟨m1, m2, m3⟩ := hM
  obtain ⟨ci, sl0, T, N, r1, r2⟩ := hR
  have r1 : (kdL vv)[κ]? = some (cnt, .inl (ci, sl0)) := r1
  subst hRX
  intro h H locs ls hP hS hl'
  obtain ⟨rr, h1, h2⟩ := Option.bind_eq_some_iff.mp h
  obtain ⟨r, μ'⟩ := rr
  obtain ⟨q0, hq⟩ := cell_at r1 hi
  have hrec := va_recv hK hP r2 (obj_at r1 hq)
  have hav' : av ad = .ref (ad κ ii) :: As := hav
  have hmet := hk vv hv1 D ad ty μ H.size (r, μ') h1
  rw [hav'] at hmet
  refine run_go (v := rv ad r) (μ1 := μ') (va_runV (As := As) (rest := st) ⟨hx, hb, hml, hown, hts⟩ hmet (cwV n hts (tb_goodIn (fun w hw => ?_)) rfl rfl rfl ⟨rfl, m3⟩ ⟨hroom.1, hroom.2.1⟩) ⟨kpp_blind, hrec, kpp_pre Pv hP hK (hD μ) hS hA hZ⟩ rfl hn hl'.1 hstk (lv_room hst) hd ⟨hroom.2.2.1, hroom.2.2.2⟩) hS (wl_A (hD μ) hS hA) (fun H1 locs1 hP1 hS1 => ?_)
  · rcases List.mem_append.mp hw with e1 | e1
    · simp only [List.mem_cons, List.not_mem_nil, or_false] at e1
      rcases e1 with e2 | e2 | e2 | e2
      · rw [e2]; exact hl
      · rw [e2]; exact hI.1
      · rw [e2]; exact hI.2
      · rw [e2]; exact m1
    · exact wm_in m2 w e1
  · exact kk r μ' h2 H1 locs1 ls hP1 hS1 hl'
end CallsW
