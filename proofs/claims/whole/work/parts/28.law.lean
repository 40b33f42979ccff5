/-! METHODS WITH A TABLE OF THEIR OWN (the law's wrappers): contracts, and calls whose throws are caught -/
theorem met_ofWH {l : Launch} {y : MethodName} {ws ws' : List Cond} {rm : Room} {Pc : Array Value → State → Prop} {Qc : Array Value → State → Outcome → State → Prop} {mc ms : Nat} {free : Addr → Prop} {cc : ByteArray} {maxL : Nat} {ret : Option FieldType} {hh : List (Nat × Nat × Nat × Nat)}
    (hy : plainName y.cls = true) (hw : ws = Cond.codeWith y cc maxL ret hh :: ws')
    (body : ∀ p e s m args below meth c s₁, BodyLoose p l y (headSpec ws rm) cc maxL ret e s m args below meth c s₁ → c.maxLocals = maxL → c.exceptionTable.toList.map (fun h => (h.startPc, h.endPc, h.handlerPc, h.catchType)) = hh → Pc args s →
      W p l e (headSpec ws rm).room s m args below meth c s.heap [] 0 0 (MQ below Qc args s mc ms free) (entryFrame m args maxL)) : Met l y ws rm Pc Qc mc ms free := by
  refine MetFree.of_bodyS (code := cc) (maxLocals := maxL) (ret := ret) hy ?_ ?_
  · intro args s m h hn
    obtain ⟨m9, meth, c, hn9, h1, h2, h3, h4, -, h5, h6, -⟩ := Cond.codeWith_spec (atoms_spec (ws := ws) h _ (by rw [hw]; exact List.mem_cons_self))
    cases hn.symm.trans hn9
    exact ⟨meth, c, h1, h2, h3, h4, h5, h6⟩
  · intro p e s m args below meth c s₁ B hml hP _
    have hh0 : s₁.heap = s.heap := by rw [B.state]; rfl
    have X0 := Stand.of_body B
    obtain ⟨m9, meth9, c9, hn9, g1, g2, g3, g4, g5, -⟩ := Cond.codeWith_spec (atoms_spec (ws := ws) B.pre _ (by rw [hw]; exact List.mem_cons_self))
    cases B.named.symm.trans hn9
    cases B.method.symm.trans g1
    have hm1 : s₁.vm.method? m = some meth := by rw [B.state]; exact B.method
    have hc : meth.code = some c := by
      have h := B.here.code
      cases hk : s₁.vm.classes[m.cls]? with
      | none => simp [State.code?, hk] at h
      | some kc =>
        have hm2 : kc.methods[m.idx]? = some meth := by simpa [Vm.method?, hk] using hm1
        simpa [State.code?, hk, hm2] using h
    cases hc.symm.trans g2
    obtain ⟨t, a1, o, b1, b2, b3⟩ := body p e s m args below meth c s₁ B hml g5 hP s₁ hh0 X0
    exact ⟨t, o, a1, b1, b2, ⟨b3.1, b3.2⟩⟩
def KonH {β : Type} (vm : Nat) (l : Launch) (y : MethodName) (cc : ByteArray) (mL : Nat) (rt : Option FieldType) (hh : List (Nat × Nat × Nat × Nat)) (fr lo mc ms : Nat) (av : (Nat → Nat → Nat) → List Value) (rv : (Nat → Nat → Nat) → β → Option Value) (f : Mem → Option (β × Mem)) : Prop :=
  ∀ (vv : Nat) (_ : vm ≤ vv) (D : va_G) (ad : Nat → Nat → Nat) (ty : Nat → ClassId) (μ : Mem) (sz : Nat) (r : β × Mem), f μ = some r → Met l y (Cond.codeWith y cc mL rt hh :: tb) (rm4 fr lo mc ms) (KP vv D ad ty μ sz (av ad)) (KQ vv D ad ty r.2 (rv ad r.1) (va_A (wl vv ad ty μ) sz)) mc ms (va_A (wl vv ad ty μ) sz)
def Tab : CX → List (Nat × Nat × Nat × Nat) → Prop
  | (p, l, e, R, s, m, args, below, meth, c, D, ad, ty, A, Q, nL, vv), hh => c.exceptionTable.toList.map (fun h => (h.startPc, h.endPc, h.handlerPc, h.catchType)) = hh
theorem konH_of {β : Type} {vm : Nat} {l : Launch} {y : MethodName} {cc : ByteArray} {mL : Nat} {rt : Option FieldType} {hh : List (Nat × Nat × Nat × Nat)} {fr lo mc ms : Nat} {av : (Nat → Nat → Nat) → List Value} {rv : (Nat → Nat → Nat) → β → Option Value} {f : Mem → Option (β × Mem)} (hy : plainName y.cls = true) (hlen : ∀ ad : Nat → Nat → Nat, (lg_sl (av ad)).length ≤ mL)
    (body : ∀ (X : CX) (r : β × Mem) (μ : Mem), xl X = l → xn X = mL → vm ≤ xv X → Ok X y.cls cc → Fen X rt (rv (xa X) r.1) r.2 fr lo mc ms → Tab X hh → G X r 0 0 μ 0 (lv_args 0 (av (xa X))) [] (f μ)) : KonH vm l y cc mL rt hh fr lo mc ms av rv f := by
  intro vv hvv D ad ty μ sz r hf
  refine met_ofWH (cc := cc) (maxL := mL) (ret := rt) hy rfl ?_
  intro p e s m args below meth c s₁ B hml htab hv
  obtain ⟨rfl, hsz, hP, hK, hD0, hZ⟩ := hv
  subst hsz
  have hts := atoms_spec (ws := Cond.codeWith y cc mL rt hh :: tb) B.pre
  have h1 := body (p, l, e, (headSpec (Cond.codeWith y cc mL rt hh :: tb) (rm4 fr lo mc ms)).room, s, m, (av ad).toArray, below, meth, c, D, ad, ty, va_A (wl vv ad ty μ) s.heap.size, MQ below (KQ vv D ad ty r.2 (rv ad r.1) (va_A (wl vv ad ty μ) s.heap.size)) (av ad).toArray s mc ms (va_A (wl vv ad ty μ) s.heap.size), mL, vv) r μ rfl rfl hvv
    ⟨B.exec, B.bytes, hml, findClass_of_methodNamed B.named, fun w hw => hts w (List.mem_cons_of_mem _ hw), hK, fun μ' => wl_fst μ' hD0.self, fun q h => Or.inr h, B.notSynchronized, hZ⟩ ⟨B.returns, rfl, rfl⟩ htab hf s.heap [] _ hP va_S.rf (lv_entry (av ad) (hlen ad))
  rw [lg_entry_eq]
  exact h1
def catX {α β : Type} (o : Option (RX β)) (kx : Nat → Mem → Option α) (k : β → Mem → Option α) : Option α := o.bind fun q => match q.1 with
  | .inl e => kx e q.2
  | .inr b => k b q.2
section CallsC
variable {X : CX} {own : String} {cc : ByteArray} {α β : Type} {r0 : α} {ca sl fr lo fr1 lo1 mcX msX mc ms : Nat} {μ : Mem} {pc : Nat} {L : List (Nat × Value)} {st stk As : List Value} {rt : Option FieldType}
variable {y : MethodName} {bytes : ByteArray} {mL n ix κ cnt ii vm1 : Nat} {av : (Nat → Nat → Nat) → List Value} {rv : (Nat → Nat → Nat) → β → Option Value} {f : Mem → Option (RX β)} {k : β → Mem → Option α} {kx : Nat → Mem → Option α}
theorem s_callC1 {a0 b0 h0 ct k0 : Nat} (C : Ok X own cc) (E : Rm X fr lo mcX msX) (TB : Tab X [(a0, b0, h0, ct)]) (hk : KonX vm1 (xl X) y bytes mL rt fr1 lo1 mc ms av rv f) (hv1 : vm1 ≤ xv X) (hM : MM y bytes mL rt n) (hI : MI y) (hl : Cond.methodLink own ix y ∈ tb) (hR : RC (xv X) κ cnt y.cls) (hi : ii < cnt)
    (hcov : a0 ≤ pc ∧ pc < b0) (hct : ct ≠ 0) (hlink : Cond.classLink own ct (exN k0) ∈ tb) (hcast : Cond.castable (exN k0) (exN k0) ∈ nwL)
    (hav : av (xa X) = .ref (xa X κ ii) :: As) (hstk : stk = As.reverse ++ .ref (xa X κ ii) :: st) (hn : As.length = n) (hst : (st.map fun v => v.category).sum ≤ 8) (hroom : fr1 + 1 ≤ fr ∧ 8 + (mL + 11) + lo1 ≤ lo ∧ ca + mc ≤ mcX ∧ sl + ms ≤ msX) (hd : decode cc pc = .ok (.invokevirtual ix, 3))
    (kc : ∀ (q : Nat) (μ' : Mem), G X r0 (ca + mc) (sl + ms) μ' h0 L [.ref q] (kx k0 μ')) (hno : ∀ e : Nat, ¬ e = k0 → ∀ μ' : Mem, kx e μ' = none)
    (kk : ∀ (r : β) (μ' : Mem), G X r0 (ca + mc) (sl + ms) μ' (pc + 3) L ((rv (xa X) r).toList ++ st) (k r μ')) : G X r0 ca sl μ pc L stk (catX (f μ) kx k) := by
  obtain ⟨p, l, e, R, s, m, args, below, meth, c, D, ad, ty, A, Q, nL, vv⟩ := X
  obtain ⟨hx, hb, hml, hown, hts, hK, hD, hA, hlk, hZ⟩ := C
  have hRX : R = rm4 fr lo mcX msX := E
  have hTB : c.exceptionTable.toList.map (fun h => (h.startPc, h.endPc, h.handlerPc, h.catchType)) = [(a0, b0, h0, ct)] := TB
  obtain ⟨m1, m2, m3⟩ := hM
  obtain ⟨ci, sl0, T, N, r1, r2⟩ := hR
  have r1 : (kdL vv)[κ]? = some (cnt, .inl (ci, sl0)) := r1
  subst hRX
  intro h H locs ls hP hS hl'
  obtain ⟨rr, h1, h2⟩ := Option.bind_eq_some_iff.mp h
  obtain ⟨q0, hq⟩ := cell_at r1 hi
  have hrec := va_recv hK hP r2 (obj_at r1 hq)
  have hav' : av ad = .ref (ad κ ii) :: As := hav
  have hmet := hk vv hv1 D ad ty μ H.size rr h1
  rw [hav'] at hmet
  refine run_goX (rv := rv) (r := rr) (vx_runV (As := As) (rest := st) ⟨hx, hb, hml, hown, hts⟩ hmet (cwV n hts (tb_goodIn (fun w hw => ?_)) rfl rfl rfl ⟨rfl, m3⟩ ⟨hroom.1, hroom.2.1⟩) ⟨kp_blind, hrec, kp_pre hP hK (hD μ) hS hA hZ⟩ rfl hn hl'.1 hstk (lv_room hst) hd ⟨hroom.2.2.1, hroom.2.2.2⟩) hS (wl_A (hD μ) hS hA) (fun k' ce q9 H1 locs1 e1 hP1 hS1 hce hcv hcl => ?_) (fun b H1 locs1 e1 hP1 hS1 => ?_)
  · rcases List.mem_append.mp hw with e1 | e1
    · simp only [List.mem_cons, List.not_mem_nil, or_false] at e1
      rcases e1 with e2 | e2 | e2 | e2
      · rw [e2]; exact hl
      · rw [e2]; exact hI.1
      · rw [e2]; exact hI.2
      · rw [e2]; exact m1
    · exact wm_in m2 w e1
  · rw [e1] at h2
    by_cases hk0 : k' = k0
    · subst hk0
      obtain ⟨x, hx1, hx2⟩ : ∃ x, c.exceptionTable.toList = [x] ∧ (x.startPc, x.endPc, x.handlerPc, x.catchType) = (a0, b0, h0, ct) := by
        cases ht : c.exceptionTable.toList with
        | nil => rw [ht] at hTB; cases hTB
        | cons x t =>
          rw [ht] at hTB
          simp only [List.map_cons, List.cons.injEq, List.map_eq_nil_iff] at hTB
          exact ⟨x, by rw [hTB.2], hTB.1⟩
      obtain ⟨y1, y2⟩ := Prod.mk.inj hx2
      obtain ⟨y2, y3⟩ := Prod.mk.inj y2
      obtain ⟨y3, y4⟩ := Prod.mk.inj y3
      exact vx_catch hown [] x [] (by rw [hx1]; rfl) (fun z hz => absurd hz List.not_mem_nil) (by simp [covers, y1, y2, hcov.1, hcov.2]) (by rw [y4]; exact hct) (by rw [y4]; exact hts _ hlink) (va_Nw.use rfl (hZ.2.2.2.2.2.2.2.2.2.2.2 _ hcast)) hce hcv hcl (by rw [y3]; exact kc q9 rr.2 h2 H1 locs1 ls hP1 hS1 hl')
    · have h3 : kx k' rr.2 = some r0 := h2
      rw [hno k' hk0] at h3
      cases h3
  · rw [e1] at h2
    exact kk b rr.2 h2 H1 locs1 ls hP1 hS1 hl'
theorem s_callC2 {a0 b0 h1 h2 ct1 ct2 : Nat} (C : Ok X own cc) (E : Rm X fr lo mcX msX) (TB : Tab X [(a0, b0, h1, ct1), (a0, b0, h2, ct2)]) (hk : KonX vm1 (xl X) y bytes mL rt fr1 lo1 mc ms av rv f) (hv1 : vm1 ≤ xv X) (hM : MM y bytes mL rt n) (hI : MI y) (hl : Cond.methodLink own ix y ∈ tb) (hR : RC (xv X) κ cnt y.cls) (hi : ii < cnt)
    (hcov : a0 ≤ pc ∧ pc < b0) (hct1 : ct1 ≠ 0) (hct2 : ct2 ≠ 0) (hlink1 : Cond.classLink own ct1 (exN 1) ∈ tb) (hlink2 : Cond.classLink own ct2 (exN 2) ∈ tb) (hcast1 : Cond.castable (exN 1) (exN 1) ∈ nwL) (hcast2 : Cond.castable (exN 2) (exN 2) ∈ nwL)
    (hav : av (xa X) = .ref (xa X κ ii) :: As) (hstk : stk = As.reverse ++ .ref (xa X κ ii) :: st) (hn : As.length = n) (hst : (st.map fun v => v.category).sum ≤ 8) (hroom : fr1 + 1 ≤ fr ∧ 8 + (mL + 11) + lo1 ≤ lo ∧ ca + mc ≤ mcX ∧ sl + ms ≤ msX) (hd : decode cc pc = .ok (.invokevirtual ix, 3))
    (kc1 : ∀ (q : Nat) (μ' : Mem), G X r0 (ca + mc) (sl + ms) μ' h1 L [.ref q] (kx 1 μ')) (kc2 : ∀ (q : Nat) (μ' : Mem), G X r0 (ca + mc) (sl + ms) μ' h2 L [.ref q] (kx 2 μ')) (hno : ∀ e : Nat, ¬ e = 1 → ¬ e = 2 → ∀ μ' : Mem, kx e μ' = none)
    (kk : ∀ (r : β) (μ' : Mem), G X r0 (ca + mc) (sl + ms) μ' (pc + 3) L ((rv (xa X) r).toList ++ st) (k r μ')) : G X r0 ca sl μ pc L stk (catX (f μ) kx k) := by
  obtain ⟨p, l, e, R, s, m, args, below, meth, c, D, ad, ty, A, Q, nL, vv⟩ := X
  obtain ⟨hx, hb, hml, hown, hts, hK, hD, hA, hlk, hZ⟩ := C
  have hRX : R = rm4 fr lo mcX msX := E
  have hTB : c.exceptionTable.toList.map (fun h => (h.startPc, h.endPc, h.handlerPc, h.catchType)) = [(a0, b0, h1, ct1), (a0, b0, h2, ct2)] := TB
  obtain ⟨m1, m2, m3⟩ := hM
  obtain ⟨ci, sl0, T, N, r1, r2⟩ := hR
  have r1 : (kdL vv)[κ]? = some (cnt, .inl (ci, sl0)) := r1
  subst hRX
  intro h H locs ls hP hS hl'
  obtain ⟨rr, g1, g2⟩ := Option.bind_eq_some_iff.mp h
  obtain ⟨q0, hq⟩ := cell_at r1 hi
  have hrec := va_recv hK hP r2 (obj_at r1 hq)
  have hav' : av ad = .ref (ad κ ii) :: As := hav
  have hmet := hk vv hv1 D ad ty μ H.size rr g1
  rw [hav'] at hmet
  refine run_goX (rv := rv) (r := rr) (vx_runV (As := As) (rest := st) ⟨hx, hb, hml, hown, hts⟩ hmet (cwV n hts (tb_goodIn (fun w hw => ?_)) rfl rfl rfl ⟨rfl, m3⟩ ⟨hroom.1, hroom.2.1⟩) ⟨kp_blind, hrec, kp_pre hP hK (hD μ) hS hA hZ⟩ rfl hn hl'.1 hstk (lv_room hst) hd ⟨hroom.2.2.1, hroom.2.2.2⟩) hS (wl_A (hD μ) hS hA) (fun k' ce q9 H1 locs1 e1 hP1 hS1 hce hcv hcl => ?_) (fun b H1 locs1 e1 hP1 hS1 => ?_)
  · rcases List.mem_append.mp hw with e1 | e1
    · simp only [List.mem_cons, List.not_mem_nil, or_false] at e1
      rcases e1 with e2 | e2 | e2 | e2
      · rw [e2]; exact hl
      · rw [e2]; exact hI.1
      · rw [e2]; exact hI.2
      · rw [e2]; exact m1
    · exact wm_in m2 w e1
  · rw [e1] at g2
    obtain ⟨x1, x2, hx1, hx2, hx3⟩ : ∃ x1 x2, c.exceptionTable.toList = [x1, x2] ∧ (x1.startPc, x1.endPc, x1.handlerPc, x1.catchType) = (a0, b0, h1, ct1) ∧ (x2.startPc, x2.endPc, x2.handlerPc, x2.catchType) = (a0, b0, h2, ct2) := by
      cases ht : c.exceptionTable.toList with
      | nil => rw [ht] at hTB; cases hTB
      | cons x1 t =>
        cases t with
        | nil => rw [ht] at hTB; cases hTB
        | cons x2 t =>
          rw [ht] at hTB
          simp only [List.map_cons, List.cons.injEq, List.map_eq_nil_iff] at hTB
          exact ⟨x1, x2, by rw [hTB.2.2], hTB.1, hTB.2.1⟩
    obtain ⟨y1, y2⟩ := Prod.mk.inj hx2
    obtain ⟨y2, y3⟩ := Prod.mk.inj y2
    obtain ⟨y3, y4⟩ := Prod.mk.inj y3
    obtain ⟨z1, z2⟩ := Prod.mk.inj hx3
    obtain ⟨z2, z3⟩ := Prod.mk.inj z2
    obtain ⟨z3, z4⟩ := Prod.mk.inj z3
    by_cases hk1 : k' = 1
    · subst hk1
      exact vx_catch hown [] x1 [x2] (by rw [hx1]; rfl) (fun z hz => absurd hz List.not_mem_nil) (by simp [covers, y1, y2, hcov.1, hcov.2]) (by rw [y4]; exact hct1) (by rw [y4]; exact hts _ hlink1) (va_Nw.use rfl (hZ.2.2.2.2.2.2.2.2.2.2.2 _ hcast1)) hce hcv hcl (by rw [y3]; exact kc1 q9 rr.2 g2 H1 locs1 ls hP1 hS1 hl')
    · by_cases hk2 : k' = 2
      · subst hk2
        exact vx_catch hown [x1] x2 [] (by rw [hx1]; rfl) (fun z hz => by
          rw [List.mem_singleton.mp hz]
          exact Or.inr ⟨by rw [y4]; exact hct1, _, by rw [y4]; exact hts _ hlink1, hZ.2.2.2.2.2.2.2.2.1.2.2.2.2.2.2⟩) (by simp [covers, z1, z2, hcov.1, hcov.2]) (by rw [z4]; exact hct2) (by rw [z4]; exact hts _ hlink2) (va_Nw.use rfl (hZ.2.2.2.2.2.2.2.2.2.2.2 _ hcast2)) hce hcv hcl (by rw [z3]; exact kc2 q9 rr.2 g2 H1 locs1 ls hP1 hS1 hl')
      · have g3 : kx k' rr.2 = some r0 := g2
        rw [hno k' hk1 hk2] at g3
        cases g3
  · rw [e1] at g2
    exact kk b rr.2 g2 H1 locs1 ls hP1 hS1 hl'
end CallsC
