/-! ENTRY, ENDS, CALLS of the contracts of part 09 -/
theorem Cst.same {ad : Nat → Nat → Nat} {A : Nat → Prop} {u U : State} {H : Heap} (hv : U.vm = u.vm) (h : Cst ad A u H) : Cst ad A U H := by
  have hvm : u.vm.Alike U.vm := by rw [hv]; exact Vm.Alike.refl u.vm
  obtain ⟨h1, h2, h3, h4, h5, h6, z1, z2, ⟨z3, z4, z5, z6, z7, z8, z9⟩, h7, h8, h9⟩ := h
  exact ⟨h1.moved hvm, h2.moved hvm, h3.moved hvm, h4.moved hvm, h5.moved hvm, h6.moved hvm, z1.moved hvm, z2.moved hvm, ⟨z3.moved hvm, z4.moved hvm, z5.moved hvm, z6.moved hvm, z7.moved hvm, z8.moved hvm, z9.moved hvm⟩, h7.moved hvm, fun q hq => vk_R.same hv (h8 q hq), fun w hw => nw_same (List.mem_filter.mp hw).2 hv.symm (h9 w hw)⟩
theorem kon_of {β : Type} {vm : Nat} {l : Launch} {y : MethodName} {cc : ByteArray} {mL : Nat} {rt : Option FieldType} {fr lo mc ms : Nat} {av : (Nat → Nat → Nat) → List Value} {rv : (Nat → Nat → Nat) → β → Option Value} {f : Mem → Option (β × Mem)} (hy : plainName y.cls = true) (hlen : ∀ ad : Nat → Nat → Nat, (lg_sl (av ad)).length ≤ mL)
    (body : ∀ (X : CX) (r : β × Mem) (μ : Mem), xl X = l → xn X = mL → vm ≤ xv X → Ok X y.cls cc → Fen X rt (rv (xa X) r.1) r.2 fr lo mc ms → G X r 0 0 μ 0 (lv_args 0 (av (xa X))) [] (f μ)) : Kon vm l y cc mL rt fr lo mc ms av rv f := by
  intro vv hvv D ad ty μ sz r hf
  refine Met.ofW (cc := cc) (maxL := mL) (ret := rt) hy rfl ?_
  intro p e s m args below meth c s₁ B hml hv
  obtain ⟨rfl, hsz, hP, hK, hD0, hZ⟩ := hv
  subst hsz
  have hts := atoms_spec (ws := wm y cc mL rt) B.pre
  have h1 := body (p, l, e, (headSpec (wm y cc mL rt) (rm4 fr lo mc ms)).room, s, m, (av ad).toArray, below, meth, c, D, ad, ty, va_A (wl vv ad ty μ) s.heap.size, MQ below (KQ vv D ad ty r.2 (rv ad r.1) (va_A (wl vv ad ty μ) s.heap.size)) (av ad).toArray s mc ms (va_A (wl vv ad ty μ) s.heap.size), mL, vv) r μ rfl rfl hvv
    ⟨B.exec, B.bytes, hml, findClass_of_methodNamed B.named, fun w hw => hts w (List.mem_cons_of_mem _ hw), hK, fun μ' => wl_fst μ' hD0.self, fun q h => Or.inr h, B.notSynchronized, hZ⟩ ⟨B.returns, rfl, rfl⟩ hf s.heap [] _ hP va_S.rf (lv_entry (av ad) (hlen ad))
  rw [lg_entry_eq]
  exact h1
section Ends
variable {X : CX} {own : String} {cc : ByteArray} {fr lo ca sl : Nat} {μ : Mem} {pc : Nat} {L : List (Nat × Value)} {st : List Value}
theorem s_iret (C : Ok X own cc) {r0 : Int32 × Mem} (E : Fen X (some .int) (rvI (xa X) r0.1) r0.2 fr lo ca sl) {v : Int32} (hd : decode cc pc = .ok (.ireturn, 1)) : G X r0 ca sl μ pc L [.int v] (some (v, μ)) := by
  obtain ⟨p, l, e, R, s, m, args, below, meth, c, D, ad, ty, A, Q, nL, vv⟩ := X
  obtain ⟨hx, hb, hml, hown, hts, hK, hD, hA, hlk, hZ⟩ := C
  obtain ⟨hr, hR, hQ⟩ := E
  intro h H locs ls hP hS hl
  cases h
  have hQ2 : Q = MQ below (KQ vv D ad ty μ (some (.int v)) A) args s ca sl A := hQ
  show W p l e R s m args below meth c H locs ca sl Q (F0 m pc ls [.int v])
  rw [hQ2]
  exact W.iret hx hb hr (fun t ht hW => ⟨rfl, by rw [ht]; exact hP, hS.F ht⟩) hS.2.2 hd
theorem s_zret (C : Ok X own cc) {r0 : Int32 × Mem} (E : Fen X (some .boolean) (rvI (xa X) r0.1) r0.2 fr lo ca sl) {v : Int32} (hd : decode cc pc = .ok (.ireturn, 1)) : G X r0 ca sl μ pc L [.int v] (ckZ v (some (v, μ))) := by
  obtain ⟨p, l, e, R, s, m, args, below, meth, c, D, ad, ty, A, Q, nL, vv⟩ := X
  obtain ⟨hx, hb, hml, hown, hts, hK, hD, hA, hlk, hZ⟩ := C
  obtain ⟨hr, hR, hQ⟩ := E
  intro h H locs ls hP hS hl
  unfold ckZ at h
  split at h
  case isFalse => cases h
  rename_i hz
  cases h
  have hQ2 : Q = MQ below (KQ vv D ad ty μ (some (.int v)) A) args s ca sl A := hQ
  show W p l e R s m args below meth c H locs ca sl Q (F0 m pc ls [.int v])
  rw [hQ2]
  exact W.zret hx hb hr (by rcases hz with rfl | rfl <;> rfl) (fun t ht hW => ⟨rfl, by rw [ht]; exact hP, hS.F ht⟩) hS.2.2 hd
theorem s_lret (C : Ok X own cc) {r0 : Int64 × Mem} (E : Fen X (some .long) (rvJ (xa X) r0.1) r0.2 fr lo ca sl) {v : Int64} (hd : decode cc pc = .ok (.lreturn, 1)) : G X r0 ca sl μ pc L [.long v] (some (v, μ)) := by
  obtain ⟨p, l, e, R, s, m, args, below, meth, c, D, ad, ty, A, Q, nL, vv⟩ := X
  obtain ⟨hx, hb, hml, hown, hts, hK, hD, hA, hlk, hZ⟩ := C
  obtain ⟨hr, hR, hQ⟩ := E
  intro h H locs ls hP hS hl
  cases h
  have hQ2 : Q = MQ below (KQ vv D ad ty μ (some (.long v)) A) args s ca sl A := hQ
  show W p l e R s m args below meth c H locs ca sl Q (F0 m pc ls [.long v])
  rw [hQ2]
  exact W.lret hx hb hr (fun t ht hW => ⟨rfl, by rw [ht]; exact hP, hS.F ht⟩) hS.2.2 hd
theorem s_aret (C : Ok X own cc) {κ : Nat} {Cn : String} {r0 : Nat × Mem} (E : Fen X (some (.object Cn)) (rvA κ (xa X) r0.1) r0.2 fr lo ca sl) {v : Nat} (hd : decode cc pc = .ok (.areturn, 1)) : G X r0 ca sl μ pc L [.ref (xa X κ v)] (some (v, μ)) := by
  obtain ⟨p, l, e, R, s, m, args, below, meth, c, D, ad, ty, A, Q, nL, vv⟩ := X
  obtain ⟨hx, hb, hml, hown, hts, hK, hD, hA, hlk, hZ⟩ := C
  obtain ⟨hr, hR, hQ⟩ := E
  intro h H locs ls hP hS hl
  cases h
  have hQ2 : Q = MQ below (KQ vv D ad ty μ (some (.ref (ad κ v))) A) args s ca sl A := hQ
  show W p l e R s m args below meth c H locs ca sl Q (F0 m pc ls [.ref (ad κ v)])
  rw [hQ2]
  exact W.aret hx hb hr (Or.inl ⟨_, rfl⟩) (Or.inr ⟨_, rfl⟩) (fun t ht hW => ⟨rfl, by rw [ht]; exact hP, hS.F ht⟩) hS.2.2 hd
theorem s_vret (C : Ok X own cc) {r0 : Unit × Mem} (E : Fen X none (rvV (xa X) r0.1) r0.2 fr lo ca sl) (hd : decode cc pc = .ok (.return_, 1)) : G X r0 ca sl μ pc L [] (some ((), μ)) := by
  obtain ⟨p, l, e, R, s, m, args, below, meth, c, D, ad, ty, A, Q, nL, vv⟩ := X
  obtain ⟨hx, hb, hml, hown, hts, hK, hD, hA, hlk, hZ⟩ := C
  obtain ⟨hr, hR, hQ⟩ := E
  intro h H locs ls hP hS hl
  cases h
  have hQ2 : Q = MQ below (KQ vv D ad ty μ none A) args s ca sl A := hQ
  show W p l e R s m args below meth c H locs ca sl Q (F0 m pc ls [])
  rw [hQ2]
  exact W.vret hx hb hr (fun t ht hW => ⟨rfl, by rw [ht]; exact hP, hS.F ht⟩) hS.2.2 hd
end Ends
section Runs10
variable {p : Program} {l : Launch} {e : Env} {R : Room} {s : State} {m : MethodId} {args : Array Value} {below : List Frame} {meth : Method} {c : Code} {H : Heap} {locs : List Loc} {cells slots : Nat} {Q : State → Prop}
variable {pc : Nat} {ls : Array Slot} {rest st0 : List Value} {a : Array Value} {A A1 : Nat → Prop} {mc ms : Nat} {D : va_G} {ad : Nat → Nat → Nat} {ty : Nat → ClassId} {μ μ1 : Mem} {vv : Nat}
theorem run_go {v : Option Value} (hr : va_Run p l e R s m args below meth c H locs cells slots mc ms (F0 m pc ls st0) rest (KQ vv D ad ty μ1 v A1 a) A1) (hS : va_S A s.heap H locs) (hA : ∀ q : Nat, A1 q → A q)
    (kk : ∀ (H1 : Heap) (locs1 : List Loc), va_P D vwCl (wl vv ad ty μ1) H1 → va_S A s.heap H1 locs1 → W p l e R s m args below meth c H1 locs1 (cells + mc) (slots + ms) Q (F0 m (pc + 3) ls (v.toList ++ rest))) : W p l e R s m args below meth c H locs cells slots Q (F0 m pc ls st0) := by
  intro T hT X
  obtain ⟨v', st₀, t, T', L, h0, X', hL, e1, e2, ⟨hv, hP1, hz, hk⟩, st⟩ := hr T hT X
  cases hv
  rw [h0] at hz hk
  obtain ⟨t2, a1, b1⟩ := kk T'.heap (locs ++ L) (by rw [e1]; exact hP1)
    ⟨Nat.le_trans hS.1 (by rw [e1]; exact hz), fun q h1 h2 => by rw [e1, hk q (Nat.lt_of_lt_of_le h1 hS.1) (fun z => h2 (hA q z))]; exact hS.2.1 q h1 h2, fun q hq => by
      rcases List.mem_append.mp hq with h | h
      · exact hS.2.2 q h
      · exact hA _ (hL q h)⟩ T' rfl X'
  exact ⟨t2, st t2 a1, b1⟩
theorem kp_blind {sz : Nat} {av : List Value} : FrameBlind (KP vv D ad ty μ sz av) := fun a U g mk q => by
  obtain ⟨q0, q1, qP, qK, qD, qZ⟩ := q
  exact ⟨q0, q1, qP, va_K.moved (u := U) (U := U.calling g mk a) (Vm.Alike.refl U.vm) qK, qD, Cst.same (u := U) (U := U.calling g mk a) rfl qZ⟩
theorem wl_A (hD : va_D A (wl vv ad ty μ)) (hS : va_S A s.heap H locs) (hA : ∀ q : Nat, s.heap.size ≤ q → A q) : ∀ q : Nat, va_A (wl vv ad ty μ) H.size q → A q := by
  intro q h
  rcases h with ⟨k, e, h⟩ | h
  · exact hD.2 k _ h
  · exact hA q (Nat.le_trans hS.1 h)
theorem kp_pre {av : List Value} (hP : va_P D vwCl (wl vv ad ty μ) H) (hK : va_K D vwCl (tys ty) s) (hD : va_D A (wl vv ad ty μ)) (hS : va_S A s.heap H locs) (hA : ∀ q : Nat, s.heap.size ≤ q → A q) (hZ : Cst ad A s s.heap) : ∀ U : State, U.heap = H → s.WarmedH U.vm → KP vv D ad ty μ H.size av av.toArray U := by
  intro U hU hW
  exact ⟨rfl, by rw [hU], by rw [hU]; exact hP, va_K.moved hW.alike hK, hD.weaken (fun _ _ _ _ => trivial), by rw [hU]; exact ((hZ.kept hS.2.1).narrow (wl_A hD hS hA)).moved hW⟩
end Runs10
/-- what a call rests on: the method's words -/
def MM (y : MethodName) (bytes : ByteArray) (mL : Nat) (rt : Option FieldType) (n : Nat) : Prop := Cond.initialized y.cls ∈ tb ∧ Cond.code y bytes mL rt ∈ tb ∧ y.cls ≠ "java/lang/invoke/MethodHandle" ∧ y.cls ≠ "java/lang/invoke/VarHandle" ∧ (parseMethodDescriptor y.desc).map (fun d => d.parameters.length) = some n
def MI (y : MethodName) : Prop := Cond.instanceMethod y ∈ tb ∧ Cond.selects y.cls y y ∈ tb
/-- the receiver's kind is of the class -/
def RC (vv : Nat) (κ cnt : Nat) (Cn : String) : Prop := ∃ (ci : Nat) (sl : List SP) (T : u_T) (N : Nat), (kdL vv)[κ]? = some (cnt, .inl (ci, sl)) ∧ vwCl[ci]? = some (Cn, T, N)
theorem tb_goodIn {ws : List Cond} (h : ∀ w ∈ ws, w ∈ tb) : GoodIn tb ws := fun w hw => tb_good w (h w hw)
theorem wm_in {y : MethodName} {bytes : ByteArray} {mL : Nat} {rt : Option FieldType} (h : Cond.code y bytes mL rt ∈ tb) : ∀ w ∈ wm y bytes mL rt, w ∈ tb := fun w hw => by
  rcases List.mem_cons.mp hw with e | e
  · rw [e]; exact h
  · exact e
section Calls10
variable {X : CX} {own : String} {cc : ByteArray} {α β : Type} {r0 : α} {ca sl fr lo fr1 lo1 mcX msX mc ms : Nat} {μ : Mem} {pc : Nat} {L : List (Nat × Value)} {st stk As : List Value} {rtX rt : Option FieldType} {vX : Option Value} {μX : Mem}
variable {y : MethodName} {bytes : ByteArray} {mL n ix κ cnt ii vm1 : Nat} {av : (Nat → Nat → Nat) → List Value} {rv : (Nat → Nat → Nat) → β → Option Value} {f : Mem → Option (β × Mem)} {k : β → Mem → Option α}
theorem s_callV (C : Ok X own cc) (E : Rm X fr lo mcX msX) (hk : Kon vm1 (xl X) y bytes mL rt fr1 lo1 mc ms av rv f) (hv1 : vm1 ≤ xv X) (hM : MM y bytes mL rt n) (hI : MI y) (hl : Cond.methodLink own ix y ∈ tb) (hR : RC (xv X) κ cnt y.cls) (hi : ii < cnt)
    (hav : av (xa X) = .ref (xa X κ ii) :: As) (hstk : stk = As.reverse ++ .ref (xa X κ ii) :: st) (hn : As.length = n) (hst : (st.map fun v => v.category).sum ≤ 8) (hroom : fr1 + 1 ≤ fr ∧ 8 + (mL + 11) + lo1 ≤ lo ∧ ca + mc ≤ mcX ∧ sl + ms ≤ msX) (hd : decode cc pc = .ok (.invokevirtual ix, 3))
    (kk : ∀ (r : β) (μ' : Mem), G X r0 (ca + mc) (sl + ms) μ' (pc + 3) L ((rv (xa X) r).toList ++ st) (k r μ')) : G X r0 ca sl μ pc L stk (bnd (f μ) k) := by
  obtain ⟨p, l, e, R, s, m, args, below, meth, c, D, ad, ty, A, Q, nL, vv⟩ := X
  obtain ⟨hx, hb, hml, hown, hts, hK, hD, hA, hlk, hZ⟩ := C
  have hRX : R = rm4 fr lo mcX msX := E
  obtain ⟨m1, m2, m3⟩ := hM
  obtain ⟨ci, sl0, T, N, r1, r2⟩ := hR
  have r1 : (kdL vv)[κ]? = some (cnt, .inl (ci, sl0)) := r1
  subst hRX
  intro h H locs ls hP hS hl'
  obtain ⟨rr, h1, h2⟩ := Option.bind_eq_some_iff.mp h
  obtain ⟨r, μ'⟩ := rr
  obtain ⟨q0, hq⟩ := cell_at r1 hi
  have hrec := va_recv hK hP r2 (obj_at r1 hq)
  have hav' : av ad = .ref (ad κ ii) :: As := hav
  have hmet := hk vv hv1 D ad ty μ H.size (r, μ') h1
  rw [hav'] at hmet
  refine run_go (v := rv ad r) (μ1 := μ') (va_runV (As := As) (rest := st) ⟨hx, hb, hml, hown, hts⟩ hmet (cwV n hts (tb_goodIn (fun w hw => ?_)) rfl rfl rfl ⟨rfl, m3⟩ ⟨hroom.1, hroom.2.1⟩) ⟨kp_blind, hrec, kp_pre hP hK (hD μ) hS hA hZ⟩ rfl hn hl'.1 hstk (lv_room hst) hd ⟨hroom.2.2.1, hroom.2.2.2⟩) hS (wl_A (hD μ) hS hA) (fun H1 locs1 hP1 hS1 => ?_)
  · rcases List.mem_append.mp hw with e1 | e1
    · simp only [List.mem_cons, List.not_mem_nil, or_false] at e1
      rcases e1 with e2 | e2 | e2 | e2
      · rw [e2]; exact hl
      · rw [e2]; exact hI.1
      · rw [e2]; exact hI.2
      · rw [e2]; exact m1
    · exact wm_in m2 w e1
  · exact kk r μ' h2 H1 locs1 ls hP1 hS1 hl'
theorem s_callS (C : Ok X own cc) (E : Rm X fr lo mcX msX) (hk : Kon vm1 (xl X) y bytes mL rt fr1 lo1 mc ms av rv f) (hv1 : vm1 ≤ xv X) (hM : MM y bytes mL rt n) (hI : Cond.static y ∈ tb) (hl : Cond.methodLink own ix y ∈ tb) (hy : y.cls = own)
    (hav : av (xa X) = As) (hstk : stk = As.reverse ++ st) (hn : As.length = n) (hst : (st.map fun v => v.category).sum ≤ 8) (hroom : fr1 + 1 ≤ fr ∧ 8 + (mL + 11) + lo1 ≤ lo ∧ ca + mc ≤ mcX ∧ sl + ms ≤ msX) (hd : decode cc pc = .ok (.invokestatic ix, 3))
    (kk : ∀ (r : β) (μ' : Mem), G X r0 (ca + mc) (sl + ms) μ' (pc + 3) L ((rv (xa X) r).toList ++ st) (k r μ')) : G X r0 ca sl μ pc L stk (bnd (f μ) k) := by
  obtain ⟨p, l, e, R, s, m, args, below, meth, c, D, ad, ty, A, Q, nL, vv⟩ := X
  obtain ⟨hx, hb, hml, hown, hts, hK, hD, hA, hlk, hZ⟩ := C
  have hRX : R = rm4 fr lo mcX msX := E
  obtain ⟨m1, m2, m3⟩ := hM
  subst hRX
  intro h H locs ls hP hS hl'
  obtain ⟨rr, h1, h2⟩ := Option.bind_eq_some_iff.mp h
  obtain ⟨r, μ'⟩ := rr
  have hav' : av ad = As := hav
  have hmet := hk vv hv1 D ad ty μ H.size (r, μ') h1
  rw [hav'] at hmet
  refine run_go (v := rv ad r) (μ1 := μ') (va_runS (As := As) (rest := st) ⟨hx, hb, hml, hown, hts⟩ hmet (cwS n hts (tb_goodIn (fun w hw => ?_)) rfl rfl rfl ⟨hy, m3⟩ ⟨hroom.1, hroom.2.1⟩) ⟨kp_blind, kp_pre hP hK (hD μ) hS hA hZ⟩ rfl hn hl'.1 hstk (lv_room hst) hd ⟨hroom.2.2.1, hroom.2.2.2⟩) hS (wl_A (hD μ) hS hA) (fun H1 locs1 hP1 hS1 => ?_)
  · rcases List.mem_append.mp hw with e1 | e1
    · simp only [List.mem_cons, List.not_mem_nil, or_false] at e1
      rcases e1 with e2 | e2 | e2
      · rw [e2]; exact hl
      · rw [e2]; exact hI
      · rw [e2, ← hy]; exact m1
    · exact wm_in m2 w e1
  · exact kk r μ' h2 H1 locs1 ls hP1 hS1 hl'
theorem s_callSN {host : String} (C : Ok X own cc) (E : Rm X fr lo mcX msX) (hk : Kon vm1 (xl X) y bytes mL rt fr1 lo1 mc ms av rv f) (hv1 : vm1 ≤ xv X) (hM : MM y bytes mL rt n) (hI : Cond.static y ∈ tb) (hl : Cond.methodLinkNest own ix y host ∈ nwL)
    (hav : av (xa X) = As) (hstk : stk = As.reverse ++ st) (hn : As.length = n) (hst : (st.map fun v => v.category).sum ≤ 8) (hroom : fr1 + 1 ≤ fr ∧ 8 + (mL + 11) + lo1 ≤ lo ∧ ca + mc ≤ mcX ∧ sl + ms ≤ msX) (hd : decode cc pc = .ok (.invokestatic ix, 3))
    (kk : ∀ (r : β) (μ' : Mem), G X r0 (ca + mc) (sl + ms) μ' (pc + 3) L ((rv (xa X) r).toList ++ st) (k r μ')) : G X r0 ca sl μ pc L stk (bnd (f μ) k) := by
  obtain ⟨p, l, e, R, s, m, args, below, meth, c, D, ad, ty, A, Q, nL, vv⟩ := X
  obtain ⟨hx, hb, hml, hown, hts, hK, hD, hA, hlk, hZ⟩ := C
  have hRX : R = rm4 fr lo mcX msX := E
  obtain ⟨m1, m2, m3⟩ := hM
  subst hRX
  intro h H locs ls hP hS hl'
  obtain ⟨rr, h1, h2⟩ := Option.bind_eq_some_iff.mp h
  obtain ⟨r, μ'⟩ := rr
  have hav' : av ad = As := hav
  have hmet := hk vv hv1 D ad ty μ H.size (r, μ') h1
  rw [hav'] at hmet
  exact run_go (v := rv ad r) (μ1 := μ') (va_runSN (As := As) (rest := st) ⟨hx, hb, hml, hown, hts⟩ hmet ⟨va_cnB (host := host) n hts (tb_goodIn (wm_in m2)) rfl rfl rfl (hZ.2.2.2.2.2.2.2.2.2.2.2 _ hl) (hts _ m1) m3 ⟨hroom.1, hroom.2.1⟩, hts _ hI, trivial⟩ ⟨kp_blind, kp_pre hP hK (hD μ) hS hA hZ⟩ rfl hn hl'.1 hstk (lv_room hst) hd ⟨hroom.2.2.1, hroom.2.2.2⟩) hS (wl_A (hD μ) hS hA) (fun H1 locs1 hP1 hS1 => kk r μ' h2 H1 locs1 ls hP1 hS1 hl')
theorem s_callVN {host : String} (C : Ok X own cc) (E : Rm X fr lo mcX msX) (hk : Kon vm1 (xl X) y bytes mL rt fr1 lo1 mc ms av rv f) (hv1 : vm1 ≤ xv X) (hM : MM y bytes mL rt n) (hI : MI y) (hl : Cond.methodLinkNest own ix y host ∈ nwL) (hR : RC (xv X) κ cnt y.cls) (hi : ii < cnt)
    (hav : av (xa X) = .ref (xa X κ ii) :: As) (hstk : stk = As.reverse ++ .ref (xa X κ ii) :: st) (hn : As.length = n) (hst : (st.map fun v => v.category).sum ≤ 8) (hroom : fr1 + 1 ≤ fr ∧ 8 + (mL + 11) + lo1 ≤ lo ∧ ca + mc ≤ mcX ∧ sl + ms ≤ msX) (hd : decode cc pc = .ok (.invokevirtual ix, 3))
    (kk : ∀ (r : β) (μ' : Mem), G X r0 (ca + mc) (sl + ms) μ' (pc + 3) L ((rv (xa X) r).toList ++ st) (k r μ')) : G X r0 ca sl μ pc L stk (bnd (f μ) k) := by
  obtain ⟨p, l, e, R, s, m, args, below, meth, c, D, ad, ty, A, Q, nL, vv⟩ := X
  obtain ⟨hx, hb, hml, hown, hts, hK, hD, hA, hlk, hZ⟩ := C
  have hRX : R = rm4 fr lo mcX msX := E
  obtain ⟨m1, m2, m3⟩ := hM
  obtain ⟨ci, sl0, T, N, r1, r2⟩ := hR
  have r1 : (kdL vv)[κ]? = some (cnt, .inl (ci, sl0)) := r1
  subst hRX
  intro h H locs ls hP hS hl'
  obtain ⟨rr, h1, h2⟩ := Option.bind_eq_some_iff.mp h
  obtain ⟨r, μ'⟩ := rr
  obtain ⟨q0, hq⟩ := cell_at r1 hi
  have hrec := va_recv hK hP r2 (obj_at r1 hq)
  have hav' : av ad = .ref (ad κ ii) :: As := hav
  have hmet := hk vv hv1 D ad ty μ H.size (r, μ') h1
  rw [hav'] at hmet
  exact run_go (v := rv ad r) (μ1 := μ') (va_runVN (As := As) (rest := st) ⟨hx, hb, hml, hown, hts⟩ hmet ⟨va_cnB (host := host) n hts (tb_goodIn (wm_in m2)) rfl rfl rfl (hZ.2.2.2.2.2.2.2.2.2.2.2 _ hl) (hts _ m1) m3 ⟨hroom.1, hroom.2.1⟩, hts _ hI.1, hts _ hI.2⟩ ⟨kp_blind, hrec, kp_pre hP hK (hD μ) hS hA hZ⟩ rfl hn hl'.1 hstk (lv_room hst) hd ⟨hroom.2.2.1, hroom.2.2.2⟩) hS (wl_A (hD μ) hS hA) (fun H1 locs1 hP1 hS1 => kk r μ' h2 H1 locs1 ls hP1 hS1 hl')
end Calls10
