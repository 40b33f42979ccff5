/-! METHODS THAT RETURN OR THROW: their contracts, ends and calls -/
def exN : Nat → String
  | 1 => "java/util/NoSuchElementException"
  | _ => "java/lang/IllegalArgumentException"
/-- what such a method's pure text answers: a throw (1, 2) or a value, and the memory -/
abbrev RX (β : Type) : Type := (Nat ⊕ β) × Mem
def XQ {β : Type} (vv : Nat) (D : va_G) (ad : Nat → Nat → Nat) (ty : Nat → ClassId) (rv : (Nat → Nat → Nat) → β → Option Value) (r : RX β) (A : Nat → Prop) : Array Value → State → Outcome → State → Prop := fun a st oc t => ∃ b : β, r.1 = .inr b ∧ KQ vv D ad ty r.2 (rv ad b) A a st oc t
def XX {β : Type} (vv : Nat) (D : va_G) (ad : Nat → Nat → Nat) (ty : Nat → ClassId) (r : RX β) (A : Nat → Prop) : String → State → State → Prop := fun E st t => ∃ k : Nat, r.1 = .inl k ∧ E = exN k ∧ va_P D vwCl (wl vv ad ty r.2) t.heap ∧ va_F A st t
def KonX {β : Type} (vm : Nat) (l : Launch) (y : MethodName) (cc : ByteArray) (mL : Nat) (rt : Option FieldType) (fr lo mc ms : Nat) (av : (Nat → Nat → Nat) → List Value) (rv : (Nat → Nat → Nat) → β → Option Value) (f : Mem → Option (RX β)) : Prop :=
  ∀ (vv : Nat) (_ : vm ≤ vv) (D : va_G) (ad : Nat → Nat → Nat) (ty : Nat → ClassId) (μ : Mem) (sz : Nat) (r : RX β), f μ = some r → vx_Met l y (wm y cc mL rt) (rm4 fr lo mc ms) (KP vv D ad ty μ sz (av ad)) (XQ vv D ad ty rv r (va_A (wl vv ad ty μ) sz)) (XX vv D ad ty r (va_A (wl vv ad ty μ) sz)) mc ms (va_A (wl vv ad ty μ) sz)
def FenX {β : Type} : CX → Option FieldType → ((Nat → Nat → Nat) → β → Option Value) → RX β → Nat → Nat → Nat → Nat → Prop
  | (p, l, e, R, s, m, args, below, meth, c, D, ad, ty, A, Q, nL, vv), rt, rv, r, fr, lo, mc, ms => meth.sig.returnType = rt ∧ R = rm4 fr lo mc ms ∧ Q = vx_MQ below (XQ vv D ad ty rv r A) (XX vv D ad ty r A) args s mc ms A ∧ (∀ x ∈ c.exceptionTable.toList, False)
theorem fex_rm {β : Type} {X : CX} {rt : Option FieldType} {rv : (Nat → Nat → Nat) → β → Option Value} {r : RX β} {fr lo mc ms : Nat} (E : FenX X rt rv r fr lo mc ms) : Rm X fr lo mc ms := by
  obtain ⟨p, l, e, R, s, m, args, below, meth, c, D, ad, ty, A, Q, nL, vv⟩ := X
  exact E.2.1
def bndX {β γ : Type} (o : Option (RX β)) (k : β → Mem → Option (RX γ)) : Option (RX γ) := o.bind fun q => match q.1 with
  | .inl e => some (.inl e, q.2)
  | .inr b => k b q.2
theorem konX_of {β : Type} {vm : Nat} {l : Launch} {y : MethodName} {cc : ByteArray} {mL : Nat} {rt : Option FieldType} {fr lo mc ms : Nat} {av : (Nat → Nat → Nat) → List Value} {rv : (Nat → Nat → Nat) → β → Option Value} {f : Mem → Option (RX β)} (hy : plainName y.cls = true) (hlen : ∀ ad : Nat → Nat → Nat, (lg_sl (av ad)).length ≤ mL)
    (body : ∀ (X : CX) (r : RX β) (μ : Mem), xl X = l → xn X = mL → vm ≤ xv X → Ok X y.cls cc → FenX X rt rv r fr lo mc ms → G X r 0 0 μ 0 (lv_args 0 (av (xa X))) [] (f μ)) : KonX vm l y cc mL rt fr lo mc ms av rv f := by
  intro vv hvv D ad ty μ sz r hf
  refine vx_ofW (cc := cc) (maxL := mL) (ret := rt) hy rfl ?_
  intro p e s m args below meth c s₁ B hml hnx hv
  obtain ⟨rfl, hsz, hP, hK, hD0, hZ⟩ := hv
  subst hsz
  have hts := atoms_spec (ws := wm y cc mL rt) B.pre
  have h1 := body (p, l, e, (headSpec (wm y cc mL rt) (rm4 fr lo mc ms)).room, s, m, (av ad).toArray, below, meth, c, D, ad, ty, va_A (wl vv ad ty μ) s.heap.size, vx_MQ below (XQ vv D ad ty rv r (va_A (wl vv ad ty μ) s.heap.size)) (XX vv D ad ty r (va_A (wl vv ad ty μ) s.heap.size)) (av ad).toArray s mc ms (va_A (wl vv ad ty μ) s.heap.size), mL, vv) r μ rfl rfl hvv
    ⟨B.exec, B.bytes, hml, findClass_of_methodNamed B.named, fun w hw => hts w (List.mem_cons_of_mem _ hw), hK, fun μ' => wl_fst μ' hD0.self, fun q h => Or.inr h, B.notSynchronized, hZ⟩ ⟨B.returns, rfl, rfl, hnx⟩ hf s.heap [] _ hP va_S.rf (lv_entry (av ad) (hlen ad))
  rw [lg_entry_eq]
  exact h1
section EndsX
variable {X : CX} {own : String} {cc : ByteArray} {fr lo ca sl mc ms : Nat} {μ : Mem} {pc : Nat} {L : List (Nat × Value)} {st : List Value}
theorem s_iretX (C : Ok X own cc) {r0 : RX Int32} (E : FenX X (some .int) rvI r0 fr lo mc ms) (hcs : ca ≤ mc ∧ sl ≤ ms) {v : Int32} (hd : decode cc pc = .ok (.ireturn, 1)) : G X r0 ca sl μ pc L [.int v] (some (.inr v, μ)) := by
  obtain ⟨p, l, e, R, s, m, args, below, meth, c, D, ad, ty, A, Q, nL, vv⟩ := X
  obtain ⟨hx, hb, hml, hown, hts, hK, hD, hA, hlk, hZ⟩ := C
  obtain ⟨hr, hR, hQ, hnx⟩ := E
  intro h H locs ls hP hS hl
  cases h
  have hQ2 : Q = vx_MQ below (XQ vv D ad ty rvI (.inr v, μ) A) (XX vv D ad ty ((.inr v, μ) : RX Int32) A) args s mc ms A := hQ
  rw [hQ2]
  exact W.widen hcs.1 hcs.2 (vx_ret (W.iret hx hb hr (fun t ht hW => ⟨v, rfl, rfl, by rw [ht]; exact hP, hS.F ht⟩) hS.2.2 hd))
theorem s_zretX (C : Ok X own cc) {r0 : RX Int32} (E : FenX X (some .boolean) rvI r0 fr lo mc ms) (hcs : ca ≤ mc ∧ sl ≤ ms) {v : Int32} (hd : decode cc pc = .ok (.ireturn, 1)) : G X r0 ca sl μ pc L [.int v] (ckZ v (some (.inr v, μ))) := by
  obtain ⟨p, l, e, R, s, m, args, below, meth, c, D, ad, ty, A, Q, nL, vv⟩ := X
  obtain ⟨hx, hb, hml, hown, hts, hK, hD, hA, hlk, hZ⟩ := C
  obtain ⟨hr, hR, hQ, hnx⟩ := E
  intro h H locs ls hP hS hl
  unfold ckZ at h
  split at h
  case isFalse => cases h
  rename_i hz
  cases h
  have hQ2 : Q = vx_MQ below (XQ vv D ad ty rvI (.inr v, μ) A) (XX vv D ad ty ((.inr v, μ) : RX Int32) A) args s mc ms A := hQ
  rw [hQ2]
  exact W.widen hcs.1 hcs.2 (vx_ret (W.zret hx hb hr (by rcases hz with rfl | rfl <;> rfl) (fun t ht hW => ⟨v, rfl, rfl, by rw [ht]; exact hP, hS.F ht⟩) hS.2.2 hd))
theorem s_lretX (C : Ok X own cc) {r0 : RX Int64} (E : FenX X (some .long) rvJ r0 fr lo mc ms) (hcs : ca ≤ mc ∧ sl ≤ ms) {v : Int64} (hd : decode cc pc = .ok (.lreturn, 1)) : G X r0 ca sl μ pc L [.long v] (some (.inr v, μ)) := by
  obtain ⟨p, l, e, R, s, m, args, below, meth, c, D, ad, ty, A, Q, nL, vv⟩ := X
  obtain ⟨hx, hb, hml, hown, hts, hK, hD, hA, hlk, hZ⟩ := C
  obtain ⟨hr, hR, hQ, hnx⟩ := E
  intro h H locs ls hP hS hl
  cases h
  have hQ2 : Q = vx_MQ below (XQ vv D ad ty rvJ (.inr v, μ) A) (XX vv D ad ty ((.inr v, μ) : RX Int64) A) args s mc ms A := hQ
  rw [hQ2]
  exact W.widen hcs.1 hcs.2 (vx_ret (W.lret hx hb hr (fun t ht hW => ⟨v, rfl, rfl, by rw [ht]; exact hP, hS.F ht⟩) hS.2.2 hd))
theorem s_aretX (C : Ok X own cc) {κ : Nat} {Cn : String} {r0 : RX Nat} (E : FenX X (some (.object Cn)) (rvA κ) r0 fr lo mc ms) (hcs : ca ≤ mc ∧ sl ≤ ms) {v : Nat} (hd : decode cc pc = .ok (.areturn, 1)) : G X r0 ca sl μ pc L [.ref (xa X κ v)] (some (.inr v, μ)) := by
  obtain ⟨p, l, e, R, s, m, args, below, meth, c, D, ad, ty, A, Q, nL, vv⟩ := X
  obtain ⟨hx, hb, hml, hown, hts, hK, hD, hA, hlk, hZ⟩ := C
  obtain ⟨hr, hR, hQ, hnx⟩ := E
  intro h H locs ls hP hS hl
  cases h
  have hQ2 : Q = vx_MQ below (XQ vv D ad ty (rvA κ) (.inr v, μ) A) (XX vv D ad ty ((.inr v, μ) : RX Nat) A) args s mc ms A := hQ
  show W p l e R s m args below meth c H locs ca sl Q (F0 m pc ls [.ref (ad κ v)])
  rw [hQ2]
  exact W.widen hcs.1 hcs.2 (vx_ret (W.aret hx hb hr (Or.inl ⟨_, rfl⟩) (Or.inr ⟨_, rfl⟩) (fun t ht hW => ⟨v, rfl, rfl, by rw [ht]; exact hP, hS.F ht⟩) hS.2.2 hd))
theorem s_vretX (C : Ok X own cc) {r0 : RX Unit} (E : FenX X none rvV r0 fr lo mc ms) (hcs : ca ≤ mc ∧ sl ≤ ms) (hd : decode cc pc = .ok (.return_, 1)) : G X r0 ca sl μ pc L [] (some (.inr (), μ)) := by
  obtain ⟨p, l, e, R, s, m, args, below, meth, c, D, ad, ty, A, Q, nL, vv⟩ := X
  obtain ⟨hx, hb, hml, hown, hts, hK, hD, hA, hlk, hZ⟩ := C
  obtain ⟨hr, hR, hQ, hnx⟩ := E
  intro h H locs ls hP hS hl
  cases h
  have hQ2 : Q = vx_MQ below (XQ vv D ad ty rvV (.inr (), μ) A) (XX vv D ad ty ((.inr (), μ) : RX Unit) A) args s mc ms A := hQ
  rw [hQ2]
  exact W.widen hcs.1 hcs.2 (vx_ret (W.vret hx hb hr (fun t ht hW => ⟨(), rfl, rfl, by rw [ht]; exact hP, hS.F ht⟩) hS.2.2 hd))
theorem va_P_grow {D : va_G} {cl : List vw_C} {ws : va_W} {H H1 : Heap} (hP : va_P D cl ws H) (hk : ∀ q : Nat, q < H.size → H1[q]? = H[q]?) : va_P D cl ws H1 := fun k q hq => (hP k q hq).kept (hk _ (hP k q hq).lt)
theorem va_S_grow {A : Nat → Prop} {H0 H H1 : Heap} {locs : List Loc} (hS : va_S A H0 H locs) (hz : H.size ≤ H1.size) (hk : ∀ q : Nat, q < H.size → H1[q]? = H[q]?) : va_S A H0 H1 locs :=
  ⟨Nat.le_trans hS.1 hz, fun q h1 h2 => by rw [hk q (Nat.lt_of_lt_of_le h1 hS.1)]; exact hS.2.1 q h1 h2, hS.2.2⟩
/-- new E(); athrow -/
theorem s_throw {β : Type} {rt : Option FieldType} {rv : (Nat → Nat → Nat) → β → Option Value} {r0 : RX β} {ik ic k : Nat} {names : List String} (hls : (xl X).stackTraces = false) (C : Ok X own cc) (E : FenX X rt rv r0 fr lo mc ms) (hcls : Bundle.fit (exN k) = true) (hnames : ∀ n ∈ names, Bundle.fit n = true)
    (hk : Cond.classLink own ik (exN k) ∈ tb) (hini : Cond.initialized (exN k) ∈ tb) (hat : ∀ w ∈ vx_at0 own ic (exN k) names, w ∈ tb ∨ w ∈ nwL) (hgood : ∀ w ∈ Cond.classLink own ik (exN k) :: Cond.initialized (exN k) :: vx_at0 own ic (exN k) names, vx_ot w = true)
    (d0 : decode cc pc = .ok (.new ik, 3)) (d3 : decode cc (pc + 3) = .ok (.dup, 1)) (d4 : decode cc (pc + 4) = .ok (.invokespecial ic, 3)) (d7 : decode cc (pc + 7) = .ok (.athrow, 1))
    (hroom : names.length + 3 < fr ∧ (st.map fun v => v.category).sum + (13 * (names.length + 1) + 42) ≤ lo ∧ ca + 1 ≤ mc ∧ sl + 6 ≤ ms) : G X r0 ca sl μ pc L st (some (.inl k, μ)) := by
  obtain ⟨p, l, e, R, s, m, args, below, meth, c, D, ad, ty, A, Q, nL, vv⟩ := X
  obtain ⟨hx, hb, hml, hown, hts, hK, hD, hA, hlk, hZ⟩ := C
  obtain ⟨hr, hR, hQ, hnx⟩ := E
  subst hR
  intro h H locs ls hP hS hl
  cases h
  have hQ2 : Q = vx_MQ below (XQ vv D ad ty rv (.inl k, μ) A) (XX vv D ad ty ((.inl k, μ) : RX β) A) args s mc ms A := hQ
  rw [hQ2]
  exact vx_throw0 hx hb hls hown hcls hnames (hts _ hk) (hts _ hini) (fun w hw => by
      rcases hat w hw with q | q
      · exact hts _ q
      · exact va_Nw.use (by have := (List.mem_filter.mp q).2; cases w <;> first | rfl | cases this) (hZ.2.2.2.2.2.2.2.2.2.2.2 w q))
    hgood hZ.2.2.2.2.2.2.2.2.1.2.2.2.2.1 hZ.2.2.2.2.2.2.2.2.1.2.2.2.2.2.1 hS (hl.1.trans hml.symm) d0 d3 d4 d7 (fun x hx' => (hnx x hx').elim) hroom.1 hroom.2.1 hroom.2.2.1 hroom.2.2.2 hlk
    (fun t hvm hz hk' => ⟨k, rfl, rfl, va_P_grow hP hk', Nat.le_trans hS.1 hz, fun q h1 h2 => by rw [hk' q (Nat.lt_of_lt_of_le h1 hS.1)]; exact hS.2.1 q h1 h2⟩) hS.2.2 hroom.2.2.1 hroom.2.2.2
end EndsX
section RunsX
variable {p : Program} {l : Launch} {e : Env} {R : Room} {s : State} {m : MethodId} {args : Array Value} {below : List Frame} {meth : Method} {c : Code} {H : Heap} {locs : List Loc} {cells slots : Nat} {Q : State → Prop}
variable {pc : Nat} {ls : Array Slot} {rest st0 : List Value} {a : Array Value} {A A1 : Nat → Prop} {mc ms : Nat} {D : va_G} {ad : Nat → Nat → Nat} {ty : Nat → ClassId} {μ μ1 : Mem} {vv : Nat}
theorem run_goX {β : Type} {rv : (Nat → Nat → Nat) → β → Option Value} {r : RX β} (hr : vx_Run p l e R s m args below meth c H locs cells slots mc ms (F0 m pc ls st0) rest (XQ vv D ad ty rv r A1 a) (XX vv D ad ty r A1) A1) (hS : va_S A s.heap H locs) (hA : ∀ q : Nat, A1 q → A q)
    (kx : ∀ (k : Nat) (ce : Cell) (q9 : Addr) (H1 : Heap) (locs1 : List Loc), r.1 = .inl k → va_P D vwCl (wl vv ad ty r.2) H1 → va_S A s.heap H1 locs1 → H1[q9]? = some ce → ce.vm = .none → s.vm.findClass (exN k) = some ce.cls → vx_W p l e R s m args below meth c H1 locs1 (cells + mc) (slots + ms) Q (F0 m pc ls rest) q9)
    (kk : ∀ (b : β) (H1 : Heap) (locs1 : List Loc), r.1 = .inr b → va_P D vwCl (wl vv ad ty r.2) H1 → va_S A s.heap H1 locs1 → W p l e R s m args below meth c H1 locs1 (cells + mc) (slots + ms) Q (F0 m (pc + 3) ls ((rv ad b).toList ++ rest))) : W p l e R s m args below meth c H locs cells slots Q (F0 m pc ls st0) := by
  intro T hT X
  have keep : ∀ {st₀ t T' : State} {L : List Loc}, st₀.heap = H → T'.heap = t.heap → (∀ q ∈ L, A1 q.base) → va_F A1 st₀ t → va_S A s.heap T'.heap (locs ++ L) := fun h0 e1 hL hF => (vx_keep h0 e1 hS (fun q _ h => hA q h) hA hL hF).2.2
  rcases hr T hT X with ⟨v, st₀, t, T', L, h0, X', hL, e1, e2, ⟨b, hb, hv, hP1, hF⟩, st⟩ | ⟨q, st₀, t, T', L, E, ce, h0, X', hL, e1, e2, ⟨k, hk, rfl, hP1, hF⟩, hce, hcv, hcl, st⟩
  · cases hv
    obtain ⟨t2, a1, b1⟩ := kk b T'.heap (locs ++ L) hb (by rw [e1]; exact hP1) (keep h0 e1 hL hF) T' rfl X'
    exact ⟨t2, st t2 a1, b1⟩
  · obtain ⟨t2, a1, b1⟩ := kx k ce q T'.heap (locs ++ L) hk (by rw [e1]; exact hP1) (keep h0 e1 hL hF) (by rw [e1]; exact hce) hcv hcl T' rfl X'
    exact ⟨t2, st.trans a1, b1⟩
end RunsX
section CallsX
variable {X : CX} {own : String} {cc : ByteArray} {β γ : Type} {ca sl fr lo fr1 lo1 mcX msX mc ms : Nat} {μ : Mem} {pc : Nat} {L : List (Nat × Value)} {st stk As : List Value} {rtX rt : Option FieldType} {rvX : (Nat → Nat → Nat) → γ → Option Value} {r0 : RX γ}
variable {y : MethodName} {bytes : ByteArray} {mL n ix κ cnt ii vm1 : Nat} {av : (Nat → Nat → Nat) → List Value} {rv : (Nat → Nat → Nat) → β → Option Value} {f : Mem → Option (RX β)} {k : β → Mem → Option (RX γ)}
theorem s_callVX (C : Ok X own cc) (E : FenX X rtX rvX r0 fr lo mcX msX) (hk : KonX vm1 (xl X) y bytes mL rt fr1 lo1 mc ms av rv f) (hv1 : vm1 ≤ xv X) (hM : MM y bytes mL rt n) (hI : MI y) (hl : Cond.methodLink own ix y ∈ tb) (hR : RC (xv X) κ cnt y.cls) (hi : ii < cnt)
    (hav : av (xa X) = .ref (xa X κ ii) :: As) (hstk : stk = As.reverse ++ .ref (xa X κ ii) :: st) (hn : As.length = n) (hst : (st.map fun v => v.category).sum ≤ 8) (hroom : fr1 + 1 ≤ fr ∧ 8 + (mL + 11) + lo1 ≤ lo ∧ ca + mc ≤ mcX ∧ sl + ms ≤ msX) (hd : decode cc pc = .ok (.invokevirtual ix, 3))
    (kk : ∀ (r : β) (μ' : Mem), G X r0 (ca + mc) (sl + ms) μ' (pc + 3) L ((rv (xa X) r).toList ++ st) (k r μ')) : G X r0 ca sl μ pc L stk (bndX (f μ) k) := by
  obtain ⟨p, l, e, R, s, m, args, below, meth, c, D, ad, ty, A, Q, nL, vv⟩ := X
  obtain ⟨hx, hb, hml, hown, hts, hK, hD, hA, hlk, hZ⟩ := C
  obtain ⟨hrX, hRX, hQX, hnx⟩ := E
  obtain ⟨m1, m2, m3⟩ := hM
  obtain ⟨ci, sl0, T, N, r1, r2⟩ := hR
  have r1 : (kdL vv)[κ]? = some (cnt, .inl (ci, sl0)) := r1
  subst hRX
  intro h H locs ls hP hS hl'
  obtain ⟨rr, h1, h2⟩ := Option.bind_eq_some_iff.mp h
  obtain ⟨q0, hq⟩ := cell_at r1 hi
  have hrec := va_recv hK hP r2 (obj_at r1 hq)
  have hav' : av ad = .ref (ad κ ii) :: As := hav
  have hmet := hk vv hv1 D ad ty μ H.size rr h1
  rw [hav'] at hmet
  refine run_goX (rv := rv) (r := rr) (vx_runV (As := As) (rest := st) ⟨hx, hb, hml, hown, hts⟩ hmet (cwV n hts (tb_goodIn (fun w hw => ?_)) rfl rfl rfl ⟨rfl, m3⟩ ⟨hroom.1, hroom.2.1⟩) ⟨kp_blind, hrec, kp_pre hP hK (hD μ) hS hA hZ⟩ rfl hn hl'.1 hstk (lv_room hst) hd ⟨hroom.2.2.1, hroom.2.2.2⟩) hS (wl_A (hD μ) hS hA) (fun k' ce q9 H1 locs1 e1 hP1 hS1 hce hcv hcl => ?_) (fun b H1 locs1 e1 hP1 hS1 => ?_)
  · rcases List.mem_append.mp hw with e1 | e1
    · simp only [List.mem_cons, List.not_mem_nil, or_false] at e1
      rcases e1 with e2 | e2 | e2 | e2
      · rw [e2]; exact hl
      · rw [e2]; exact hI.1
      · rw [e2]; exact hI.2
      · rw [e2]; exact m1
    · exact wm_in m2 w e1
  · rw [e1] at h2
    cases h2
    have hQ2 : Q = vx_MQ below (XQ vv D ad ty rvX (.inl k', rr.2) A) (XX vv D ad ty ((.inl k', rr.2) : RX γ) A) args s mcX msX A := hQX
    rw [hQ2]
    exact vx_out (fun x hx' => (hnx x hx').elim) hlk hce hcv hcl (fun t ht hvm => ⟨k', rfl, rfl, by rw [ht]; exact hP1, hS1.F ht⟩) hS1.2.2 hroom.2.2.1 hroom.2.2.2
  · rw [e1] at h2
    exact kk b rr.2 h2 H1 locs1 ls hP1 hS1 hl'
theorem s_callSX (C : Ok X own cc) (E : FenX X rtX rvX r0 fr lo mcX msX) (hk : KonX vm1 (xl X) y bytes mL rt fr1 lo1 mc ms av rv f) (hv1 : vm1 ≤ xv X) (hM : MM y bytes mL rt n) (hI : Cond.static y ∈ tb) (hl : Cond.methodLink own ix y ∈ tb)
    (hav : av (xa X) = As) (hstk : stk = As.reverse ++ st) (hn : As.length = n) (hst : (st.map fun v => v.category).sum ≤ 8) (hroom : fr1 + 1 ≤ fr ∧ 8 + (mL + 11) + lo1 ≤ lo ∧ ca + mc ≤ mcX ∧ sl + ms ≤ msX) (hd : decode cc pc = .ok (.invokestatic ix, 3))
    (kk : ∀ (r : β) (μ' : Mem), G X r0 (ca + mc) (sl + ms) μ' (pc + 3) L ((rv (xa X) r).toList ++ st) (k r μ')) : G X r0 ca sl μ pc L stk (bndX (f μ) k) := by
  obtain ⟨p, l, e, R, s, m, args, below, meth, c, D, ad, ty, A, Q, nL, vv⟩ := X
  obtain ⟨hx, hb, hml, hown, hts, hK, hD, hA, hlk, hZ⟩ := C
  obtain ⟨hrX, hRX, hQX, hnx⟩ := E
  obtain ⟨m1, m2, m3⟩ := hM
  subst hRX
  intro h H locs ls hP hS hl'
  obtain ⟨rr, h1, h2⟩ := Option.bind_eq_some_iff.mp h
  have hav' : av ad = As := hav
  have hmet := hk vv hv1 D ad ty μ H.size rr h1
  rw [hav'] at hmet
  refine run_goX (rv := rv) (r := rr) (vx_runS (As := As) (rest := st) ⟨hx, hb, hml, hown, hts⟩ hmet ⟨callB_of n hts (tb_goodIn (wm_in m2)) rfl rfl rfl (hts _ m1) (hts _ hl) m3 ⟨hroom.1, hroom.2.1⟩, hts _ hI⟩ ⟨kp_blind, kp_pre hP hK (hD μ) hS hA hZ⟩ rfl hn hl'.1 hstk (lv_room hst) hd ⟨hroom.2.2.1, hroom.2.2.2⟩) hS (wl_A (hD μ) hS hA) (fun k' ce q9 H1 locs1 e1 hP1 hS1 hce hcv hcl => ?_) (fun b H1 locs1 e1 hP1 hS1 => ?_)
  · rw [e1] at h2
    cases h2
    have hQ2 : Q = vx_MQ below (XQ vv D ad ty rvX (.inl k', rr.2) A) (XX vv D ad ty ((.inl k', rr.2) : RX γ) A) args s mcX msX A := hQX
    rw [hQ2]
    exact vx_out (fun x hx' => (hnx x hx').elim) hlk hce hcv hcl (fun t ht hvm => ⟨k', rfl, rfl, by rw [ht]; exact hP1, hS1.F ht⟩) hS1.2.2 hroom.2.2.1 hroom.2.2.2
  · rw [e1] at h2
    exact kk b rr.2 h2 H1 locs1 ls hP1 hS1 hl'
end CallsX
theorem th12i : ∀ w ∈ vx_at0 RX12 110 "java/lang/IllegalArgumentException" ["java/lang/RuntimeException", "java/lang/Exception"], w ∈ tb ∨ w ∈ nwL := by decide +kernel
theorem th12n : ∀ w ∈ vx_at0 RX12 148 "java/util/NoSuchElementException" ["java/lang/RuntimeException", "java/lang/Exception"], w ∈ tb ∨ w ∈ nwL := by decide +kernel
theorem tg12i : ∀ w ∈ Cond.classLink RX12 108 (exN 2) :: Cond.initialized (exN 2) :: vx_at0 RX12 110 (exN 2) ["java/lang/RuntimeException", "java/lang/Exception"], vx_ot w = true := by decide +kernel
theorem tg12n : ∀ w ∈ Cond.classLink RX12 146 (exN 1) :: Cond.initialized (exN 1) :: vx_at0 RX12 148 (exN 1) ["java/lang/RuntimeException", "java/lang/Exception"], vx_ot w = true := by decide +kernel
