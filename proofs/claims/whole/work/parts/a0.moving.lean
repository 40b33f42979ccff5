/-! THE BUILDER: its bytes (33, 0) may move; contracts that say where to -/
def am (ad : Nat → Nat → Nat) (w : Nat) : Nat → Nat → Nat := fun κ n => if κ = 33 ∧ n = 0 then w else ad κ n
theorem am_o {ad : Nat → Nat → Nat} {w κ n : Nat} (h : ¬ κ = 33) : am ad w κ n = ad κ n := if_neg fun q => h q.1
theorem am_f {ad : Nat → Nat → Nat} {w κ : Nat} (h : ¬ κ = 33) : am ad w κ = ad κ := funext fun _ => am_o h
theorem am_at {ad : Nat → Nat → Nat} {w : Nat} : am ad w 33 0 = w := if_pos ⟨rfl, rfl⟩
theorem am_self {ad : Nat → Nat → Nat} : am ad (ad 33 0) = ad := funext fun κ => funext fun n => by
  unfold am
  split
  · rename_i h; rw [h.1, h.2]
  · rfl
theorem am_am {ad : Nat → Nat → Nat} {w v : Nat} : am (am ad w) v = am ad v := funext fun κ => funext fun n => by
  unfold am
  split <;> rfl
theorem Cst.am {ad : Nat → Nat → Nat} {A : Nat → Prop} {U : State} {H : Heap} {w : Nat} (h : Cst ad A U H) : Cst (am ad w) A U H := by
  unfold Cst at h ⊢
  simp only [am_f (ad := ad) (w := w) (κ := 50) (by decide), am_f (ad := ad) (w := w) (κ := 51) (by decide), am_f (ad := ad) (w := w) (κ := 52) (by decide), am_f (ad := ad) (w := w) (κ := 53) (by decide), am_f (ad := ad) (w := w) (κ := 54) (by decide), am_f (ad := ad) (w := w) (κ := 56) (by decide), am_f (ad := ad) (w := w) (κ := 57) (by decide)]
  exact h
def KQM (vv : Nat) (D : va_G) (ad : Nat → Nat → Nat) (ty : Nat → ClassId) (μ : Mem) (v : Option Value) (A : Nat → Prop) : Array Value → State → Outcome → State → Prop := fun _ st oc t => ∃ w : Nat, oc = .returned v ∧ va_P D vwCl (wl vv (am ad w) ty μ) t.heap ∧ va_D A (wl vv (am ad w) ty μ) ∧ va_F A st t
def KonM {β : Type} (vm : Nat) (l : Launch) (y : MethodName) (cc : ByteArray) (mL : Nat) (rt : Option FieldType) (fr lo mc ms : Nat) (av : (Nat → Nat → Nat) → List Value) (rv : (Nat → Nat → Nat) → β → Option Value) (f : Mem → Option (β × Mem)) : Prop :=
  ∀ (vv : Nat) (_ : vm ≤ vv) (D : va_G) (ad : Nat → Nat → Nat) (ty : Nat → ClassId) (μ : Mem) (sz : Nat) (r : β × Mem), f μ = some r → Met l y (wm y cc mL rt) (rm4 fr lo mc ms) (KP vv D ad ty μ sz (av ad)) (KQM vv D ad ty r.2 (rv ad r.1) (va_A (wl vv ad ty μ) sz)) mc ms (va_A (wl vv ad ty μ) sz)
/-- the end of such a method; ad0: where the bytes were at its start -/
def FenM (ad0 : Nat → Nat → Nat) : CX → Option FieldType → Option Value → Mem → Nat → Nat → Nat → Nat → Prop
  | (p, l, e, R, s, m, args, below, meth, c, D, ad, ty, A, Q, nL, vv), rt, v, μ, fr, lo, mc, ms => (∃ w, ad = am ad0 w) ∧ meth.sig.returnType = rt ∧ R = rm4 fr lo mc ms ∧ Q = MQ below (KQM vv D ad0 ty μ v A) args s mc ms A
theorem fenM_rm {ad0 : Nat → Nat → Nat} {X : CX} {rt : Option FieldType} {v : Option Value} {μ : Mem} {fr lo mc ms : Nat} (E : FenM ad0 X rt v μ fr lo mc ms) : Rm X fr lo mc ms := by
  obtain ⟨p, l, e, R, s, m, args, below, meth, c, D, ad, ty, A, Q, nL, vv⟩ := X
  exact E.2.2.1
theorem konM_of {β : Type} {vm : Nat} {l : Launch} {y : MethodName} {cc : ByteArray} {mL : Nat} {rt : Option FieldType} {fr lo mc ms : Nat} {av : (Nat → Nat → Nat) → List Value} {rv : (Nat → Nat → Nat) → β → Option Value} {f : Mem → Option (β × Mem)} (hy : plainName y.cls = true) (hlen : ∀ ad : Nat → Nat → Nat, (lg_sl (av ad)).length ≤ mL)
    (body : ∀ (X : CX) (r : β × Mem) (μ : Mem), xl X = l → xn X = mL → vm ≤ xv X → Ok X y.cls cc → FenM (xa X) X rt (rv (xa X) r.1) r.2 fr lo mc ms → f μ = some r → J X 0 0 μ 0 (lv_args 0 (av (xa X))) []) : KonM vm l y cc mL rt fr lo mc ms av rv f := by
  intro vv hvv D ad ty μ sz r hf
  refine Met.ofW (cc := cc) (maxL := mL) (ret := rt) hy rfl ?_
  intro p e s m args below meth c s₁ B hml hv
  obtain ⟨rfl, hsz, hP, hK, hD0, hZ⟩ := hv
  subst hsz
  have hts := atoms_spec (ws := wm y cc mL rt) B.pre
  have h1 := body (p, l, e, (headSpec (wm y cc mL rt) (rm4 fr lo mc ms)).room, s, m, (av ad).toArray, below, meth, c, D, ad, ty, va_A (wl vv ad ty μ) s.heap.size, MQ below (KQM vv D ad ty r.2 (rv ad r.1) (va_A (wl vv ad ty μ) s.heap.size)) (av ad).toArray s mc ms (va_A (wl vv ad ty μ) s.heap.size), mL, vv) r μ rfl rfl hvv
    ⟨B.exec, B.bytes, hml, findClass_of_methodNamed B.named, fun w hw => hts w (List.mem_cons_of_mem _ hw), hK, fun μ' => wl_fst μ' hD0.self, fun q h => Or.inr h, B.notSynchronized, hZ⟩ ⟨⟨_, am_self.symm⟩, B.returns, rfl, rfl⟩ hf s.heap [] _ hP va_S.rf (lv_entry (av ad) (hlen ad))
  rw [lg_entry_eq]
  exact h1
/-- the same for a method that doesn't move them -/
theorem konJ_of {β : Type} {vm : Nat} {l : Launch} {y : MethodName} {cc : ByteArray} {mL : Nat} {rt : Option FieldType} {fr lo mc ms : Nat} {av : (Nat → Nat → Nat) → List Value} {rv : (Nat → Nat → Nat) → β → Option Value} {f : Mem → Option (β × Mem)} (hy : plainName y.cls = true) (hlen : ∀ ad : Nat → Nat → Nat, (lg_sl (av ad)).length ≤ mL)
    (body : ∀ (X : CX) (r : β × Mem) (μ : Mem), xl X = l → xn X = mL → vm ≤ xv X → Ok X y.cls cc → Fen X rt (rv (xa X) r.1) r.2 fr lo mc ms → f μ = some r → G X r 0 0 μ 0 (lv_args 0 (av (xa X))) [] (some r)) : Kon vm l y cc mL rt fr lo mc ms av rv f :=
  kon_of hy hlen fun X r μ h1 h2 h3 h4 h5 h6 => body X r μ h1 h2 h3 h4 h5 h6 rfl
/-- X with the bytes at w -/
def sx (w : Nat) : CX → CX
  | (p, l, e, R, s, m, args, below, meth, c, D, ad, ty, A, Q, nL, vv) => (p, l, e, R, s, m, args, below, meth, c, D, am ad w, ty, A, Q, nL, vv)
section MovingEnds
variable {X : CX} {own : String} {cc : ByteArray} {fr lo ca sl : Nat} {μ : Mem} {pc : Nat} {L : List (Nat × Value)} {st : List Value} {ad0 : Nat → Nat → Nat}
theorem j_g {r0 : Unit} (h : G X () ca sl μ pc L st (some ())) : J X ca sl μ pc L st := h rfl
theorem g_j {α : Type} {r0 : α} {o : Option α} (h : J X ca sl μ pc L st) : G X r0 ca sl μ pc L st o := fun _ => h
theorem j_aretM (C : Ok X own cc) {κ i mc ms : Nat} {Cn : String} {μ' : Mem} (E : FenM ad0 X (some (.object Cn)) (some (.ref (ad0 κ i))) μ' fr lo mc ms) (hκ : ¬ κ = 33) (hμ : μ = μ') (h1 : ca ≤ mc) (h2 : sl ≤ ms) (hd : decode cc pc = .ok (.areturn, 1)) : J X ca sl μ pc L [.ref (xa X κ i)] := by
  obtain ⟨p, l, e, R, s, m, args, below, meth, c, D, ad, ty, A, Q, nL, vv⟩ := X
  obtain ⟨hx, hb, hml, hown, hts, hK, hD, hA, hlk, hZ⟩ := C
  obtain ⟨⟨w, rfl⟩, hr, hR, hQ⟩ := E
  subst hμ
  intro H locs ls hP hS hl
  rw [hQ]
  show W p l e R s m args below meth c H locs ca sl _ (F0 m pc ls [.ref (am ad0 w κ i)])
  rw [am_o hκ]
  exact W.widen h1 h2 (W.aret hx hb hr (Or.inl ⟨_, rfl⟩) (Or.inr ⟨_, rfl⟩) (fun t ht hW => ⟨w, rfl, by rw [ht]; exact hP, hD μ, hS.F ht⟩) hS.2.2 hd)
theorem j_vretM (C : Ok X own cc) {mc ms : Nat} {μ' : Mem} (E : FenM ad0 X none none μ' fr lo mc ms) (hμ : μ = μ') (h1 : ca ≤ mc) (h2 : sl ≤ ms) (hd : decode cc pc = .ok (.return_, 1)) : J X ca sl μ pc L [] := by
  obtain ⟨p, l, e, R, s, m, args, below, meth, c, D, ad, ty, A, Q, nL, vv⟩ := X
  obtain ⟨hx, hb, hml, hown, hts, hK, hD, hA, hlk, hZ⟩ := C
  obtain ⟨⟨w, rfl⟩, hr, hR, hQ⟩ := E
  subst hμ
  intro H locs ls hP hS hl
  rw [hQ]
  exact W.widen h1 h2 (W.vret hx hb hr (fun t ht hW => ⟨w, rfl, by rw [ht]; exact hP, hD μ, hS.F ht⟩) hS.2.2 hd)
theorem xa_sx {w κ n : Nat} (h : ¬ κ = 33) : xa (sx w X) κ n = xa X κ n := by
  obtain ⟨p, l, e, R, s, m, args, below, meth, c, D, ad, ty, A, Q, nL, vv⟩ := X
  exact am_o h
theorem ok_sx {w : Nat} (C : Ok X own cc) (hD1 : ∀ (p : Program) (l : Launch) (e : Env) (R : Room) (s : State) (m : MethodId) (args : Array Value) (below : List Frame) (meth : Method) (c : Code) (D : va_G) (ad : Nat → Nat → Nat) (ty : Nat → ClassId) (A : Nat → Prop) (Q : State → Prop) (nL vv : Nat), X = (p, l, e, R, s, m, args, below, meth, c, D, ad, ty, A, Q, nL, vv) → va_D A (wl vv (am ad w) ty μ)) : Ok (sx w X) own cc := by
  obtain ⟨p, l, e, R, s, m, args, below, meth, c, D, ad, ty, A, Q, nL, vv⟩ := X
  obtain ⟨hx, hb, hml, hown, hts, hK, hD, hA, hlk, hZ⟩ := C
  exact ⟨hx, hb, hml, hown, hts, hK, fun μ' => wl_fst μ' (hD1 _ _ _ _ _ _ _ _ _ _ _ _ _ _ _ _ _ rfl), hA, hlk, hZ.am⟩
theorem fenM_sx {w : Nat} {rt : Option FieldType} {v : Option Value} {μ' : Mem} {mc ms : Nat} (E : FenM ad0 X rt v μ' fr lo mc ms) : FenM ad0 (sx w X) rt v μ' fr lo mc ms := by
  obtain ⟨p, l, e, R, s, m, args, below, meth, c, D, ad, ty, A, Q, nL, vv⟩ := X
  obtain ⟨⟨w0, rfl⟩, hr, hR, hQ⟩ := E
  exact ⟨⟨w, am_am⟩, hr, hR, hQ⟩
end MovingEnds
section RunsM
variable {p : Program} {l : Launch} {e : Env} {R : Room} {s : State} {m : MethodId} {args : Array Value} {below : List Frame} {meth : Method} {c : Code} {H : Heap} {locs : List Loc} {cells slots : Nat} {Q : State → Prop}
variable {pc : Nat} {ls : Array Slot} {rest st0 : List Value} {a : Array Value} {A A1 : Nat → Prop} {mc ms : Nat} {D : va_G} {ad : Nat → Nat → Nat} {ty : Nat → ClassId} {μ μ1 : Mem} {vv : Nat}
theorem run_goM {v : Option Value} (hr : va_Run p l e R s m args below meth c H locs cells slots mc ms (F0 m pc ls st0) rest (KQM vv D ad ty μ1 v A1 a) A1) (hS : va_S A s.heap H locs) (hA : ∀ q : Nat, A1 q → A q)
    (kk : ∀ (w : Nat) (H1 : Heap) (locs1 : List Loc), va_P D vwCl (wl vv (am ad w) ty μ1) H1 → va_D A (wl vv (am ad w) ty μ1) → va_S A s.heap H1 locs1 → W p l e R s m args below meth c H1 locs1 (cells + mc) (slots + ms) Q (F0 m (pc + 3) ls (v.toList ++ rest))) : W p l e R s m args below meth c H locs cells slots Q (F0 m pc ls st0) := by
  intro T hT X
  obtain ⟨v', st₀, t, T', L, h0, X', hL, e1, e2, ⟨w, hv, hP1, hD1, hz, hk⟩, st⟩ := hr T hT X
  cases hv
  rw [h0] at hz hk
  obtain ⟨t2, a1, b1⟩ := kk w T'.heap (locs ++ L) (by rw [e1]; exact hP1) (hD1.weaken (fun k q h h2 => hA _ h2))
    ⟨Nat.le_trans hS.1 (by rw [e1]; exact hz), fun q h1 h2 => by rw [e1, hk q (Nat.lt_of_lt_of_le h1 hS.1) (fun z => h2 (hA q z))]; exact hS.2.1 q h1 h2, fun q hq => by
      rcases List.mem_append.mp hq with h | h
      · exact hS.2.2 q h
      · exact hA _ (hL q h)⟩ T' rfl X'
  exact ⟨t2, st t2 a1, b1⟩
end RunsM
theorem sel_priv {C : String} {x0 y : MethodName} {s : State} {args : Array Value} (hy : y.cls ≠ "java/lang/invoke/MethodHandle" ∧ y.cls ≠ "java/lang/invoke/VarHandle") (hxy : x0.cls = y.cls) (hs : (Cond.selects C x0 x0).before args s = true) (hpriv : (Cond.privateMethod y).before args s = true) (hinst : (Cond.instanceMethod y).before args s = true) : (Cond.selects C y y).before args s = true := by
  obtain ⟨mk, methM, hnamed, hmethM, -, -⟩ := Cond.instanceMethod_spec hinst
  have hfound : s.methodFound? y.cls y.name y.desc = some mk := State.methodFound?_of_named hnamed hy
  simp only [Cond.before, Cond.holds, Cond.value] at hs ⊢
  cases hc : s.vm.findClass C with
  | none => rw [hc] at hs; simp at hs
  | some c =>
    rw [hc] at hs
    cases hf : s.methodFound? x0.cls x0.name x0.desc with
    | none => rw [hf] at hs; simp at hs
    | some r =>
      rw [hf] at hs
      cases hn : s.methodNamed? x0 with
      | none => rw [hn] at hs; simp at hs
      | some m0 =>
        rw [hn] at hs
        have h0 : m0.cls = mk.cls := by
          have e1 := findClass_of_methodNamed hn
          have e2 := findClass_of_methodNamed hnamed
          rw [hxy] at e1
          exact Option.some.inj (e1.symm.trans e2)
        have hsel : selectMethod {} s.vm c mk = .method mk := selectMethod_private hmethM (Cond.privateMethod_at hpriv mk methM hnamed hmethM)
        rw [hfound, hnamed]
        dsimp only at hs ⊢
        rw [hsel]
        cases hq : selectMethod {} s.vm c r with
        | method m' => rw [hq, h0] at hs; simp at hs ⊢; exact hs.2
        | _ => rw [hq] at hs; simp at hs
/-- what a call of an inherited method of the builder rests on -/
def MU (y : MethodName) : Prop := Cond.instanceMethod y ∈ tb ∧ Cond.sameMethod y.cls y.cls y.name y.desc ∈ tb ∧ y.cls = "java/lang/AbstractStringBuilder" ∧ (Cond.privateMethod y ∈ tb ∨ Cond.selects "java/lang/StringBuilder" y y ∈ tb)
theorem mu_sel {y : MethodName} {s : State} {args : Array Value} (h : MU y) (hts : ∀ w ∈ tb, w.before args s = true) : (Cond.selects "java/lang/StringBuilder" y y).before args s = true := by
  obtain ⟨h1, h2, h3, h4⟩ := h
  rcases h4 with h4 | h4
  · exact sel_priv (x0 := yJ5_isLatin1_aae02) (by rw [h3]; decide +kernel) (by rw [h3]; rfl) (hts _ q1740) (hts _ h4) (hts _ h1)
  · exact hts _ h4
theorem va_cu {R : Room} {s : State} {args : Array Value} {own : String} {index maxL mc ms n : Nat} {y : MethodName} {bytes : ByteArray} {ret : Option FieldType} {fr lo : Nat} (hts : ∀ w ∈ tb, w.before args s = true) (hM : MM y bytes maxL ret n) (hU : MU y) (hl : Cond.methodLink own index y ∈ tb) (hR : fr + 1 ≤ R.frames ∧ 8 + (maxL + 11) + lo ≤ R.locals) :
    va_CU R s args own "java/lang/StringBuilder" y.cls index y y bytes maxL ret (wm y bytes maxL ret) (rm4 fr lo mc ms) mc ms n := by
  obtain ⟨m1, m2, m3⟩ := hM
  refine ⟨⟨rfl, rfl, hR.1, hR.2, pay_in hts (tb_goodIn (wm_in m2)), List.mem_cons_self⟩, hts _ m2, hts _ m1, ⟨m3.1, m3.2.1⟩, fun sig h => ?_, hts _ hl, hts _ hU.2.1, va_Decl.of (hts _ hU.1) (hts _ m2), mu_sel hU hts, hts _ hU.1⟩
  have h2 := m3.2.2
  rw [h] at h2
  exact (Option.some.inj h2).symm
section CallsU
variable {X : CX} {own : String} {cc : ByteArray} {α β : Type} {r0 : α} {ca sl fr lo fr1 lo1 mcX msX mc ms : Nat} {μ : Mem} {pc : Nat} {L : List (Nat × Value)} {st stk As : List Value}
variable {y : MethodName} {bytes : ByteArray} {mL n ix κ cnt ii vm1 : Nat} {rt : Option FieldType} {av : (Nat → Nat → Nat) → List Value} {rv : (Nat → Nat → Nat) → β → Option Value} {f : Mem → Option (β × Mem)} {k : β → Mem → Option α}
theorem sb_recv {D : va_G} {ad : Nat → Nat → Nat} {ty : Nat → ClassId} {vv : Nat} {H : Heap} {s : State} (hK : va_K D vwCl (tys ty) s) (hP : va_P D vwCl (wl vv ad ty μ) H) : ∃ cell : Cell, H[ad 32 0]? = some cell ∧ cell.vm.isStatics = false ∧ s.vm.findClass "java/lang/StringBuilder" = some cell.cls := by
  obtain ⟨q0, hq⟩ := cell_at (kk32 vv) (show 0 < 1 by decide)
  exact va_recv hK hP (q := (RJ4, TJ4, 4)) rfl (obj_at (kk32 vv) hq)
/-- a method that the builder inherits, by invokevirtual -/
theorem s_callU (C : Ok X own cc) (E : Rm X fr lo mcX msX) (hk : Kon vm1 (xl X) y bytes mL rt fr1 lo1 mc ms av rv f) (hv1 : vm1 ≤ xv X) (hM : MM y bytes mL rt n) (hU : MU y) (hl : Cond.methodLink own ix y ∈ tb)
    (hav : av (xa X) = .ref (xa X 32 0) :: As) (hstk : stk = As.reverse ++ .ref (xa X 32 0) :: st) (hn : As.length = n) (hst : (st.map fun v => v.category).sum ≤ 8) (hroom : fr1 + 1 ≤ fr ∧ 8 + (mL + 11) + lo1 ≤ lo ∧ ca + mc ≤ mcX ∧ sl + ms ≤ msX) (hd : decode cc pc = .ok (.invokevirtual ix, 3))
    (kk : ∀ (r : β) (μ' : Mem), G X r0 (ca + mc) (sl + ms) μ' (pc + 3) L ((rv (xa X) r).toList ++ st) (k r μ')) : G X r0 ca sl μ pc L stk (bnd (f μ) k) := by
  obtain ⟨p, l, e, R, s, m, args, below, meth, c, D, ad, ty, A, Q, nL, vv⟩ := X
  obtain ⟨hx, hb, hml, hown, hts, hK, hD, hA, hlk, hZ⟩ := C
  have hRX : R = rm4 fr lo mcX msX := E
  subst hRX
  intro h H locs ls hP hS hl'
  obtain ⟨rr, h1, h2⟩ := Option.bind_eq_some_iff.mp h
  obtain ⟨r, μ'⟩ := rr
  have hav' : av ad = .ref (ad 32 0) :: As := hav
  have hmet := hk vv hv1 D ad ty μ H.size (r, μ') h1
  rw [hav'] at hmet
  exact run_go (v := rv ad r) (μ1 := μ') (va_runU (C := "java/lang/StringBuilder") (owner := y.cls) (As := As) (rest := st) (n := n) ⟨hx, hb, hml, hown, hts⟩ hmet (va_cu hts hM hU hl ⟨hroom.1, hroom.2.1⟩) ⟨kp_blind, sb_recv hK hP, kp_pre hP hK (hD μ) hS hA hZ⟩ rfl hn hl'.1 hstk (lv_room hst) hd ⟨hroom.2.2.1, hroom.2.2.2⟩) hS (wl_A (hD μ) hS hA) (fun H1 locs1 hP1 hS1 => kk r μ' h2 H1 locs1 ls hP1 hS1 hl')
/-- the class's words for the builder -/
theorem sbc_at {D : va_G} {ty : Nat → ClassId} {s : State} (hK : va_K D vwCl (tys ty) s) : ClassAt s "java/lang/StringBuilder" (D.1 1) := (hK.1 1 (RJ4, TJ4, 4) rfl).2
theorem va_cs {R : Room} {s : State} {args : Array Value} {own : String} {index maxL mc ms n : Nat} {y : MethodName} {bytes : ByteArray} {ret : Option FieldType} {fr lo : Nat} (hts : ∀ w ∈ tb, w.before args s = true) (hM : MM y bytes maxL ret n) (h1 : Cond.instanceMethod y ∈ tb) (h2 : Cond.sameMethod y.cls y.cls y.name y.desc ∈ tb) (h3 : Cond.superclass own y.cls ∈ tb) (h4 : y.name ≠ "<init>") (hl : Cond.methodLink own index y ∈ tb) (hR : fr + 1 ≤ R.frames ∧ 8 + (maxL + 11) + lo ≤ R.locals) : va_CS R s args own index y bytes maxL ret (wm y bytes maxL ret) (rm4 fr lo mc ms) mc ms n := by
  obtain ⟨m1, m2, m3⟩ := hM
  refine ⟨⟨rfl, rfl, hR.1, hR.2, pay_in hts (tb_goodIn (wm_in m2)), List.mem_cons_self⟩, hts _ hl, hts _ h2, hts _ h3, hts _ h1, hts _ m1, hts _ m2, h4, fun sig h => ?_⟩
  have h5 := m3.2.2
  rw [h] at h5
  exact (Option.some.inj h5).symm
/-- the superclass's method, by invokespecial -/
theorem s_callSU (C : Ok X own cc) (E : Rm X fr lo mcX msX) (hk : Kon vm1 (xl X) y bytes mL rt fr1 lo1 mc ms av rv f) (hv1 : vm1 ≤ xv X) (hM : MM y bytes mL rt n) (hi : Cond.instanceMethod y ∈ tb) (hsm : Cond.sameMethod y.cls y.cls y.name y.desc ∈ tb) (hsu : Cond.superclass own y.cls ∈ tb) (hy : y.name ≠ "<init>") (hl : Cond.methodLink own ix y ∈ tb)
    (hav : av (xa X) = .ref (xa X 32 0) :: As) (hstk : stk = As.reverse ++ .ref (xa X 32 0) :: st) (hn : As.length = n) (hst : (st.map fun v => v.category).sum ≤ 8) (hroom : fr1 + 1 ≤ fr ∧ 8 + (mL + 11) + lo1 ≤ lo ∧ ca + mc ≤ mcX ∧ sl + ms ≤ msX) (hd : decode cc pc = .ok (.invokespecial ix, 3))
    (kk : ∀ (r : β) (μ' : Mem), G X r0 (ca + mc) (sl + ms) μ' (pc + 3) L ((rv (xa X) r).toList ++ st) (k r μ')) : G X r0 ca sl μ pc L stk (bnd (f μ) k) := by
  obtain ⟨p, l, e, R, s, m, args, below, meth, c, D, ad, ty, A, Q, nL, vv⟩ := X
  obtain ⟨hx, hb, hml, hown, hts, hK, hD, hA, hlk, hZ⟩ := C
  have hRX : R = rm4 fr lo mcX msX := E
  subst hRX
  intro h H locs ls hP hS hl'
  obtain ⟨rr, h1, h2⟩ := Option.bind_eq_some_iff.mp h
  obtain ⟨r, μ'⟩ := rr
  have hav' : av ad = .ref (ad 32 0) :: As := hav
  have hmet := hk vv hv1 D ad ty μ H.size (r, μ') h1
  rw [hav'] at hmet
  exact run_go (v := rv ad r) (μ1 := μ') (va_runSU (C := "java/lang/StringBuilder") (As := As) (rest := st) (n := n) (sbc_at hK) ⟨hx, hb, hml, hown, hts⟩ hmet (va_cs hts hM hi hsm hsu hy hl ⟨hroom.1, hroom.2.1⟩) ⟨kp_blind, sb_recv hK hP, kp_pre hP hK (hD μ) hS hA hZ⟩ rfl hn hl'.1 hstk (lv_room hst) hd ⟨hroom.2.2.1, hroom.2.2.2⟩) hS (wl_A (hD μ) hS hA) (fun H1 locs1 hP1 hS1 => kk r μ' h2 H1 locs1 ls hP1 hS1 hl')
/-! calls of methods that move the bytes: what follows is said of the place moved to -/
theorem j_callUM (C : Ok X own cc) (E : Rm X fr lo mcX msX) (hk : KonM vm1 (xl X) y bytes mL rt fr1 lo1 mc ms av rv f) (hv1 : vm1 ≤ xv X) (hM : MM y bytes mL rt n) (hU : MU y) (hl : Cond.methodLink own ix y ∈ tb)
    (hav : av (xa X) = .ref (xa X 32 0) :: As) (hstk : stk = As.reverse ++ .ref (xa X 32 0) :: st) (hn : As.length = n) (hst : (st.map fun v => v.category).sum ≤ 8) (hroom : fr1 + 1 ≤ fr ∧ 8 + (mL + 11) + lo1 ≤ lo ∧ ca + mc ≤ mcX ∧ sl + ms ≤ msX) (hd : decode cc pc = .ok (.invokevirtual ix, 3)) {r : β} {μ' : Mem} (hf : f μ = some (r, μ'))
    (kk : ∀ w : Nat, Ok (sx w X) own cc → J (sx w X) (ca + mc) (sl + ms) μ' (pc + 3) L ((rv (xa X) r).toList ++ st)) : J X ca sl μ pc L stk := by
  obtain ⟨p, l, e, R, s, m, args, below, meth, c, D, ad, ty, A, Q, nL, vv⟩ := X
  have C0 := C
  obtain ⟨hx, hb, hml, hown, hts, hK, hD, hA, hlk, hZ⟩ := C
  have hRX : R = rm4 fr lo mcX msX := E
  subst hRX
  intro H locs ls hP hS hl'
  have hav' : av ad = .ref (ad 32 0) :: As := hav
  have hmet := hk vv hv1 D ad ty μ H.size (r, μ') hf
  rw [hav'] at hmet
  exact run_goM (v := rv ad r) (μ1 := μ') (va_runU (C := "java/lang/StringBuilder") (owner := y.cls) (As := As) (rest := st) (n := n) ⟨hx, hb, hml, hown, hts⟩ hmet (va_cu hts hM hU hl ⟨hroom.1, hroom.2.1⟩) ⟨kp_blind, sb_recv hK hP, kp_pre hP hK (hD μ) hS hA hZ⟩ rfl hn hl'.1 hstk (lv_room hst) hd ⟨hroom.2.2.1, hroom.2.2.2⟩) hS (wl_A (hD μ) hS hA) (fun w H1 locs1 hP1 hD1 hS1 => kk w ⟨hx, hb, hml, hown, hts, hK, fun μ' => wl_fst μ' hD1, hA, hlk, hZ.am⟩ H1 locs1 ls hP1 hS1 hl')
theorem j_callSUM (C : Ok X own cc) (E : Rm X fr lo mcX msX) (hk : KonM vm1 (xl X) y bytes mL rt fr1 lo1 mc ms av rv f) (hv1 : vm1 ≤ xv X) (hM : MM y bytes mL rt n) (hi : Cond.instanceMethod y ∈ tb) (hsm : Cond.sameMethod y.cls y.cls y.name y.desc ∈ tb) (hsu : Cond.superclass own y.cls ∈ tb) (hy : y.name ≠ "<init>") (hl : Cond.methodLink own ix y ∈ tb)
    (hav : av (xa X) = .ref (xa X 32 0) :: As) (hstk : stk = As.reverse ++ .ref (xa X 32 0) :: st) (hn : As.length = n) (hst : (st.map fun v => v.category).sum ≤ 8) (hroom : fr1 + 1 ≤ fr ∧ 8 + (mL + 11) + lo1 ≤ lo ∧ ca + mc ≤ mcX ∧ sl + ms ≤ msX) (hd : decode cc pc = .ok (.invokespecial ix, 3)) {r : β} {μ' : Mem} (hf : f μ = some (r, μ'))
    (kk : ∀ w : Nat, Ok (sx w X) own cc → J (sx w X) (ca + mc) (sl + ms) μ' (pc + 3) L ((rv (xa X) r).toList ++ st)) : J X ca sl μ pc L stk := by
  obtain ⟨p, l, e, R, s, m, args, below, meth, c, D, ad, ty, A, Q, nL, vv⟩ := X
  obtain ⟨hx, hb, hml, hown, hts, hK, hD, hA, hlk, hZ⟩ := C
  have hRX : R = rm4 fr lo mcX msX := E
  subst hRX
  intro H locs ls hP hS hl'
  have hav' : av ad = .ref (ad 32 0) :: As := hav
  have hmet := hk vv hv1 D ad ty μ H.size (r, μ') hf
  rw [hav'] at hmet
  exact run_goM (v := rv ad r) (μ1 := μ') (va_runSU (C := "java/lang/StringBuilder") (As := As) (rest := st) (n := n) (sbc_at hK) ⟨hx, hb, hml, hown, hts⟩ hmet (va_cs hts hM hi hsm hsu hy hl ⟨hroom.1, hroom.2.1⟩) ⟨kp_blind, sb_recv hK hP, kp_pre hP hK (hD μ) hS hA hZ⟩ rfl hn hl'.1 hstk (lv_room hst) hd ⟨hroom.2.2.1, hroom.2.2.2⟩) hS (wl_A (hD μ) hS hA) (fun w H1 locs1 hP1 hD1 hS1 => kk w ⟨hx, hb, hml, hown, hts, hK, fun μ' => wl_fst μ' hD1, hA, hlk, hZ.am⟩ H1 locs1 ls hP1 hS1 hl')
theorem j_callVM (C : Ok X own cc) (E : Rm X fr lo mcX msX) (hk : KonM vm1 (xl X) y bytes mL rt fr1 lo1 mc ms av rv f) (hv1 : vm1 ≤ xv X) (hM : MM y bytes mL rt n) (hI : MI y) (hl : Cond.methodLink own ix y ∈ tb) (hR : RC (xv X) κ cnt y.cls) (hi : ii < cnt)
    (hav : av (xa X) = .ref (xa X κ ii) :: As) (hstk : stk = As.reverse ++ .ref (xa X κ ii) :: st) (hn : As.length = n) (hst : (st.map fun v => v.category).sum ≤ 8) (hroom : fr1 + 1 ≤ fr ∧ 8 + (mL + 11) + lo1 ≤ lo ∧ ca + mc ≤ mcX ∧ sl + ms ≤ msX) (hd : decode cc pc = .ok (.invokevirtual ix, 3)) {r : β} {μ' : Mem} (hf : f μ = some (r, μ'))
    (kk : ∀ w : Nat, Ok (sx w X) own cc → J (sx w X) (ca + mc) (sl + ms) μ' (pc + 3) L ((rv (xa X) r).toList ++ st)) : J X ca sl μ pc L stk := by
  obtain ⟨p, l, e, R, s, m, args, below, meth, c, D, ad, ty, A, Q, nL, vv⟩ := X
  obtain ⟨hx, hb, hml, hown, hts, hK, hD, hA, hlk, hZ⟩ := C
  have hRX : R = rm4 fr lo mcX msX := E
  obtain ⟨m1, m2, m3⟩ := hM
  obtain ⟨ci, sl0, T, N, r1, r2⟩ := hR
  have r1 : (kdL vv)[κ]? = some (cnt, .inl (ci, sl0)) := r1
  subst hRX
  intro H locs ls hP hS hl'
  obtain ⟨q0, hq⟩ := cell_at r1 hi
  have hrec := va_recv hK hP r2 (obj_at r1 hq)
  have hav' : av ad = .ref (ad κ ii) :: As := hav
  have hmet := hk vv hv1 D ad ty μ H.size (r, μ') hf
  rw [hav'] at hmet
  refine run_goM (v := rv ad r) (μ1 := μ') (va_runV (As := As) (rest := st) ⟨hx, hb, hml, hown, hts⟩ hmet (cwV n hts (tb_goodIn (fun w hw => ?_)) rfl rfl rfl ⟨rfl, m3⟩ ⟨hroom.1, hroom.2.1⟩) ⟨kp_blind, hrec, kp_pre hP hK (hD μ) hS hA hZ⟩ rfl hn hl'.1 hstk (lv_room hst) hd ⟨hroom.2.2.1, hroom.2.2.2⟩) hS (wl_A (hD μ) hS hA) (fun w H1 locs1 hP1 hD1 hS1 => kk w ⟨hx, hb, hml, hown, hts, hK, fun μ' => wl_fst μ' hD1, hA, hlk, hZ.am⟩ H1 locs1 ls hP1 hS1 hl')
  rcases List.mem_append.mp hw with e1 | e1
  · simp only [List.mem_cons, List.not_mem_nil, or_false] at e1
    rcases e1 with e2 | e2 | e2 | e2
    · rw [e2]; exact hl
    · rw [e2]; exact hI.1
    · rw [e2]; exact hI.2
    · rw [e2]; exact m1
  · exact wm_in m2 w e1
theorem j_callSM (C : Ok X own cc) (E : Rm X fr lo mcX msX) (hk : KonM vm1 (xl X) y bytes mL rt fr1 lo1 mc ms av rv f) (hv1 : vm1 ≤ xv X) (hM : MM y bytes mL rt n) (hI : Cond.static y ∈ tb) (hl : Cond.methodLink own ix y ∈ tb)
    (hav : av (xa X) = As) (hstk : stk = As.reverse ++ st) (hn : As.length = n) (hst : (st.map fun v => v.category).sum ≤ 8) (hroom : fr1 + 1 ≤ fr ∧ 8 + (mL + 11) + lo1 ≤ lo ∧ ca + mc ≤ mcX ∧ sl + ms ≤ msX) (hd : decode cc pc = .ok (.invokestatic ix, 3)) {r : β} {μ' : Mem} (hf : f μ = some (r, μ'))
    (kk : ∀ w : Nat, Ok (sx w X) own cc → J (sx w X) (ca + mc) (sl + ms) μ' (pc + 3) L ((rv (xa X) r).toList ++ st)) : J X ca sl μ pc L stk := by
  obtain ⟨p, l, e, R, s, m, args, below, meth, c, D, ad, ty, A, Q, nL, vv⟩ := X
  obtain ⟨hx, hb, hml, hown, hts, hK, hD, hA, hlk, hZ⟩ := C
  have hRX : R = rm4 fr lo mcX msX := E
  obtain ⟨m1, m2, m3⟩ := hM
  subst hRX
  intro H locs ls hP hS hl'
  have hav' : av ad = As := hav
  have hmet := hk vv hv1 D ad ty μ H.size (r, μ') hf
  rw [hav'] at hmet
  exact run_goM (v := rv ad r) (μ1 := μ') (va_runS (As := As) (rest := st) ⟨hx, hb, hml, hown, hts⟩ hmet ⟨callB_of n hts (tb_goodIn (wm_in m2)) rfl rfl rfl (hts _ m1) (hts _ hl) m3 ⟨hroom.1, hroom.2.1⟩, hts _ hI⟩ ⟨kp_blind, kp_pre hP hK (hD μ) hS hA hZ⟩ rfl hn hl'.1 hstk (lv_room hst) hd ⟨hroom.2.2.1, hroom.2.2.2⟩) hS (wl_A (hD μ) hS hA) (fun w H1 locs1 hP1 hD1 hS1 => kk w ⟨hx, hb, hml, hown, hts, hK, fun μ' => wl_fst μ' hD1, hA, hlk, hZ.am⟩ H1 locs1 ls hP1 hS1 hl')
end CallsU
