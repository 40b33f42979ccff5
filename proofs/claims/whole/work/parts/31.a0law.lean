/-! THE LAW'S OWN STEPS: the script, the wrappers' calls, a case's end -/
/-- the script lies outside of what is written -/
def Scr : CX → Nat → Nat → (Nat → Int32) → Prop
  | (p, l, e, R, s, m, args, below, meth, c, D, ad, ty, A, Q, nL, vv), bs, SL, xs => va_X bs SL xs s s.heap ∧ bs < s.heap.size ∧ ¬ A bs
section LawSteps
variable {X : CX} {own : String} {cc : ByteArray} {α β : Type} {r0 : α} {ca sl fr lo fr1 lo1 mcX msX mc ms : Nat} {μ : Mem} {pc : Nat} {L L' : List (Nat × Value)} {st stk As : List Value} {o : Option α} {rt : Option FieldType}
variable {y : MethodName} {bytes : ByteArray} {mL n ix vm1 : Nat} {hh : List (Nat × Nat × Nat × Nat)} {av : (Nat → Nat → Nat) → List Value} {rv : (Nat → Nat → Nat) → β → Option Value} {f : Mem → Option (β × Mem)} {k : β → Mem → Option α} {bs SL : Nat} {xs : Nat → Int32}
theorem s_sld (C : Ok X own cc) (S : Scr X bs SL xs) {i : Int32} (hd : decode cc pc = .ok (.iaload, 1)) (kk : G X r0 ca sl μ (pc + 1) L (.int (xs i.toNatClampNeg) :: st) o) : G X r0 ca sl μ pc L (.int i :: .ref bs :: st) (ckI i SL o) := by
  obtain ⟨p, l, e, R, s, m, args, below, meth, c, D, ad, ty, A, Q, nL, vv⟩ := X
  obtain ⟨hx, hb, hml, hown, hts, hK, hD, hA, hlk, hZ⟩ := C
  intro h H locs ls hP hS hl
  unfold ckI at h
  split at h
  case isFalse => cases h
  rename_i hi
  exact va_sld hx hb S.1 S.2.1 S.2.2 hS hi hd (kk h H locs ls hP hS hl)
theorem s_slen (C : Ok X own cc) (S : Scr X bs SL xs) (hd : decode cc pc = .ok (.arraylength, 1)) (kk : G X r0 ca sl μ (pc + 1) L (.int (Int32.ofNat SL) :: st) o) : G X r0 ca sl μ pc L (.ref bs :: st) o := by
  obtain ⟨p, l, e, R, s, m, args, below, meth, c, D, ad, ty, A, Q, nL, vv⟩ := X
  obtain ⟨hx, hb, hml, hown, hts, hK, hD, hA, hlk, hZ⟩ := C
  intro h H locs ls hP hS hl
  exact va_slen hx hb S.1 S.2.1 S.2.2 hS hd (kk h H locs ls hP hS hl)
theorem s_callH (C : Ok X own cc) (E : Rm X fr lo mcX msX) (hk : KonH vm1 (xl X) y bytes mL rt hh fr1 lo1 mc ms av rv f) (hv1 : vm1 ≤ xv X) (m1 : Cond.initialized y.cls ∈ tb) (m2 : Cond.codeWith y bytes mL rt hh ∈ tb) (m3 : y.cls ≠ "java/lang/invoke/MethodHandle" ∧ y.cls ≠ "java/lang/invoke/VarHandle" ∧ (parseMethodDescriptor y.desc).map (fun d => d.parameters.length) = some n) (hI : Cond.static y ∈ tb) (hl : Cond.methodLink own ix y ∈ tb)
    (hav : av (xa X) = As) (hstk : stk = As.reverse ++ st) (hn : As.length = n) (hst : (st.map fun v => v.category).sum ≤ 8) (hroom : fr1 + 1 ≤ fr ∧ 8 + (mL + 11) + lo1 ≤ lo ∧ ca + mc ≤ mcX ∧ sl + ms ≤ msX) (hd : decode cc pc = .ok (.invokestatic ix, 3))
    (kk : ∀ (r : β) (μ' : Mem), G X r0 (ca + mc) (sl + ms) μ' (pc + 3) L ((rv (xa X) r).toList ++ st) (k r μ')) : G X r0 ca sl μ pc L stk (bnd (f μ) k) := by
  obtain ⟨p, l, e, R, s, m, args, below, meth, c, D, ad, ty, A, Q, nL, vv⟩ := X
  obtain ⟨hx, hb, hml, hown, hts, hK, hD, hA, hlk, hZ⟩ := C
  have hRX : R = rm4 fr lo mcX msX := E
  subst hRX
  intro h H locs ls hP hS hl'
  obtain ⟨rr, h1, h2⟩ := Option.bind_eq_some_iff.mp h
  obtain ⟨r, μ'⟩ := rr
  have hav' : av ad = As := hav
  have hmet := hk vv hv1 D ad ty μ H.size (r, μ') h1
  rw [hav'] at hmet
  have hin : ∀ w ∈ (Cond.codeWith y bytes mL rt hh :: tb : List Cond), w ∈ tb := fun w hw => by
    rcases List.mem_cons.mp hw with e | e
    · rw [e]; exact m2
    · exact e
  exact run_go (v := rv ad r) (μ1 := μ') (vx_runSW (hh := hh) (As := As) (rest := st) ⟨hx, hb, hml, hown, hts⟩ hmet ⟨⟨rfl, rfl, hroom.1, hroom.2.1, pay_in hts (tb_goodIn hin), List.mem_cons_self⟩, hts _ m2, hts _ m1, ⟨m3.1, m3.2.1⟩, fun sig h => by have h5 := m3.2.2; rw [h] at h5; exact (Option.some.inj h5).symm, hts _ hl, hts _ hI⟩ ⟨kp_blind, kp_pre hP hK (hD μ) hS hA hZ⟩ rfl hn hl'.1 hstk (lv_room hst) hd ⟨hroom.2.2.1, hroom.2.2.2⟩) hS (wl_A (hD μ) hS hA) (fun H1 locs1 hP1 hS1 => kk r μ' h2 H1 locs1 ls hP1 hS1 hl')
theorem g_endL {r0 : Mem} {ca1 sl1 : Nat} (h1 : ca ≤ ca1) (h2 : sl ≤ sl1) (ks : List Nat) (hs : lv_pick L ks = L') (H0 : J X ca1 sl1 r0 pc L' []) : G X r0 ca sl μ pc L [] (some μ) := by
  obtain ⟨p, l, e, R, s, m, args, below, meth, c, D, ad, ty, A, Q, nL, vv⟩ := X
  intro h H locs ls hP hS hl
  cases h
  exact W.widen h1 h2 (H0 H locs ls hP hS (lv_sub hl ks hs))
end LawSteps
