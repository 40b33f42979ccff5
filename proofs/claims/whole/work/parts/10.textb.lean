/-! CALLS of the JDK's own methods over String constants -/
section CallsT
variable {X : CX} {own : String} {cc : ByteArray} {α β : Type} {r0 : α} {ca sl fr lo fr1 lo1 mcX msX mc ms : Nat} {μ : Mem} {pc : Nat} {L : List (Nat × Value)} {st stk As : List Value} {rtX rt : Option FieldType} {vX : Option Value} {μX : Mem}
variable {y : MethodName} {bytes : ByteArray} {mL n ix κ cnt ii vm1 : Nat} {av : (Nat → Nat → Nat) → List Value} {rv : (Nat → Nat → Nat) → β → Option Value} {f : Mem → Option (β × Mem)} {k : β → Mem → Option α}
/-- the receiver is a String constant -/
theorem s_callT (C : Ok X own cc) (E : Rm X fr lo mcX msX) (hk : Kon vm1 (xl X) y bytes mL rt fr1 lo1 mc ms av rv f) (hv1 : vm1 ≤ xv X) (hM : MM y bytes mL rt n) (hI : MI y) (hl : Cond.methodLink own ix y ∈ tb) (hy : y.cls = "java/lang/String") (hi : ii < 70)
    (hav : av (xa X) = .ref (xa X 51 ii) :: As) (hstk : stk = As.reverse ++ .ref (xa X 51 ii) :: st) (hn : As.length = n) (hst : (st.map fun v => v.category).sum ≤ 8) (hroom : fr1 + 1 ≤ fr ∧ 8 + (mL + 11) + lo1 ≤ lo ∧ ca + mc ≤ mcX ∧ sl + ms ≤ msX) (hd : decode cc pc = .ok (.invokevirtual ix, 3))
    (kk : ∀ (r : β) (μ' : Mem), G X r0 (ca + mc) (sl + ms) μ' (pc + 3) L ((rv (xa X) r).toList ++ st) (k r μ')) : G X r0 ca sl μ pc L stk (bnd (f μ) k) := by
  obtain ⟨p, l, e, R, s, m, args, below, meth, c, D, ad, ty, A, Q, nL, vv⟩ := X
  obtain ⟨hx, hb, hml, hown, hts, hK, hD, hA, hlk, hZ⟩ := C
  have hRX : R = rm4 fr lo mcX msX := E
  obtain ⟨m1, m2, m3⟩ := hM
  subst hRX
  intro h H locs ls hP hS hl'
  obtain ⟨rr, h1, h2⟩ := Option.bind_eq_some_iff.mp h
  obtain ⟨r, μ'⟩ := rr
  have hrec := vk_recv hZ.2.2.2.2.2.2.2.2.2.1 hi hS
  have hav' : av ad = .ref (ad 51 ii) :: As := hav
  have hmet := hk vv hv1 D ad ty μ H.size (r, μ') h1
  rw [hav'] at hmet
  refine run_go (v := rv ad r) (μ1 := μ') (va_runV (C := "java/lang/String") (As := As) (rest := st) ⟨hx, hb, hml, hown, hts⟩ hmet (cwV n hts (tb_goodIn (fun w hw => ?_)) rfl rfl rfl ⟨hy, m3⟩ ⟨hroom.1, hroom.2.1⟩) ⟨kp_blind, hrec, kp_pre hP hK (hD μ) hS hA hZ⟩ rfl hn hl'.1 hstk (lv_room hst) hd ⟨hroom.2.2.1, hroom.2.2.2⟩) hS (wl_A (hD μ) hS hA) (fun H1 locs1 hP1 hS1 => ?_)
  · rcases List.mem_append.mp hw with e1 | e1
    · simp only [List.mem_cons, List.not_mem_nil, or_false] at e1
      rcases e1 with e2 | e2 | e2 | e2
      · rw [e2]; exact hl
      · rw [e2]; exact hI.1
      · rw [e2, ← hy]; exact hI.2
      · rw [e2, ← hy]; exact m1
    · exact wm_in m2 w e1
  · exact kk r μ' h2 H1 locs1 ls hP1 hS1 hl'
/-- the receiver is a constant of the enum -/
theorem s_callE (C : Ok X own cc) (E : Rm X fr lo mcX msX) (hk : Kon vm1 (xl X) y bytes mL rt fr1 lo1 mc ms av rv f) (hv1 : vm1 ≤ xv X) (hM : MM y bytes mL rt n) (hI : MI y) (hl : Cond.methodLink own ix y ∈ tb) (hy : y.cls = "PinEngines$Symbol") (hi : ii < 74)
    (hav : av (xa X) = .ref (xa X 50 ii) :: As) (hstk : stk = As.reverse ++ .ref (xa X 50 ii) :: st) (hn : As.length = n) (hst : (st.map fun v => v.category).sum ≤ 8) (hroom : fr1 + 1 ≤ fr ∧ 8 + (mL + 11) + lo1 ≤ lo ∧ ca + mc ≤ mcX ∧ sl + ms ≤ msX) (hd : decode cc pc = .ok (.invokevirtual ix, 3))
    (kk : ∀ (r : β) (μ' : Mem), G X r0 (ca + mc) (sl + ms) μ' (pc + 3) L ((rv (xa X) r).toList ++ st) (k r μ')) : G X r0 ca sl μ pc L stk (bnd (f μ) k) := by
  obtain ⟨p, l, e, R, s, m, args, below, meth, c, D, ad, ty, A, Q, nL, vv⟩ := X
  obtain ⟨hx, hb, hml, hown, hts, hK, hD, hA, hlk, hZ⟩ := C
  have hRX : R = rm4 fr lo mcX msX := E
  obtain ⟨m1, m2, m3⟩ := hM
  subst hRX
  intro h H locs ls hP hS hl'
  obtain ⟨rr, h1, h2⟩ := Option.bind_eq_some_iff.mp h
  obtain ⟨r, μ'⟩ := rr
  have hrec := va_recvE hZ.1 hi hS
  have hav' : av ad = .ref (ad 50 ii) :: As := hav
  have hmet := hk vv hv1 D ad ty μ H.size (r, μ') h1
  rw [hav'] at hmet
  refine run_go (v := rv ad r) (μ1 := μ') (va_runV (C := "PinEngines$Symbol") (As := As) (rest := st) ⟨hx, hb, hml, hown, hts⟩ hmet (cwV n hts (tb_goodIn (fun w hw => ?_)) rfl rfl rfl ⟨hy, m3⟩ ⟨hroom.1, hroom.2.1⟩) ⟨kp_blind, hrec, kp_pre hP hK (hD μ) hS hA hZ⟩ rfl hn hl'.1 hstk (lv_room hst) hd ⟨hroom.2.2.1, hroom.2.2.2⟩) hS (wl_A (hD μ) hS hA) (fun H1 locs1 hP1 hS1 => ?_)
  · rcases List.mem_append.mp hw with e1 | e1
    · simp only [List.mem_cons, List.not_mem_nil, or_false] at e1
      rcases e1 with e2 | e2 | e2 | e2
      · rw [e2]; exact hl
      · rw [e2]; exact hI.1
      · rw [e2, ← hy]; exact hI.2
      · rw [e2, ← hy]; exact m1
    · exact wm_in m2 w e1
  · exact kk r μ' h2 H1 locs1 ls hP1 hS1 hl'
/-- a static method of another -/
theorem s_callF (C : Ok X own cc) (E : Rm X fr lo mcX msX) (hk : Kon vm1 (xl X) y bytes mL rt fr1 lo1 mc ms av rv f) (hv1 : vm1 ≤ xv X) (hM : MM y bytes mL rt n) (hI : Cond.static y ∈ tb) (hl : Cond.methodLink own ix y ∈ tb)
    (hav : av (xa X) = As) (hstk : stk = As.reverse ++ st) (hn : As.length = n) (hst : (st.map fun v => v.category).sum ≤ 8) (hroom : fr1 + 1 ≤ fr ∧ 8 + (mL + 11) + lo1 ≤ lo ∧ ca + mc ≤ mcX ∧ sl + ms ≤ msX) (hd : decode cc pc = .ok (.invokestatic ix, 3))
    (kk : ∀ (r : β) (μ' : Mem), G X r0 (ca + mc) (sl + ms) μ' (pc + 3) L ((rv (xa X) r).toList ++ st) (k r μ')) : G X r0 ca sl μ pc L stk (bnd (f μ) k) := by
  obtain ⟨p, l, e, R, s, m, args, below, meth, c, D, ad, ty, A, Q, nL, vv⟩ := X
  obtain ⟨hx, hb, hml, hown, hts, hK, hD, hA, hlk, hZ⟩ := C
  have hRX : R = rm4 fr lo mcX msX := E
  obtain ⟨m1, m2, m3⟩ := hM
  subst hRX
  intro h H locs ls hP hS hl'
  obtain ⟨rr, h1, h2⟩ := Option.bind_eq_some_iff.mp h
  obtain ⟨r, μ'⟩ := rr
  have hav' : av ad = As := hav
  have hmet := hk vv hv1 D ad ty μ H.size (r, μ') h1
  rw [hav'] at hmet
  exact run_go (v := rv ad r) (μ1 := μ') (va_runS (As := As) (rest := st) ⟨hx, hb, hml, hown, hts⟩ hmet ⟨callB_of n hts (tb_goodIn (wm_in m2)) rfl rfl rfl (hts _ m1) (hts _ hl) m3 ⟨hroom.1, hroom.2.1⟩, hts _ hI⟩ ⟨kp_blind, kp_pre hP hK (hD μ) hS hA hZ⟩ rfl hn hl'.1 hstk (lv_room hst) hd ⟨hroom.2.2.1, hroom.2.2.2⟩) hS (wl_A (hD μ) hS hA) (fun H1 locs1 hP1 hS1 => kk r μ' h2 H1 locs1 ls hP1 hS1 hl')
end CallsT
