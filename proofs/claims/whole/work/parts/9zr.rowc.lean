/-! PARSING: the pieces of an instruction: cells, what is waited for, names -/
def spE (R : RR) : RR := fun B P m r => ∃ b : Nat, b < 18 ∧ P 2 = nI b ∧ r 4 = (if b < 16 then 0 else 36 + b) ∧ ∃ P0 m0 r0, R B P0 m0 r0 ∧ m 5 = (if b < 16 then nI b else m0 5) ∧ (∀ i, i ≠ 2 → P i = P0 i) ∧ (∀ i, i ≠ 5 → m i = m0 i) ∧ ∀ i, i ≠ 4 → r i = r0 i
theorem role4096 : ∀ r, r < 74 → (¬ syR.getD r 0 &&& 4096 = 0 ↔ r = 52 ∨ r = 53) := by decide
theorem c_cellY {j a : Nat} {μ μ2 : Mem} (e : fX11_takeOptional 0 4096 μ = some (a, μ2)) (ha : a < 74) (h0 : a ≠ 0) : fX5_readPlace 0 j μ = some ((), wR μ2 9 j 4 a) := by
  unfold fX5_readPlace
  simp only [jn_eq, nm_eq]
  rw [e, bnd_some, ckB_ok ha, wR_same, ckB_ok ha, if_pos h0]
theorem c_cellN {j : Nat} {μ μ2 μ3 : Mem} {v : Int32} (e : fX11_takeOptional 0 4096 μ = some (0, μ2)) (f : fX11_takeNumber 0 0 15 (wR μ2 9 j 4 0) = some (v, μ3)) : fX5_readPlace 0 j μ = some ((), wI μ3 9 j 5 v) := by
  unfold fX5_readPlace
  simp only [jn_eq, nm_eq]
  rw [e, bnd_some, ckB_ok (by decide), wR_same, ckB_ok (by decide), if_neg (fun z => z rfl), f, bnd_some]
def mCell (F : Nat) (p : Int32) (q : Nat) (ν : Mem) : Option (Unit × Mem) := bnd (fX13_accept F 0 22 ν) fun x4 μ3 => if x4 = 0 then bnd (fX13_accept F 0 23 μ3) fun x7 μ6 => if x7 = 0 then fX13_putNumber F 0 p 0 15 μ6 else some ((), wI μ6 27 1 q 17) else some ((), wI μ3 27 1 q 16)
theorem op_cell {N n i0 j cnt z t : Nat} {c : Nat → Int32} {T0 : Md → Nat → Int32} {R : RR} {M0 M1 : Md} {μ ν : Mem} (h : PG N n c t μ ν) (hI : IO N n c i0 j cnt z T0 R M0 t μ ν) (hc : cnt < 32) (hn : i0 ≤ cnt) (fu : Nat) :
    J2 N n c M0 M1 (fun μ => fX5_readPlace 0 j μ) (mCell (fu + 1001) (nI (284 + 6 * cnt + 2)) (284 + 6 * cnt + 2) ν) t μ ν (IO N n c i0 j cnt z T0 R) (fun M t' _ μ' ν' => IO N n c i0 j cnt z T0 (spE R) M t' μ' ν') (FcI j) (FmI cnt) () := by
  refine j2_of (fun M μ _ hg' i => ?_) h hI
  have hn' : n ≤ 1000 := Nat.le_trans hg'.1.1 hg'.1.2.1
  have ct := c_takeOpt (r := 4096) hn' hg'.2.1 hg'.2.2.2.2.2.1.2.1 hg'.2.2.1
  have rl := role4096 _ (syA_lt (N := N) (n := n) (c := c) (t := t))
  unfold mCell
  have yes : ∀ d ν1, (d = 16 ∨ d = 17) → syA N n c t = 36 + d → t < n → PG N n c (t + 1) (wI μ 2 0 6 (nI (t + 1))) ν1 → FPm ν ν1 → ∀ FM, FM = some ((), wI ν1 27 1 (284 + 6 * cnt + 2) (nI d)) → P2 N n c (fun μ => fX5_readPlace 0 j μ) FM t μ ν (fun t' (_ : Unit) μ' ν' => IO N n c i0 j cnt z T0 (spE R) M t' μ' ν') (FcI j) (FmI cnt) () := by
    intro d ν1 hd q tn g1 fp FM eM
    have fc : FcI j μ (wR (wI μ 2 0 6 (nI (t + 1))) 9 j 4 (36 + d)) := fci_trans (fci_p fpc_6) (fci_r (by omega))
    rw [if_neg (rl.2 (by omega)), q] at ct
    have e9 : ∀ i, (wR (wI μ 2 0 6 (nI (t + 1))) 9 j 4 (36 + d)).1 9 j i = μ.1 9 j i := fun i => by show (wI μ 2 0 6 (nI (t + 1))).1 9 j i = _; exact wI_o (by omega)
    refine ⟨(), _, wI ν1 27 1 (284 + 6 * cnt + 2) (nI d), c_cellY ct (by omega) (by omega), eM, fc, fmi_trans (fmi_p fp) (fmi_w (by decide)), fn_trans (fn_p fp) fn_w, Or.inr ⟨t + 1, by omega, pg_m (pg_c g1 (fun κ a q z => rfl) (funext fun q => wR_o (by omega))) (fun q _ _ => wI_o (by omega)) (funext fun q => wI_o (by omega)), ?_⟩⟩
    refine io_upd i hc (Nat.le_of_lt (tk_lt h.1 tn)) fc (by decide) (Or.inl hn) (fun a ha => by rw [wI_o (by omega)]; exact fp.1 _ _ _ (by omega)) (fun a _ _ => funext fun q => by rw [wI_o (by omega)]; exact fp.1 _ _ _ (by omega)) (by rw [wI_o (by omega)]; exact fp.1 _ _ _ (by omega)) (fun P hP => ⟨d, by omega, (if_pos rfl).trans wI_same, by rw [wR_same, if_neg (by omega)], P, μ.1 9 j, μ.2.1 9 j, hP, ?_, fun i hi => if_neg hi, fun i hi => e9 i, fun i hi => wR_o (by omega)⟩)
    rw [if_neg (by omega)]
    exact e9 5
  by_cases q1 : syA N n c t = 52
  · obtain ⟨-, ν1, ya, ys, g, g1, fp⟩ := yes_acc hg' 52 22 (by decide) q1 fu
    exact yes 16 ν1 (Or.inl rfl) q1 g g1 fp _ (by rw [ya, bnd_some, if_neg (show ¬ (1 : Int32) = 0 by decide)]; rfl)
  · have na := (no_acc hg' 52 22 (by decide) q1 fu).1
    by_cases q2 : syA N n c t = 53
    · obtain ⟨-, ν1, ya, ys, g, g1, fp⟩ := yes_acc hg' 53 23 (by decide) q2 fu
      exact yes 17 ν1 (Or.inr rfl) q2 g g1 fp _ (by rw [na, bnd_some, if_pos (show (0 : Int32) = 0 from rfl), ya, bnd_some, if_neg (show ¬ (1 : Int32) = 0 by decide)]; rfl)
    · have nb := (no_acc hg' 53 23 (by decide) q2 fu).1
      have r0 : syR.getD (syA N n c t) 0 &&& 4096 = 0 := Classical.byContradiction fun z => by rcases rl.1 z with w | w; exact q1 w; exact q2 w
      rw [if_pos r0] at ct
      have g0 : PG N n c t (wR μ 9 j 4 0) ν := pg_c hg' (fun κ a q z => rfl) (funext fun q => wR_o (by omega))
      obtain ⟨μ1, ν1, v, s1, s2, s3, s4⟩ := p_put (lo := 0) (hi := 15) g0 (by decide) (by decide) (p := 284 + 6 * cnt + 2) (by omega) fu
      have s1 : fX11_takeNumber 0 0 15 (wR μ 9 j 4 0) = some (v, μ1) := s1
      have s2 : fX13_putNumber (fu + 1001) 0 (nI (284 + 6 * cnt + 2)) 0 15 ν = some ((), ν1) := s2
      have fc : FcI j μ (wI μ1 9 j 5 v) := fci_trans (fci_r (by decide)) (fci_trans (fci_p s4) fci_w)
      rw [na, bnd_some, if_pos (show (0 : Int32) = 0 from rfl), nb, bnd_some, if_pos (show (0 : Int32) = 0 from rfl), s2]
      rcases s3 with ⟨a1, ⟨k, k1, k2, rfl⟩, a3, a4⟩ | ⟨a1, a2, a3⟩
      · refine ⟨(), _, ν1, c_cellN ct s1, rfl, fc, fmi_trans (fmi_w (by decide)) (fmi_p a4), fn_trans fn_w (fn_p a4), Or.inr ⟨t + 1, by omega, pg_c a3 (fun κ a q z => wI_o (by omega)) rfl, ?_⟩⟩
        have em : ν1.1 27 1 (284 + 6 * cnt + 2) = nI k := (a4.1 _ _ _ (by omega)).trans wI_same
        have er : (wI μ1 9 j 5 (nI k)).2.1 9 j = (wR μ 9 j 4 0).2.1 9 j := by show μ1.2.1 9 j = _; rw [s4.2]
        refine io_upd i hc (Nat.le_of_lt (tk_lt h.1 a1)) fc (by decide) (Or.inl hn) (fun a ha => by rw [a4.1 _ _ _ (by omega), wI_o (by omega)]) (fun a _ _ => funext fun q => by rw [a4.1 _ _ _ (by omega), wI_o (by omega)]) (by rw [a4.1 _ _ _ (by omega), wI_o (by omega)]) (fun P hP => ⟨k, by omega, (if_pos rfl).trans em, by rw [er, wR_same, if_pos (by omega)], P, μ.1 9 j, μ.2.1 9 j, hP, by rw [if_pos (show k < 16 by omega)]; exact wI_same, fun i hi => if_neg hi, fun i hi => by rw [wI_o (by omega)]; exact s4.1 _ _ _ (by omega), fun i hi => by rw [er]; exact wR_o (by omega)⟩)
      · exact ⟨(), _, ν1, c_cellN ct s1, rfl, fc, fmi_p a3, fn_p a3, Or.inl ⟨pb_c a2 (fun κ a q z => wI_o (by omega)) rfl, rfl⟩⟩
/-- what an instruction waits for -/
def spT (R : RR) : RR := fun B P m r => ∃ f k : Nat, f ≤ 1 ∧ k < (if f = 1 then 8 else 16) ∧ P 2 = nI f ∧ P 3 = nI k ∧ r 2 = (if f = 1 then 50 else 48) ∧ m 5 = nI k ∧ ∃ P0 m0 r0, R B P0 m0 r0 ∧ (∀ i, i ≠ 2 → i ≠ 3 → P i = P0 i) ∧ (∀ i, i ≠ 5 → m i = m0 i) ∧ ∀ i, i ≠ 2 → r i = r0 i
def cWt (j : Nat) (μ : Mem) : Option (Unit × Mem) := bnd (fX11_takeRole 0 8 μ) fun a23 μ22 => ckB a23 74 <| if ¬ a23 = 48 then bnd (fX11_takeNumber 0 0 7 (wR μ22 9 j 2 a23)) fun x μ1 => some ((), wI μ1 9 j 5 x) else bnd (fX11_takeNumber 0 0 15 (wR μ22 9 j 2 a23)) fun x μ1 => some ((), wI μ1 9 j 5 x)
def mWt (F : Nat) (p : Int32) (q : Nat) (ν : Mem) : Option (Unit × Mem) := bnd (fX13_accept F 0 48 ν) fun x μ19 => if ¬ x = 0 then fX13_putNumber F 0 p 0 7 (wI μ19 27 1 q 1) else bnd (fX13_expectWord F 0 19 μ19) fun _ μ22 => fX13_putNumber F 0 p 0 15 (wI μ22 27 1 q 0)
theorem role8 : ∀ r, r < 74 → (¬ syR.getD r 0 &&& 8 = 0 ↔ r = 48 ∨ r = 50) := by decide
theorem op_wait {N n i0 j cnt z t : Nat} {c : Nat → Int32} {T0 : Md → Nat → Int32} {R : RR} {M0 M1 : Md} {μ ν : Mem} (h : PG N n c t μ ν) (hI : IO N n c i0 j cnt z T0 R M0 t μ ν) (hc : cnt < 32) (hn : i0 ≤ cnt) (fu : Nat) :
    J2 N n c M0 M1 (fun μ => cWt j μ) (mWt (fu + 1001) (nI (284 + 6 * cnt + 3)) (284 + 6 * cnt + 2) ν) t μ ν (IO N n c i0 j cnt z T0 R) (fun M t' _ μ' ν' => IO N n c i0 j cnt z T0 (spT R) M t' μ' ν') (FcI j) (FmI cnt) () := by
  refine j2_of (fun M μ _ hg' i => ?_) h hI
  have hn' : n ≤ 1000 := Nat.le_trans hg'.1.1 hg'.1.2.1
  have rl := role8 _ (syA_lt (N := N) (n := n) (c := c) (t := t))
  have yes : ∀ f ν1, f ≤ 1 → syA N n c t = (if f = 1 then 50 else 48) → t < n → PG N n c (t + 1) (wI μ 2 0 6 (nI (t + 1))) ν1 → FPm ν ν1 → ∀ FM, FM = fX13_putNumber (fu + 1001) 0 (nI (284 + 6 * cnt + 3)) (nI 0) (nI (if f = 1 then 7 else 15)) (wI ν1 27 1 (284 + 6 * cnt + 2) (nI f)) → P2 N n c (fun μ => cWt j μ) FM t μ ν (fun t' (_ : Unit) μ' ν' => IO N n c i0 j cnt z T0 (spT R) M t' μ' ν') (FcI j) (FmI cnt) () := by
    intro f ν1 hf q tn g1 fp FM eM
    have sl : (if f = 1 then 50 else 48) < 74 := by split <;> decide
    have g2 : PG N n c (t + 1) (wR (wI μ 2 0 6 (nI (t + 1))) 9 j 2 (if f = 1 then 50 else 48)) (wI ν1 27 1 (284 + 6 * cnt + 2) (nI f)) := pg_m (pg_c g1 (fun κ a q z => rfl) (funext fun q => wR_o (by omega))) (fun q _ _ => wI_o (by omega)) (funext fun q => wI_o (by omega))
    obtain ⟨μ2, ν2, v, s1, s2, s3, s4⟩ := p_put (lo := 0) (hi := if f = 1 then 7 else 15) g2 (by split <;> decide) (Nat.zero_le _) (p := 284 + 6 * cnt + 3) (by omega) fu
    have ec : cWt j μ = some ((), wI μ2 9 j 5 v) := by
      unfold cWt
      rw [c_takeRole hn' hg'.2.1 hg'.2.2.2.2.2.1.2.1 hg'.2.2.1 (rl.2 (by rw [q]; split; exact Or.inr rfl; exact Or.inl rfl)), bnd_some, ckB_ok syA_lt, q]
      by_cases e : f = 1
      · subst e
        simp only [if_true] at s1 ⊢
        rw [if_pos (by decide)]
        have s1 : fX11_takeNumber 0 0 7 (wR (wI μ 2 0 6 (nI (t + 1))) 9 j 2 50) = some (v, μ2) := s1
        rw [s1, bnd_some]
      · have : f = 0 := by omega
        subst this
        have s1 : fX11_takeNumber 0 0 15 (wR (wI μ 2 0 6 (nI (t + 1))) 9 j 2 48) = some (v, μ2) := s1
        show (if ¬ (48 : Nat) = 48 then _ else bnd (fX11_takeNumber 0 0 15 (wR (wI μ 2 0 6 (nI (t + 1))) 9 j 2 48)) fun x μ1 => some ((), wI μ1 9 j 5 x)) = _
        rw [if_neg (fun z => z rfl), s1, bnd_some]
    have fc : FcI j μ (wI μ2 9 j 5 v) := fci_trans (fci_p fpc_6) (fci_trans (fci_r sl) (fci_trans (fci_p s4) fci_w))
    have fm1 : FmI cnt ν (wI ν1 27 1 (284 + 6 * cnt + 2) (nI f)) := fmi_trans (fmi_p fp) (fmi_w (by decide))
    rcases s3 with ⟨a1, ⟨k, k1, k2, rfl⟩, a3, a4⟩ | ⟨a1, a2, a3⟩
    · have fcx : FcI j μ (wR (wI μ 2 0 6 (nI (t + 1))) 9 j 2 (if f = 1 then 50 else 48)) := fci_trans (fci_p fpc_6) (fci_r sl)
      have i1 : IO N n c i0 j cnt z T0 (fun B P m r => P 2 = nI f ∧ r 2 = (if f = 1 then 50 else 48) ∧ ∃ P0 r0, R B P0 m r0 ∧ (∀ i, i ≠ 2 → P i = P0 i) ∧ ∀ i, i ≠ 2 → r i = r0 i) M (t + 1) (wR (wI μ 2 0 6 (nI (t + 1))) 9 j 2 (if f = 1 then 50 else 48)) (wI ν1 27 1 (284 + 6 * cnt + 2) (nI f)) := by
        refine io_upd i hc (Nat.le_of_lt (tk_lt h.1 tn)) fcx (by decide) (Or.inl hn) (fun a ha => by rw [wI_o (by omega)]; exact fp.1 _ _ _ (by omega)) (fun a _ _ => funext fun q => by rw [wI_o (by omega)]; exact fp.1 _ _ _ (by omega)) (by rw [wI_o (by omega)]; exact fp.1 _ _ _ (by omega)) (fun P hP => ⟨(if_pos rfl).trans wI_same, wR_same, P, μ.2.1 9 j, ?_, fun i hi => if_neg hi, fun i hi => wR_o (by omega)⟩)
        show R _ _ ((wI μ 2 0 6 (nI (t + 1))).1 9 j) _
        rw [show (wI μ 2 0 6 (nI (t + 1))).1 9 j = μ.1 9 j from funext fun q => wI_o (by omega)]
        exact hP
      have fcy : FcI j (wR (wI μ 2 0 6 (nI (t + 1))) 9 j 2 (if f = 1 then 50 else 48)) (wI μ2 9 j 5 (nI k)) := fci_trans (fci_p s4) fci_w
      have em : ν2.1 27 1 (284 + 6 * cnt + 3) = nI k := (a4.1 _ _ _ (by omega)).trans wI_same
      refine ⟨(), _, ν2, ec, eM.trans s2, fc, fmi_trans fm1 (fmi_trans (fmi_w (by decide)) (fmi_p a4)), fn_trans (fn_p fp) (fn_trans fn_w (fn_trans fn_w (fn_p a4))), Or.inr ⟨t + 1 + 1, by omega, pg_c a3 (fun κ a q z => wI_o (by omega)) rfl, ?_⟩⟩
      refine io_upd (g := 3) i1 hc (Nat.le_of_lt (tk_lt h.1 a1)) fcy (by decide) (Or.inl hn) (fun a ha => by rw [a4.1 _ _ _ (by omega), wI_o (by omega)]) (fun a _ _ => funext fun q => by rw [a4.1 _ _ _ (by omega), wI_o (by omega)]) (by rw [a4.1 _ _ _ (by omega), wI_o (by omega)]) (fun P hP => ?_)
      obtain ⟨p1, p2, P0, r0, p3, p4, p5⟩ := hP
      have er : (wI μ2 9 j 5 (nI k)).2.1 9 j = (wR (wI μ 2 0 6 (nI (t + 1))) 9 j 2 (if f = 1 then 50 else 48)).2.1 9 j := by show μ2.2.1 9 j = _; rw [s4.2]
      refine ⟨f, k, hf, ?_, (if_neg (by decide)).trans p1, (if_pos rfl).trans em, by rw [er]; exact p2, wI_same, P0, _, r0, p3, fun i hi hi' => (if_neg hi').trans (p4 i hi), fun i hi => by rw [wI_o (by omega)]; exact s4.1 _ _ _ (by omega), fun i hi => by rw [er]; exact p5 i hi⟩
      split
      · rename_i e; rw [if_pos e] at k2; omega
      · rename_i e; rw [if_neg e] at k2; omega
    · exact ⟨(), _, ν2, ec, eM.trans s2, fc, fmi_trans fm1 (fmi_p a3), fn_trans (fn_p fp) (fn_trans fn_w (fn_p a3)), Or.inl ⟨pb_c a2 (fun κ a q z => wI_o (by omega)) rfl, rfl⟩⟩
  unfold mWt
  by_cases q1 : syA N n c t = 50
  · obtain ⟨-, ν1, ya, ys, g, g1, fp⟩ := yes_acc hg' 50 48 (by decide) q1 fu
    exact yes 1 ν1 (by decide) q1 g g1 fp _ (by rw [ya, bnd_some, if_pos (show ¬ (1 : Int32) = 0 by decide)]; rfl)
  · have na := (no_acc hg' 50 48 (by decide) q1 fu).1
    obtain ⟨μ1, ν1, s1, s2, s3, s4, s5⟩ := p_expectWord (r := 48) hg' (by decide) (by decide) (by decide) fu
    have s2 : fX13_expectWord (fu + 1001) 0 19 ν = some ((), ν1) := s2
    rcases s3 with ⟨q2, tn, g1⟩ | ⟨q2, b⟩
    · exact yes 0 ν1 (by decide) q2 tn (pg_mix hg' g1) s5 _ (by rw [na, bnd_some, if_neg (fun z => z rfl), s2, bnd_some]; rfl)
    · have r0 : syR.getD (syA N n c t) 0 &&& 8 = 0 := Classical.byContradiction fun z => by rcases rl.1 z with w | w; exact q2 w; exact q1 w
      obtain ⟨μ2, ν2, f1, f2, f3, f4, f5⟩ := p_fail2 (k := 1) hg' (by decide)
      have e12 : ν2 = ν1 := by
        have gq : ¬ (t < n ∧ syA N n c t = 48) := fun z => q2 z.2
        have ew : fX13_isWord (fu + 1001) 0 19 ν = _ := (no_acc hg' 48 19 (by decide) q2 fu).2
        unfold fX13_expectWord at s2
        rw [ew, bnd_some, m_chk0 f2, bnd_some, b_advance f3, bnd_some] at s2
        exact (Prod.mk.inj (Option.some.inj s2)).2
      subst e12
      have d2 := pb_dd f3
      have d3 : DD N n c (wR μ2 9 j 2 0) := dd_c d2 (fun κ a q z => rfl) (funext fun q => wR_o (by omega))
      have b3 : PB N n c (wI (wR μ2 9 j 2 0) 9 j 5 0) (wI ν2 27 1 (284 + 6 * cnt + 2) 0) := pb_m (pb_c f3 (fun κ a q z => wI_o (by omega)) (funext fun q => wR_o (by omega))) (fun q _ _ => wI_o (by omega))
      refine ⟨(), wI (wR μ2 9 j 2 0) 9 j 5 0, wI ν2 27 1 (284 + 6 * cnt + 2) 0, ?_, ?_, fci_trans (fci_p f4) (fci_trans (fci_r (by decide)) fci_w), fmi_trans (fmi_p f5) (fmi_w (by decide)), fn_trans (fn_p f5) fn_w, Or.inl ⟨b3, rfl⟩⟩
      · show cWt j μ = _
        unfold cWt
        rw [c_noRole hn' hg'.2.1 hg'.2.2.2.2.2.1.2.1 hg'.2.2.1 r0 f1, bnd_some, ckB_ok (by decide), if_pos (by decide), d_number d3, bnd_some]
      · rw [na, bnd_some, if_neg (fun z => z rfl), s2, bnd_some, b_put b3]
