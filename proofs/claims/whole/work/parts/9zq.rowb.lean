/-! PARSING: the pieces of an instruction -/
def spW (w g f : Nat) (R : RR) : RR := fun B P m r => ∃ b : Nat, b ≤ 1 ∧ P g = nI b ∧ ∃ P0 r0, R B P0 m r0 ∧ r f = (if b = 1 then w else r0 f) ∧ (∀ i, i ≠ g → P i = P0 i) ∧ ∀ i, i ≠ f → r i = r0 i
theorem op_way {N n i0 j cnt z t w ii g f : Nat} {c : Nat → Int32} {T0 : Md → Nat → Int32} {R : RR} {M0 M1 : Md} {μ ν : Mem} (h : PG N n c t μ ν) (hI : IO N n c i0 j cnt z T0 R M0 t μ ν) (hc : cnt < 32) (hg : g < 6) (hn : i0 ≤ cnt ∨ g ≠ 2) (hw : w < 74 ∧ syT.getD w 0 = ii ∧ 0 < txN.getD ii 0 ∧ tkL (txC ii 0) = true) (fu : Nat) :
    J2 N n c M0 M1 (fun μ => bnd (fX11_skip 0 w μ) fun x μ1 => if x = 0 then some ((), μ1) else some ((), wR μ1 9 j f w)) (bnd (fX13_accept (fu + 1001) 0 ii ν) fun x ν1 => some ((), wI ν1 27 1 (284 + 6 * cnt + g) (if x = 0 then 0 else 1))) t μ ν (IO N n c i0 j cnt z T0 R) (fun M t' _ μ' ν' => IO N n c i0 j cnt z T0 (spW w g f R) M t' μ' ν') (FcI j) (FmI cnt) () := by
  obtain ⟨w1, rfl, w3, w4⟩ := hw
  refine j2_of (fun M μ _ hg' i => ?_) h hI
  obtain ⟨μ1, ν1, v, s1, s2, s3, s4, s5⟩ := p_accept hg' w1 w3 w4 fu
  have em : ∀ v, (wI ν1 27 1 (284 + 6 * cnt + g) v).1 27 1 (284 + 6 * cnt + g) = v := fun v => wI_same
  rcases s3 with ⟨q, tn, rfl, g1⟩ | ⟨q, rfl, rfl, rfl⟩
  · have fc : FcI j μ (wR μ1 9 j f w) := fci_trans (fci_p s4) (fci_r w1)
    refine ⟨(), wR μ1 9 j f w, wI ν1 27 1 (284 + 6 * cnt + g) 1, by show bnd _ _ = _; rw [s1, bnd_some, if_neg (show ¬ (1 : Int32) = 0 by decide)], by rw [s2, bnd_some, if_neg (show ¬ (1 : Int32) = 0 by decide)], fc, fmi_trans (fmi_p s5) (fmi_w hg), fn_trans (fn_p s5) fn_w, Or.inr ⟨t + 1, by omega, pg_m (pg_c g1 (fun κ a q z => rfl) (funext fun q => wR_o (by omega))) (fun q _ _ => wI_o (by omega)) (funext fun q => wI_o (by omega)), ?_⟩⟩
    refine io_upd i hc (Nat.le_of_lt (tk_lt h.1 tn)) fc hg hn (fun a ha => by rw [wI_o (by omega)]; exact s5.1 _ _ _ (by omega)) (fun a _ _ => funext fun q => by rw [wI_o (by omega)]; exact s5.1 _ _ _ (by omega)) (by rw [wI_o (by omega)]; exact s5.1 _ _ _ (by omega)) (fun P hP => ⟨1, by omega, (if_pos rfl).trans (em 1), P, μ1.2.1 9 j, ?_, wR_same, fun i hi => if_neg hi, fun i hi => wR_o (by omega)⟩)
    show R _ _ (μ1.1 9 j) _
    rw [s4.2, show μ1.1 9 j = μ.1 9 j from funext fun q => s4.1 _ _ _ (by omega)]
    exact hP
  · refine ⟨(), _, wI ν1 27 1 (284 + 6 * cnt + g) 0, by show bnd _ _ = _; rw [s1, bnd_some, if_pos (show (0 : Int32) = 0 from rfl)], by rw [s2, bnd_some, if_pos (show (0 : Int32) = 0 from rfl)], fci_rfl, fmi_w hg, fn_w, Or.inr ⟨t, Nat.le_refl t, pg_m hg' (fun q _ _ => wI_o (by omega)) (funext fun q => wI_o (by omega)), ?_⟩⟩
    exact io_upd i hc (Nat.le_refl _) fci_rfl hg hn (fun a ha => wI_o (by omega)) (fun a _ _ => funext fun q => wI_o (by omega)) (wI_o (by omega)) (fun P hP => ⟨0, by omega, (if_pos rfl).trans (em 0), P, _, hP, rfl, fun i hi => if_neg hi, fun i hi => rfl⟩)
def spC (R : RR) : RR := fun B P m r => ∃ d : Nat, d ≤ 2 ∧ P 2 = nI d ∧ r 3 = (if d = 0 then 0 else 62 + d) ∧ ∃ P0 r0, R B P0 m r0 ∧ (∀ i, i ≠ 2 → P i = P0 i) ∧ ∀ i, i ≠ 3 → r i = r0 i
theorem role128 : ∀ r, r < 74 → (¬ syR.getD r 0 &&& 128 = 0 ↔ r = 63 ∨ r = 64) := by decide
theorem op_change {N n i0 j cnt z t : Nat} {c : Nat → Int32} {T0 : Md → Nat → Int32} {R : RR} {M0 M1 : Md} {μ ν : Mem} (h : PG N n c t μ ν) (hI : IO N n c i0 j cnt z T0 R M0 t μ ν) (hc : cnt < 32) (hn : i0 ≤ cnt) (fu : Nat) :
    J2 N n c M0 M1 (fun μ => bnd (fX11_takeOptional 0 128 μ) fun a μ1 => ckB a 74 (some ((), wR μ1 9 j 3 a))) (bnd (fX13_accept (fu + 1001) 0 52 ν) fun x ν1 => if x = 0 then bnd (fX13_accept (fu + 1001) 0 53 ν1) fun y ν2 => some ((), wI ν2 27 1 (284 + 6 * cnt + 2) (if y = 0 then 0 else 2)) else some ((), wI ν1 27 1 (284 + 6 * cnt + 2) 1)) t μ ν (IO N n c i0 j cnt z T0 R) (fun M t' _ μ' ν' => IO N n c i0 j cnt z T0 (spC R) M t' μ' ν') (FcI j) (FmI cnt) () := by
  refine j2_of (fun M μ _ hg' i => ?_) h hI
  have hn' : n ≤ 1000 := Nat.le_trans hg'.1.1 hg'.1.2.1
  have ct := c_takeOpt (r := 128) hn' hg'.2.1 hg'.2.2.2.2.2.1.2.1 hg'.2.2.1
  have rl := role128 _ (syA_lt (N := N) (n := n) (c := c) (t := t))
  -- both take the word d
  have yes : ∀ d ν1, (d = 1 ∨ d = 2) → syA N n c t = 62 + d → t < n → PG N n c (t + 1) (wI μ 2 0 6 (nI (t + 1))) ν1 → FPm ν ν1 → ∀ FM, FM = some ((), wI ν1 27 1 (284 + 6 * cnt + 2) (nI d)) → P2 N n c (fun μ => bnd (fX11_takeOptional 0 128 μ) fun a μ1 => ckB a 74 (some ((), wR μ1 9 j 3 a))) FM t μ ν (fun t' (_ : Unit) μ' ν' => IO N n c i0 j cnt z T0 (spC R) M t' μ' ν') (FcI j) (FmI cnt) () := by
    intro d ν1 hd q tn g1 fp FM eM
    have fc : FcI j μ (wR (wI μ 2 0 6 (nI (t + 1))) 9 j 3 (62 + d)) := fci_trans (fci_p fpc_6) (fci_r (by omega))
    refine ⟨(), _, wI ν1 27 1 (284 + 6 * cnt + 2) (nI d), ?_, eM, fc, fmi_trans (fmi_p fp) (fmi_w (by decide)), fn_trans (fn_p fp) fn_w, Or.inr ⟨t + 1, by omega, pg_m (pg_c g1 (fun κ a q z => rfl) (funext fun q => wR_o (by omega))) (fun q _ _ => wI_o (by omega)) (funext fun q => wI_o (by omega)), ?_⟩⟩
    · show bnd _ _ = _
      rw [ct, if_neg (rl.2 (by omega)), bnd_some, q, ckB_ok (by omega)]
    · refine io_upd i hc (Nat.le_of_lt (tk_lt h.1 tn)) fc (by decide) (Or.inl hn) (fun a ha => by rw [wI_o (by omega)]; exact fp.1 _ _ _ (by omega)) (fun a _ _ => funext fun q => by rw [wI_o (by omega)]; exact fp.1 _ _ _ (by omega)) (by rw [wI_o (by omega)]; exact fp.1 _ _ _ (by omega)) (fun P hP => ⟨d, by omega, (if_pos rfl).trans wI_same, by rw [wR_same, if_neg (by omega)], P, μ.2.1 9 j, ?_, fun i hi => if_neg hi, fun i hi => wR_o (by omega)⟩)
      show R _ _ ((wI μ 2 0 6 (nI (t + 1))).1 9 j) _
      rw [show (wI μ 2 0 6 (nI (t + 1))).1 9 j = μ.1 9 j from funext fun q => wI_o (by omega)]
      exact hP
  by_cases q1 : syA N n c t = 63
  · obtain ⟨-, ν1, ya, ys, g, g1, fp⟩ := yes_acc hg' 63 52 (by decide) q1 fu
    exact yes 1 ν1 (Or.inl rfl) q1 g g1 fp _ (by rw [ya, bnd_some, if_neg (show ¬ (1 : Int32) = 0 by decide)]; rfl)
  · have na := (no_acc hg' 63 52 (by decide) q1 fu).1
    by_cases q2 : syA N n c t = 64
    · obtain ⟨-, ν1, ya, ys, g, g1, fp⟩ := yes_acc hg' 64 53 (by decide) q2 fu
      exact yes 2 ν1 (Or.inr rfl) q2 g g1 fp _ (by rw [na, bnd_some, if_pos (show (0 : Int32) = 0 from rfl), ya, bnd_some, if_neg (show ¬ (1 : Int32) = 0 by decide)]; rfl)
    · have nb := (no_acc hg' 64 53 (by decide) q2 fu).1
      have r0 : syR.getD (syA N n c t) 0 &&& 128 = 0 := Classical.byContradiction fun z => by rcases rl.1 z with w | w; exact q1 w; exact q2 w
      have fc : FcI j μ (wR μ 9 j 3 0) := fci_r (by decide)
      refine ⟨(), _, wI ν 27 1 (284 + 6 * cnt + 2) 0, ?_, ?_, fc, fmi_w (by decide), fn_w, Or.inr ⟨t, Nat.le_refl t, pg_m (pg_c hg' (fun κ a q z => rfl) (funext fun q => wR_o (by omega))) (fun q _ _ => wI_o (by omega)) (funext fun q => wI_o (by omega)), ?_⟩⟩
      · show bnd _ _ = _
        rw [ct, if_pos r0, bnd_some, ckB_ok (by decide)]
      · rw [na, bnd_some, if_pos (show (0 : Int32) = 0 from rfl), nb, bnd_some, if_pos (show (0 : Int32) = 0 from rfl)]
      · exact io_upd i hc (Nat.le_refl _) fc (by decide) (Or.inl hn) (fun a ha => wI_o (by omega)) (fun a _ _ => funext fun q => wI_o (by omega)) (wI_o (by omega)) (fun P hP => ⟨0, by omega, (if_pos rfl).trans wI_same, by rw [wR_same]; rfl, P, _, hP, fun i hi => if_neg hi, fun i hi => wR_o (by omega)⟩)
def spJ (R : RR) : RR := fun B P m r => ∃ k : Nat, k ≤ 7 ∧ P 1 = nI k ∧ r 2 = (if k = 0 then 0 else 42 + k) ∧ ∃ P0 r0, R B P0 m r0 ∧ (∀ i, i ≠ 1 → P i = P0 i) ∧ ∀ i, i ≠ 2 → r i = r0 i
theorem role4 : ∀ r, r < 74 → (¬ syR.getD r 0 &&& 4 = 0 ↔ 43 ≤ r ∧ r ≤ 49) := by decide
theorem ix_4 : ∀ r, r < 74 → ix 1 r = if 43 ≤ r ∧ r ≤ 49 then nI (r - 42) else -1 := by decide +kernel
theorem op_cond {N n i0 j cnt z t : Nat} {c : Nat → Int32} {T0 : Md → Nat → Int32} {R : RR} {M0 M1 : Md} {μ ν : Mem} (h : PG N n c t μ ν) (hI : IO N n c i0 j cnt z T0 R M0 t μ ν) (hc : cnt < 32) (hR : ∀ B P m r, R B P m r → P 1 = 0) (fu : Nat) :
    J2 N n c M0 M1 (fun μ => bnd (fX11_takeOptional 0 4 μ) fun a μ1 => ckB a 74 (some ((), wR μ1 9 j 2 a))) (bnd (fX13_indexIn (fu + 1001) 0 1 ν) fun x ν1 => if x = -1 then some ((), ν1) else bnd (fX13_scan (fu + 1001) 0 (wI ν1 27 1 (284 + 6 * cnt + 1) x)) fun _ ν2 => some ((), ν2)) t μ ν (IO N n c i0 j cnt z T0 R) (fun M t' _ μ' ν' => IO N n c i0 j cnt z T0 (spJ R) M t' μ' ν') (FcI j) (FmI cnt) () := by
  refine j2_of (fun M μ _ hg' i => ?_) h hI
  have hn' : n ≤ 1000 := Nat.le_trans hg'.1.1 hg'.1.2.1
  have ct := c_takeOpt (r := 4) hn' hg'.2.1 hg'.2.2.2.2.2.1.2.1 hg'.2.2.1
  have rl := role4 _ (syA_lt (N := N) (n := n) (c := c) (t := t))
  have ei : fX13_indexIn (fu + 1001) 0 1 ν = _ := p_index hg' (show 1 < 4 by decide) (fu + 951)
  rw [ix_4 _ syA_lt] at ei
  by_cases q : 43 ≤ syA N n c t ∧ syA N n c t ≤ 49
  · rw [if_pos q] at ei
    have rr := rl.2 q
    have tn := role_lt rr
    have h' : PG N n c t μ (wI ν 27 1 (284 + 6 * cnt + 1) (nI (syA N n c t - 42))) := pg_m hg' (fun q _ _ => wI_o (by omega)) (funext fun k => wI_o (by omega))
    obtain ⟨ν1, s1, s2, s3⟩ := p_next h' tn fu
    have fw := fpm_fw s3
    have fc : FcI j μ (wR (wI μ 2 0 6 (nI (t + 1))) 9 j 2 (syA N n c t)) := fci_trans (fci_p fpc_6) (fci_r syA_lt)
    refine ⟨(), _, ν1, ?_, ?_, fc, fmi_trans (fmi_w (by decide)) (fmi_p fw), fn_trans fn_w (fn_p fw), Or.inr ⟨t + 1, by omega, pg_c s2 (fun κ a q z => rfl) (funext fun q => wR_o (by omega)), ?_⟩⟩
    · show bnd _ _ = _
      rw [ct, if_neg rr, bnd_some, ckB_ok syA_lt]
    · rw [ei, bnd_some, if_neg (show ¬ nI (syA N n c t - 42) = -1 from nI_m1 (by omega)), s1, bnd_some]
    · refine io_upd i hc (Nat.le_of_lt (tk_lt h.1 tn)) fc (by decide) (Or.inr (by decide)) (fun a ha => by rw [fw.1 _ _ _ (by omega), wI_o (by omega)]) (fun a _ _ => funext fun q => by rw [fw.1 _ _ _ (by omega), wI_o (by omega)]) (by rw [fw.1 _ _ _ (by omega), wI_o (by omega)]) (fun P hP => ⟨syA N n c t - 42, by omega, (if_pos rfl).trans ((fw.1 _ _ _ (by omega)).trans wI_same), by rw [wR_same, if_neg (by omega)]; omega, P, μ.2.1 9 j, ?_, fun i hi => if_neg hi, fun i hi => wR_o (by omega)⟩)
      show R _ _ ((wI μ 2 0 6 (nI (t + 1))).1 9 j) _
      rw [show (wI μ 2 0 6 (nI (t + 1))).1 9 j = μ.1 9 j from funext fun q => wI_o (by omega)]
      exact hP
  · rw [if_neg q] at ei
    have r0 : syR.getD (syA N n c t) 0 &&& 4 = 0 := Classical.byContradiction fun z => q (rl.1 z)
    have fc : FcI j μ (wR μ 9 j 2 0) := fci_r (by decide)
    refine ⟨(), _, ν, ?_, ?_, fc, fmi_rfl, fn_rfl, Or.inr ⟨t, Nat.le_refl t, pg_c hg' (fun κ a q z => rfl) (funext fun q => wR_o (by omega)), ?_⟩⟩
    · show bnd _ _ = _
      rw [ct, if_pos r0, bnd_some, ckB_ok (by decide)]
    · rw [ei, bnd_some, if_pos rfl]
    · obtain ⟨h1, m, h2, h3, h4, h5⟩ := i
      exact ⟨lc_c h1 (fun κ a q z => rfl), m, h2, h3, h4, 0, by omega, hR _ _ _ _ h5, by rw [wR_same]; rfl, _, _, h5, fun _ _ => rfl, fun i hi => wR_o (by omega)⟩
