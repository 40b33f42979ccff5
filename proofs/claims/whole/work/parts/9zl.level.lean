/-! PARSING: a clause of a level -/
theorem relI_9 {s a B : Nat} {μ μ' : Mem} {P : Nat → Int32} (h : relI μ (33 * s + a) B P) (e : ∀ κ a q, κ = 9 → μ'.1 κ a q = μ.1 κ a q) (er : μ'.2.1 9 = μ.2.1 9) : relI μ' (33 * s + a) B P := relI_c h (funext fun k => e 9 _ k rfl) (by rw [er])
theorem pd_level {s B cnt q : Nat} {μ μ' : Mem} {T : Nat → Int32} {b : Bool} (h : PD s B cnt μ T) (hq : q < 16) (e : ∀ κ a k, ¬ (κ = 5 ∧ a = s ∧ k = 1) → κ = 5 ∨ κ = 8 ∨ κ = 9 → μ'.1 κ a k = μ.1 κ a k) (er : μ'.2.1 9 = μ.2.1 9) (e1 : ∀ k, k < 16 → bt (μ'.1 5 s 1) k = if k = q then b else bt (μ.1 5 s 1) k) :
    PD s B cnt μ' (fun a => if a = 4 + 6 * q + 2 then b2 b else T a) := by
  obtain ⟨h1, h2, h3, h4, h5, h6, h7, h8, h9⟩ := h
  have tno : ∀ a, a ≠ 4 + 6 * q + 2 → (if a = 4 + 6 * q + 2 then b2 b else T a) = T a := fun a ha => if_neg ha
  refine ⟨h1, (tno 0 (by omega)).trans h2, (e 5 s 0 (by omega) (by omega)).trans h3, fun a ha => relI_P (relI_c (h4 a ha) (funext fun k => e 9 _ k (by omega) (by omega)) (by rw [er])) (fun k hk => tno _ (by omega)), fun a ha hb k hk => (tno _ (by omega)).trans (h5 a ha hb k hk), fun e' he' => pe_c (h6 e' he') (funext fun k => e 8 _ k (by omega) (by omega)) (fun k hk => tno _ (by omega)), fun k hk => ?_, fun a ha hb hc => (tno a (fun z => hc q hq z)).trans (h8 a ha hb hc), fun a ha hb => (tno a (by omega)).trans (h9 a ha hb)⟩
  show (if 4 + 6 * k + 2 = 4 + 6 * q + 2 then b2 b else T (4 + 6 * k + 2)) = _
  rw [e1 k hk]
  by_cases g : k = q
  · rw [if_pos (by omega), if_pos g]
  · rw [if_neg (by omega), if_neg g]; exact h7 k hk
theorem lbl_c {N n cnt : Nat} {c : Nat → Int32} {μ μ' ν ν' : Mem} (h : LBL N n c cnt μ ν) (e : ∀ κ a q, κ = 10 ∨ κ = 11 → μ'.1 κ a q = μ.1 κ a q) (e' : ∀ a q, a = 8 ∨ a = 9 → ν'.1 28 a q = ν.1 28 a q) : LBL N n c cnt μ' ν' := fun z => by
  obtain ⟨L, lt, la, lb, ll, l1, l2, l3⟩ := h ((e 10 0 2 (by omega)).symm.trans z)
  refine ⟨L, lt, la, lb, ll, ⟨(e _ _ _ (by omega)).trans l1.1, l1.2.1, fun i hi => ?_⟩, fun a ha => ?_, l3⟩
  · obtain ⟨a1, a2, a3, a4⟩ := l1.2.2 i hi
    exact ⟨(e _ _ _ (by omega)).trans a1, a2, (e _ _ _ (by omega)).trans a3, a4⟩
  · obtain ⟨a1, a2, a3⟩ := l2 a ha
    exact ⟨(e' _ _ (by omega)).trans a1, (e' _ _ (by omega)).trans a2, a3⟩
theorem fcp_5 {s : Nat} {μ : Mem} {v : Int32} : FcP s μ (wI μ 5 s 1 v) := ⟨fun κ a q _ z _ _ _ _ => wI_o (by omega), fun _ _ _ _ => rfl, rfl, id, fun ⟨x, h1, h2⟩ => ⟨x, h1, (wI_o (by omega)).trans h2⟩⟩
theorem c_level {s x l : Nat} {μ μ1 μ3 : Mem} {vx vl : Int32} (hs : s < 2) (e1 : fX11_takeNumber 0 0 15 μ = some (vx, μ1)) (e2 : fX11_takeNumber 0 0 1 μ1 = some (vl, μ3)) (hr : μ3.2.1 10 0 1 = s) : fX5_readLevel 0 μ = some ((), wI μ3 5 s 1 (((μ3.1 5 s 1) &&& (((1 : Int32) <<< (vx &&& 31)) ^^^ (-1 : Int32))) ||| (vl <<< (vx &&& 31)))) := by
  unfold fX5_readLevel
  simp only [nm_eq, c_takePin]
  rw [e1, bnd_some, e2, bnd_some, hr, ckB_ok hs, ckB_ok hs]
theorem p_level {N n s t : Nat} {c : Nat → Int32} {M0 M1 : Md} {μ ν : Mem} (hs : s < 2) (h : PG N n c t μ ν) (hI : IC N n c s M0 t μ ν) (fu : Nat) :
    J2 N n c M0 M1 (fun μ => fX5_readLevel 0 μ) (fX13_readLevel (fu + 1001) 0 ν) t μ ν (IC N n c s) (fun M t' _ μ' ν' => IC N n c s M t' μ' ν') (FcP s) FmP () := by
  refine j2_of (fun M μ _ g i => ?_) h hI
  obtain ⟨μ1, ν1, v, s1, s2, s3, s4, s5⟩ := p_number (lo := 0) (hi := 15) g (by decide) (by decide) fu
  have s1 : fX11_takeNumber 0 0 15 μ = some (v, μ1) := s1
  have s2 : fX13_number (fu + 1001) 0 0 15 ν = some (v, ν1) := s2
  obtain ⟨hL, hr, hS, m, cnt, hz, hN, hP, hX, hB⟩ := i
  unfold fX13_readLevel
  rw [s2, bnd_some]
  rcases s3 with ⟨a1, ⟨x, -, x2, rfl⟩, a3⟩ | ⟨a1, a2⟩
  · have ex : (4 : Int32) + 6 * nI x + 2 = nI (4 + 6 * x + 2) := by rw [show (4 : Int32) = nI 4 from rfl, show (6 : Int32) = nI 6 from rfl, show (2 : Int32) = nI 2 from rfl, pk_mul, nI_add, nI_add]
    obtain ⟨μ2, ν2, w, r1, r2, r3, r4⟩ := p_put (lo := 0) (hi := 1) a3 (by decide) (by decide) (p := 4 + 6 * x + 2) (by omega) fu
    have r1 : fX11_takeNumber 0 0 1 μ1 = some (w, μ2) := r1
    have r2 : fX13_putNumber (fu + 1001) 0 (nI (4 + 6 * x + 2)) 0 1 ν1 = some ((), ν2) := r2
    have er : μ2.2 = μ.2 := r4.2.trans s4.2
    have cl := c_level (x := 0) (l := 0) hs s1 r1 (by rw [er]; exact hr)
    rw [ex, r2, bnd_some]
    have fc : ∀ u, FcP s μ (wI μ2 5 s 1 u) := fun u => fcp_trans (fcp_p s4) (fcp_trans (fcp_p r4) fcp_5)
    rcases r3 with ⟨c1, ⟨l, -, l2, rfl⟩, c3, c4⟩ | ⟨c1, c2, c3⟩
    · obtain ⟨b, eb⟩ := b2_of (v := nI l) (by
        have : l = 0 ∨ l = 1 := by omega
        rcases this with rfl | rfl
        · exact Or.inl rfl
        · exact Or.inr rfl)
      have fm : FmP ν ν2 := fmp_trans (fmp_p s5) (fmp_trans ⟨fun κ a q z1 z2 z3 => wI_o (by omega), rfl⟩ (fmp_p c4))
      have sm : ∀ κ a q, ¬ (κ = 26 ∧ a = 0 ∧ 23 ≤ q ∧ q ≤ 27) → ν2.1 κ a q = (wI ν 27 1 (4 + 6 * x + 2) (nI l)).1 κ a q := fun κ a q z => by
        rw [c4.1 κ a q z, wI_at, wI_at]
        by_cases y : κ = 27 ∧ a = 1 ∧ q = 4 + 6 * x + 2
        · rw [if_pos y, if_pos y]
        · rw [if_neg y, if_neg y]; exact s5.1 κ a q z
      have nfx : nf cnt (4 + 6 * x + 2) ν := nf0 (Or.inl (by omega))
      have tt : TT M.1 ν2 = fun a => if a = 4 + 6 * x + 2 then nI l else TT M.1 ν a := by
        rw [← tt_w hN nfx]
        exact tt_congr (funext fun q => sm _ _ _ (by omega)) (funext fun q => sm _ _ _ (by omega)) (funext fun q => sm _ _ _ (by omega)) (sm _ _ _ (by omega))
      have g2 := fun u => pg_c (μ' := wI μ2 5 s 1 u) c3 (fun κ a q z => wI_o (by omega)) rfl
      refine ⟨(), _, ν2, cl, rfl, fc _, fm, fn_trans (fn_p s5) (fn_trans fn_w (fn_p c4)), Or.inr ⟨t + 1 + 1, by omega, g2 _, lc_c hL (fun κ a q z => ?_), by show μ2.2.1 10 0 1 = s; rw [er]; exact hr, sy_same (by show μ2.2.1 = _; rw [er]) hS, m, cnt, ?_, ?_, ?_, ?_, ?_⟩⟩
      · rw [wI_o (by omega), r4.1 _ _ _ (by omega), s4.1 _ _ _ (by omega)]
      · have := tk_lt h.1 a1; have := tk_lt h.1 c1; omega
      · exact nm_congr hN (fun e he hx => by rw [sm _ _ _ (by omega), wI_o (by omega)]; exact hx) (fun a _ _ => funext fun q => by rw [sm _ _ _ (by omega), wI_o (by omega)]) (by rw [sm _ _ _ (by omega), wI_o (by omega)])
      · rw [tt, eb]
        refine pd_level (b := b) hP (show x < 16 by omega) (fun κ a k z y => ?_) (by show μ2.2.1 9 = _; rw [er]) (fun k hk => ?_)
        · rw [wI_o z, r4.1 _ _ _ (by omega), s4.1 _ _ _ (by omega)]
        · rw [wI_same, bt_put b (by omega) (by omega), r4.1 _ _ _ (by omega), s4.1 _ _ _ (by omega)]
      · intro e he hx
        refine hX e he ?_
        rw [tt] at hx
        exact (if_neg (show ¬ 476 + 21 * e = 4 + 6 * x + 2 by omega)).symm.trans hx
      · exact lbl_c hB (fun κ a q z => by rw [wI_o (by omega), r4.1 _ _ _ (by omega), s4.1 _ _ _ (by omega)]) (fun a q z => by rw [sm _ _ _ (by omega), wI_o (by omega)])
    · exact ⟨(), _, ν2, cl, rfl, fc _, fmp_trans (fmp_p s5) (fmp_p c3), fn_trans (fn_p s5) (fn_p c3), Or.inl ⟨pb_c c2 (fun κ a q z => wI_o (by omega)) rfl, rfl⟩⟩
  · rw [b_put a2, bnd_some]
    refine ⟨(), _, ν1, c_level (x := 0) (l := 0) hs s1 (d_number (pb_dd a2)) (by rw [s4.2]; exact hr), rfl, fcp_trans (fcp_p s4) fcp_5, fmp_p s5, fn_p s5, Or.inl ⟨pb_c a2 (fun κ a q z => wI_o (by omega)) rfl, rfl⟩⟩
theorem d_level {N n s : Nat} {c : Nat → Int32} {μ : Mem} (hs : s < 2) (d : DD N n c μ) (hr : μ.2.1 10 0 1 = s) : ∃ v, fX5_readLevel 0 μ = some ((), wI μ 5 s 1 v) := ⟨_, c_level (x := 0) (l := 0) hs (d_number d) (d_number d) hr⟩
