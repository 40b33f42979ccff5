/-! LOAD: promise 3, the calls in pairs -/
theorem op_load {p : Nat} {μ ν : Mem} (h : Rel2 p μ ν) (L : Int32) (fu : Nat) : OpLd μ ν (fX12_load (fu + 2001) 0 L μ) (fX13_load (fu + 2001) 0 L ν) := by
  obtain ⟨⟨r1, r2, r3, r4, r5, r6⟩, hP, hM, ⟨nb, hnb, b1, b2, b3⟩, hE, ⟨u, e0, hu, he0, u1, u2, e1, hist⟩, hSn, hk3, hk9, hq0, hz0⟩ := h
  rcases ix_cases L (n := nb + 1) (by omega) with hbad | ⟨N, hN1, rfl⟩
  · have hL := in_bad (n := nb) (by omega) hbad
    have hL' : ¬ ((0 : Int32) ≤ L ∧ L ≤ μ.1 0 0 1) := by rw [b1]; exact hL
    have hL2 : ¬ ((0 : Int32) ≤ L ∧ L ≤ ν.1 26 0 21) := by rw [b2]; exact hL
    exact ⟨.inl 2, μ, 0, _, p, c_loadNo hL', m_loadNo hL2, ⟨rfl, wI_same⟩, ⟨⟨r1, r2, r3, r4, r5, r6⟩, hP, hM, ⟨nb, hnb, b1, b2, b3⟩, hE, ⟨u, e0, hu, he0, u1, u2, e1, hist⟩, hSn, hk3, hk9, hq0, hz0⟩, kr_nil, kc_26⟩
  · have hL := in_ok (j := N) (n := nb) (by omega) (by omega)
    have hN : N ≤ 1000 := by omega
    have hs : 1 - p < 2 := by omega
    -- the class's scan
    obtain ⟨n, μ5, sc, tz⟩ := c_scan (μ := wI μ 0 0 1 0) (N := N) hN (fu + 1000)
    have sc : fX11_scan (fu + 2001) 0 (nI N) (wI μ 0 0 1 0) = some ((), μ5) := sc
    have hT := tz_tp hN tz
    obtain ⟨⟨i1, i2, i3, i4, i5, i6, i7⟩, -, -, z1, z2, z3, -⟩ := tz
    have sk : ∀ κ a q, κ ≠ 2 → ¬ (κ = 0 ∧ a = 0 ∧ q = 1) → (sc0 (wI μ 0 0 1 0)).1 κ a q = μ.1 κ a q := fun κ a q z w => by unfold sc0; rw [wI_o (by omega), wI_o (by omega), wI_o (by omega), wI_o (by omega)]
    have ec : (sc0 (wI μ 0 0 1 0)).1 1 0 = μ.1 1 0 := funext fun q => sk _ _ _ (by decide) (by omega)
    rw [ec] at hT i2
    have k5 : ∀ κ a q, κ ≠ 2 → κ ≠ 4 → ¬ (κ = 0 ∧ a = 0 ∧ q = 1) → μ5.1 κ a q = μ.1 κ a q := fun κ a q z w v => (i3 κ a q z w).trans (sk κ a q z v)
    have k5r : ∀ κ a q, κ ≠ 3 → μ5.2.1 κ a q = μ.2.1 κ a q := fun κ a q z => i5 κ a q z
    have c7 : μ5.1 2 0 7 = 0 := (i4 0 7 (by omega)).trans (by unfold sc0; rw [wI_o (by omega)]; exact wI_same)
    have c8 : μ5.1 2 0 8 = -1 := (i4 0 8 (by omega)).trans wI_same
    have hCT : CT N n (μ.1 1 0) μ5 := ⟨i1, fun q hq => (i2 q hq).2, z1, z2, z3, funext fun q => k5 _ _ _ (by decide) (by decide) (by omega), fun _ => c8⟩
    have hSY : SY μ5 := fun j hj => by
      obtain ⟨a, b, c, d⟩ := hk9 j hj
      exact ⟨by rw [k5r _ _ _ (by decide)]; exact a, by rw [k5r _ _ _ (by decide)]; exact b, by rw [k5r _ _ _ (by decide)]; exact c, by rw [k5r _ _ _ (by decide)]; exact d⟩
    -- the model's beginning
    obtain ⟨ν1, m1, m2, m3, m4⟩ := m_clear (ν := wI ν 26 0 6 0) (fu + 1300)
    have hBY : BY N ((wI ν1 26 0 39 0).1 28 7) (μ.1 1 0) := fun k hk => by
      rw [wI_o (by omega), m2 _ _ _ (by omega), wI_o (by omega)]
      exact b3 k (by omega)
    obtain ⟨ν3, s1, s2, s3⟩ := m_startText (ν := wI ν1 26 0 39 0) hT hBY (fu + 1000)
    have q3 : ∀ κ a q, ¬ (κ = 26 ∧ a = 0 ∧ (q = 22 ∨ q = 23 ∨ q = 24 ∨ q = 25 ∨ q = 26 ∨ q = 29 ∨ q = 39 ∨ q = 6)) → ¬ (κ = 27 ∧ a = 1) → ν3.1 κ a q = ν.1 κ a q := fun κ a q z w => by
      rw [s3.1 κ a q (by omega), wI_o (by omega), wI_o (by omega), wI_o (by omega), wI_o (by omega), wI_o (by omega), m2 κ a q w, wI_o (by omega)]
    have q26 : ν3.1 26 0 26 = 0 := by rw [s3.1 _ _ _ (by omega), wI_o (by omega)]; exact wI_same
    have q39 : ν3.1 26 0 39 = 0 := by rw [s3.1 _ _ _ (by omega), wI_o (by omega), wI_o (by omega), wI_o (by omega), wI_o (by omega)]; exact wI_same
    have q6 : ν3.1 26 0 6 = 0 := by rw [s3.1 _ _ _ (by omega), wI_o (by omega), wI_o (by omega), wI_o (by omega), wI_o (by omega), wI_o (by omega), m2 _ _ _ (by omega)]; exact wI_same
    have qD : ∀ a, a < 700 → ν3.1 27 1 a = if a = 2 then -1 else 0 := fun a ha => by
      rw [s3.1 _ _ _ (by omega), wI_o (by omega), wI_o (by omega), wI_o (by omega), wI_o (by omega), wI_o (by omega)]; exact m4 a ha
    have q2 : ν3.2 = ν.2 := s3.2.trans m3
    have hB3 : BY N (ν3.1 28 7) (μ.1 1 0) := fun k hk => by
      rw [q3 _ _ _ (by omega) (by omega)]; exact b3 k (by omega)
    -- both read
    obtain ⟨μ8, ν4, ν5, p1, p2, p3, p4, p5, p6, p7⟩ := p_program hs hT hCT c7 hSY q26 s2 hB3 q39 qD fu
    have ld : fX13_load (fu + 2001) 0 (nI N) ν = mK (fu + 2001) ν4 := by
      rw [m_loadEq (by rw [b2]; exact hL), show fu + 2001 = fu + 1300 + 701 from rfl, m1, bnd_some]
      show (bnd (fX13_startText (fu + 2001) 0 (nI N) (wI ν1 26 0 39 0)) fun _ μ37 => lp (fun _ => none) (fu + 2001) (mCl (fu + 2001) (mK (fu + 2001))) μ37) = _
      have s1 : fX13_startText (fu + 2001) 0 (nI N) (wI ν1 26 0 39 0) = some ((), ν3) := s1
      rw [s1, bnd_some, p2]
    have k8 : ∀ κ a q, κ ≠ 2 → κ ≠ 4 → ¬ (κ = 0 ∧ a = 0 ∧ q = 1) → ¬ (κ = 5 ∧ a = 1 - p) → ¬ (κ = 8 ∧ 4 * (1 - p) ≤ a ∧ a < 4 * (1 - p) + 4) → ¬ (κ = 9 ∧ 33 * (1 - p) ≤ a ∧ a < 33 * (1 - p) + 33) → ¬ κ = 10 → ¬ κ = 11 → μ8.1 κ a q = μ.1 κ a q := fun κ a q z1 z2 z3 z4 z5 z6 z7 z8 => (p4.1 κ a q (by omega) z4 z5 z6 z7 z8).trans (k5 κ a q z1 z2 z3)
    have k8r : ∀ κ a q, κ ≠ 3 → ¬ (κ = 9 ∧ 33 * (1 - p) ≤ a ∧ a < 33 * (1 - p) + 33) → ¬ (κ = 10 ∧ a = 0 ∧ q = 1) → μ8.2.1 κ a q = μ.2.1 κ a q := fun κ a q z1 z2 z3 => (p4.2.1 κ a q z2 z3).trans (k5r κ a q z1)
    have tok : ∀ k, k ≤ 1000 → μ8.2.1 3 0 k < 74 := fun k hk => by
      rw [p4.2.1 _ _ _ (by omega) (by omega)]
      exact i6 k hk (hk3 k hk)
    have sy8 : SY μ8 := p4.2.2.2 hSY
    have n5 : ∀ κ a q, ¬ (κ = 26 ∧ a = 0 ∧ (q = 22 ∨ q = 23 ∨ q = 24 ∨ q = 25 ∨ q = 26 ∨ q = 27 ∨ q = 29 ∨ q = 39 ∨ q = 6)) → ¬ (κ = 27 ∧ a = 1) → ¬ (κ = 28 ∧ 8 ≤ a ∧ a ≤ 12) → ν5.1 κ a q = ν.1 κ a q := fun κ a q z1 z2 z3 => (p5.1 κ a q (by omega) z2 z3).trans (q3 κ a q (by omega) z2)
    have n56 : ν5.1 26 0 6 = 0 := (p5.1 _ _ _ (by omega) (by omega) (by omega)).trans q6
    have n52 : ν5.2 = ν.2 := p5.2.trans q2
    have r84 : μ8.2.1 0 0 4 = p := (k8r _ _ _ (by decide) (by omega) (by omega)).trans r2
    have r85 : μ8.2.1 0 0 5 = 1 - p := (k8r _ _ _ (by decide) (by omega) (by omega)).trans r3
    have r55 : μ5.2.1 0 0 5 = 1 - p := (k5r _ _ _ (by decide)).trans r3
    have hl : nI N ≤ μ.1 0 0 1 := by rw [b1]; exact hL.2
    have finE : mK (fu + 2001) ν4 = if ν5.1 26 0 26 = 0 then bnd (fX13_copy (fu + 2001) 1 (0 : Int32) 0 (0 : Int32) (wI (wI ν5 26 0 21 0) 26 0 28 (-1))) fun _ μ31 => lp (fun _ _ => none) (fu + 2001) (mPi (fu + 2001)) μ31 (0 : Int32) else some ((-10 : Int32) - ν5.1 26 0 26, wI (wI ν5 26 0 21 0) 26 0 28 (ν5.1 26 0 27)) := by
      unfold mK
      rw [p3, bnd_some, m_finish, bnd_some]
      by_cases g : ν5.1 26 0 26 = 0
      · rw [if_pos g, if_pos g, if_pos g]
      · rw [if_neg g, if_neg g, if_neg g, wI_o (by omega), wI_o (by omega)]
    rcases p7 with ⟨g7, g8, g26, cnt, gP, gX⟩ | ⟨g7, g26, g8⟩
    · -- no error: the new program
      rw [if_pos g26] at finE
      have cp := m_copy (a := 1) (r := 0) (b := 0) (s := 0) (μ := wI (wI ν5 26 0 21 0) 26 0 28 (-1)) (Or.inl (by decide)) (by decide) (by decide) (fu + 1300)
      have cp : fX13_copy (fu + 2001) 1 (0 : Int32) 0 (0 : Int32) (wI (wI ν5 26 0 21 0) 26 0 28 (-1)) = some ((), rwP 1 0 0 0 700 (wI (wI ν5 26 0 21 0) 26 0 28 (-1))) := cp
      rw [cp, bnd_some] at finE
      have rw0 : ∀ k, k < 700 → tN (rwP 1 0 0 0 700 (wI (wI ν5 26 0 21 0) 26 0 28 (-1))) k = ν5.1 27 1 k := fun k hk => by
        show (if 27 = 27 ∧ 0 = 0 ∧ 700 * 0 ≤ k ∧ k < 700 * 0 + 700 then (wI (wI ν5 26 0 21 0) 26 0 28 (-1)).1 27 1 (700 * 0 + (k - 700 * 0)) else _) = _
        rw [if_pos (by omega), show 700 * 0 + (k - 700 * 0) = k by omega, wI_o (by omega), wI_o (by omega)]
      have rwo : ∀ κ a q, ¬ (κ = 27 ∧ a = 0) → (rwP 1 0 0 0 700 (wI (wI ν5 26 0 21 0) 26 0 28 (-1))).1 κ a q = (wI (wI ν5 26 0 21 0) 26 0 28 (-1)).1 κ a q := fun κ a q z => if_neg (by omega)
      have zz := gP.2.2.2.2.2.2.2.1
      have z0 : ∀ k, k < 284 → k ≠ 0 → k ≠ 2 → (∀ q, q < 16 → k ≠ 4 + 6 * q + 2) → ν5.1 27 1 k = 0 := fun k hk h0 h2 hq => by rw [zz k hk h0 hq, if_neg h2]
      obtain ⟨ν6, x1, x2⟩ := m_mPi (D := ν5.1 27 1) (fun q hq => ⟨z0 _ (by omega) (by omega) (by omega) (fun q' hq' => by omega), z0 _ (by omega) (by omega) (by omega) (fun q' hq' => by omega)⟩) (fun q => bt (μ8.1 5 (1 - p) 1) q) gP.2.2.2.2.2.2.1 (fu + 2001) (fu + 1972) (fu + 1996) rfl rfl 16 0 (fu + 1984) (rwP 1 0 0 0 700 (wI (wI ν5 26 0 21 0) 26 0 28 (-1))) (rwP 1 0 0 0 700 (wI (wI ν5 26 0 21 0) 26 0 28 (-1))) rfl (fun _ _ _ _ => rfl) rfl (fun k hk hq => rw0 k hk) (fun q hq => absurd hq (by omega))
      have x1 : lp (fun _ _ => none) (fu + 2001) (mPi (fu + 2001)) (rwP 1 0 0 0 700 (wI (wI ν5 26 0 21 0) 26 0 28 (-1))) 0 = some (ν5.1 27 1 0, ν6) := x1
      rw [x1] at finE
      -- the class begins
      let μ9 : Mem := cSwap p (wI μ8 0 0 2 (μ8.1 2 0 8))
      have k9 : ∀ κ a q, ¬ (κ = 0 ∧ a = 0 ∧ q = 2) → μ9.1 κ a q = μ8.1 κ a q := fun κ a q z => wI_o z
      have k9r : ∀ κ a q, ¬ (κ = 0 ∧ a = 0) → ¬ (κ = 22 ∧ a = 0 ∧ q = 0) → μ9.2.1 κ a q = μ8.2.1 κ a q := fun κ a q z w => by
        show (wR (wR (wR (wI μ8 0 0 2 (μ8.1 2 0 8)) 0 0 4 (1 - p)) 0 0 5 p) 22 0 0 (1 - p)).2.1 κ a q = _
        rw [wR_o (by omega), wR_o (by omega), wR_o (by omega)]; rfl
      have gP9 : PD (1 - p) (max cnt 1) cnt μ9 (ν5.1 27 1) := pd_c gP (fun κ a q z => k9 _ _ _ (by omega)) (funext fun a => funext fun q => k9r _ _ _ (by omega) (by omega))
      obtain ⟨μ10, y1, y2⟩ := c_begin (pd_room gP9) (fu + 1984)
      have y1 : fX3_begin (fu + 2001) 0 (1 - p) μ9 = some ((), μ10) := y1
      have cl := c_loadGood hN hl r1 sc r55 p1 r84 r85 g7 y1 y2.1.2
      obtain ⟨rPn, rMn⟩ := relM_load gP9 gX y2 x2 hs
      have ky : ∀ κ a q, ¬ BgS κ a → μ10.1 κ a q = μ9.1 κ a q := y2.1.1
      have ans : μ10.1 5 (1 - p) 0 = ν5.1 27 1 0 := (ky _ _ _ (by unfold BgS; omega)).trans (gP9.2.2.1.trans gP9.2.1.symm)
      have kf : ∀ κ a q, ¬ BgS κ a → ¬ (κ = 0) → (wI (wI μ10 0 0 15 0) 0 0 12 0).1 κ a q = μ8.1 κ a q := fun κ a q z w => by rw [wI_o (by omega), wI_o (by omega), ky κ a q z]; exact k9 κ a q (by omega)
      have kfr : (wI (wI μ10 0 0 15 0) 0 0 12 0).2 = μ9.2 := y2.1.2
      have k0 : ∀ q, q ≠ 15 → q ≠ 12 → (wI (wI μ10 0 0 15 0) 0 0 12 0).1 0 0 q = μ9.1 0 0 q := fun q z w => by rw [wI_o (by omega), wI_o (by omega)]; exact ky _ _ _ (by unfold BgS; omega)
      have mo : ∀ κ a q, κ ≠ 0 → (wI (wI μ10 0 0 15 0) 0 0 12 0).1 κ a q = μ10.1 κ a q := fun κ a q z => by rw [wI_o (by omega), wI_o (by omega)]
      refine ⟨.inr (μ10.1 5 (1 - p) 0), wI (wI μ10 0 0 15 0) 0 0 12 0, ν5.1 27 1 0, ν6, 1 - p, cl, ld.trans finE, ⟨?_, ans.symm⟩, ?_, ?_, ?_⟩
      · rw [x2.1 _ _ _ (by omega) (by omega), rwo _ _ _ (by omega), wI_o (by omega), wI_o (by omega)]; exact n56
      · refine ⟨⟨hs, ?_, ?_, ?_, ?_, ?_⟩, ?_, ?_, ⟨0, by decide, ?_, ?_, fun k hk => absurd hk (by omega)⟩, ?_, ⟨0, e0, by decide, he0, ?_, x2.2.2.1, ?_, fun k hk => absurd hk (by omega)⟩, Or.inl ⟨wI_same, x2.2.2.2.1⟩, fun k hk => ?_, fun j hj => ?_, fun j hj => ?_, fun j hj => ?_⟩
        · rw [kfr]; show (wR (wR (wR (wI μ8 0 0 2 (μ8.1 2 0 8)) 0 0 4 (1 - p)) 0 0 5 p) 22 0 0 (1 - p)).2.1 0 0 4 = _
          rw [wR_o (by omega), wR_o (by omega)]; exact wR_same
        · rw [kfr]; show (wR (wR (wR (wI μ8 0 0 2 (μ8.1 2 0 8)) 0 0 4 (1 - p)) 0 0 5 p) 22 0 0 (1 - p)).2.1 0 0 5 = _
          rw [wR_o (by omega), wR_same]; omega
        · rw [kfr]; exact wR_same
        · rw [kfr, k9r _ _ _ (by omega) (by omega), k8r _ _ _ (by decide) (by omega) (by omega)]; exact r5
        · rw [kfr, k9r _ _ _ (by omega) (by omega), p6]; exact hs
        · exact relP_c rPn (mo _ _ _ (by decide)) (fun e he => funext fun q => mo _ _ _ (by decide)) (fun a ha => ⟨funext fun q => mo _ _ _ (by decide), rfl⟩)
        · refine relM_same (i := 0) (same_own fun κ n k hw _ => mo κ n k (fun z => by rw [z] at hw; exact hw (by decide))) (fun e he => mo _ _ _ (by decide)) rMn
        · rw [k0 _ (by decide) (by decide), k9 _ _ _ (by omega), p4.1 _ _ _ (by omega) (by omega) (by omega) (by omega) (by omega) (by omega), i3 _ _ _ (by decide) (by decide)]
          unfold sc0
          rw [wI_o (by omega), wI_o (by omega), wI_o (by omega)]
          exact wI_same
        · rw [x2.1 _ _ _ (by omega) (by omega), rwo _ _ _ (by omega), wI_o (by omega)]; exact wI_same
        · rw [k0 _ (by decide) (by decide), x2.1 _ _ _ (by omega) (by omega), rwo _ _ _ (by omega)]
          show (wI μ8 0 0 2 (μ8.1 2 0 8)).1 0 0 2 = _
          rw [wI_same, wI_same]; exact g8
        · rw [wI_o (by omega)]; exact wI_same
        · rw [k0 _ (by decide) (by decide), k9 _ _ _ (by omega), k8 _ _ _ (by decide) (by decide) (by omega) (by omega) (by omega) (by omega) (by decide) (by decide)]; exact e1
        · rw [kfr, k9r _ _ _ (by omega) (by omega)]; exact tok k hk
        · rw [kfr, k9r _ _ _ (by omega) (by omega), k9r _ _ _ (by omega) (by omega), k9r _ _ _ (by omega) (by omega), k9r _ _ _ (by omega) (by omega)]; exact sy8 j hj
        · by_cases g : j < 8
          · obtain ⟨-, -, -, -, -, -, rm, t1, t2, t3, t4, t5, t6, t7, t8⟩ := y2.2.2.2.2.2.2 (j / 2) (by omega)
            rw [mo _ _ _ (by decide), mo _ _ _ (by decide), mo _ _ _ (by decide)]
            by_cases g' : j % 2 = 0
            · rw [show j = 2 * (j / 2) by omega]
              exact ⟨0, 0, rm, by decide, by decide, t1, t3, t4, t5⟩
            · rw [show j = 2 * (j / 2) + 1 by omega]
              exact ⟨0, 0, 8 - rm, by decide, by decide, by omega, t6, t7, t8⟩
          · obtain ⟨s, hh, r, a, b, c, d1, d2, d3⟩ := hq0 j hj
            have o : ∀ k, (wI (wI μ10 0 0 15 0) 0 0 12 0).1 19 j k = μ.1 19 j k := fun k => (kf _ _ _ (by unfold BgS; omega) (by decide)).trans (k8 _ _ _ (by decide) (by decide) (by omega) (by omega) (by omega) (by omega) (by decide) (by decide))
            exact ⟨s, hh, r, a, b, c, (o 0).trans d1, (o 1).trans d2, (o 2).trans d3⟩
        · by_cases g : j < 4
          · rw [mo _ _ _ (by decide)]
            exact Or.inr (y2.2.2.2.2.2.2 j g).1
          · rw [kf _ _ _ (by unfold BgS; omega) (by decide), k8 _ _ _ (by decide) (by decide) (by omega) (by omega) (by omega) (by omega) (by decide) (by decide)]
            exact hz0 j hj
      · refine ⟨fun κ n' k h1 h2 => ?_, fun κ n' k h1 => ?_⟩
        · rw [kf _ _ _ (by unfold BgS; omega) (by omega)]
          exact k8 _ _ _ (by omega) (by omega) (by omega) (by omega) (by omega) (by omega) (by omega) (by omega)
        · rw [kfr]
          exact (k9r _ _ _ (by omega) (by omega)).trans (k8r _ _ _ (by omega) (by omega) (by omega))
      · refine ⟨fun κ n' k hk => ?_, fun κ n' k _ => ?_⟩
        · rw [x2.1 _ _ _ (by omega) (by omega), rwo _ _ _ (by omega), wI_o (by omega), wI_o (by omega)]
          exact n5 _ _ _ (by omega) (by omega) (by omega)
        · rw [x2.2.1]; show (wI (wI ν5 26 0 21 0) 26 0 28 (-1)).2.1 κ n' k = _
          show ν5.2.1 κ n' k = _
          rw [n52]
    · -- an error: nothing but what was read
      have ng : ¬ ν5.1 26 0 26 = 0 := by rw [g26]; exact g7
      rw [if_neg ng] at finE
      have cl := c_loadBad hN hl r1 sc r55 p1 g7
      have kw : ∀ κ a q, ¬ (κ = 0 ∧ a = 0 ∧ q = 2) → (wI μ8 0 0 2 (μ8.1 2 0 8)).1 κ a q = μ8.1 κ a q := fun κ a q z => wI_o z
      have kk : ∀ κ a q, κ ≠ 2 → κ ≠ 4 → ¬ (κ = 0 ∧ a = 0 ∧ (q = 1 ∨ q = 2)) → ¬ (κ = 5 ∧ a = 1 - p) → ¬ (κ = 8 ∧ 4 * (1 - p) ≤ a ∧ a < 4 * (1 - p) + 4) → ¬ (κ = 9 ∧ 33 * (1 - p) ≤ a ∧ a < 33 * (1 - p) + 33) → ¬ κ = 10 → ¬ κ = 11 → (wI μ8 0 0 2 (μ8.1 2 0 8)).1 κ a q = μ.1 κ a q := fun κ a q z1 z2 z3 z4 z5 z6 z7 z8 => (kw κ a q (by omega)).trans (k8 κ a q z1 z2 (by omega) z4 z5 z6 z7 z8)
      have rp : ∀ {T : Nat → Int32}, relP μ p T → relP (wI μ8 0 0 2 (μ8.1 2 0 8)) p T := fun q => relP_c q (kk _ _ _ (by decide) (by decide) (by omega) (by omega) (by omega) (by omega) (by decide) (by decide)) (fun e he => funext fun k => kk _ _ _ (by decide) (by decide) (by omega) (by omega) (by omega) (by omega) (by decide) (by decide)) (fun a ha => ⟨funext fun k => kk _ _ _ (by decide) (by decide) (by omega) (by omega) (by omega) (by omega) (by decide) (by decide), funext fun k => k8r _ _ _ (by decide) (by omega) (by omega)⟩)
      have wl : ∀ κ, wd κ ≠ 0 → κ ≠ 2 ∧ κ ≠ 4 ∧ κ ≠ 0 ∧ κ ≠ 5 ∧ κ ≠ 8 ∧ κ ≠ 9 ∧ κ ≠ 10 ∧ κ ≠ 11 := fun κ q => by
        refine ⟨?_, ?_, ?_, ?_, ?_, ?_, ?_, ?_⟩ <;> (intro z; rw [z] at q; exact q (by decide))
      have rm : ∀ {i : Nat} {T : Nat → Int32}, relM μ i p T → relM (wI μ8 0 0 2 (μ8.1 2 0 8)) i p T := fun q => relM_same (same_own fun κ n k hw _ => by
        obtain ⟨w1, w2, w3, w4, w5, w6, w7, w8⟩ := wl κ hw
        exact kk κ n k w1 w2 (by omega) (by omega) (by omega) (by omega) w7 w8) (fun e he => kk _ _ _ (by decide) (by decide) (by omega) (by omega) (by omega) (by omega) (by decide) (by decide)) q
      have nf : ∀ κ a q, ¬ (κ = 26 ∧ a = 0 ∧ (q = 21 ∨ q = 28 ∨ q = 22 ∨ q = 23 ∨ q = 24 ∨ q = 25 ∨ q = 26 ∨ q = 27 ∨ q = 29 ∨ q = 39 ∨ q = 6)) → ¬ (κ = 27 ∧ a = 1) → ¬ (κ = 28 ∧ 8 ≤ a ∧ a ≤ 12) → (wI (wI ν5 26 0 21 0) 26 0 28 (ν5.1 26 0 27)).1 κ a q = ν.1 κ a q := fun κ a q z1 z2 z3 => by
        rw [wI_o (by omega), wI_o (by omega)]; exact n5 κ a q (by omega) z2 z3
      have row : ∀ a, a ≠ 1 → (wI (wI ν5 26 0 21 0) 26 0 28 (ν5.1 26 0 27)).1 27 a = ν.1 27 a := fun a ha => funext fun q => nf _ _ _ (by omega) (by omega) (by omega)
      refine ⟨.inr ((-10 : Int32) - μ8.1 2 0 7), wI μ8 0 0 2 (μ8.1 2 0 8), (-10 : Int32) - ν5.1 26 0 26, wI (wI ν5 26 0 21 0) 26 0 28 (ν5.1 26 0 27), p, cl, ld.trans finE, ⟨?_, by rw [g26]⟩, ?_, ?_, ?_⟩
      · rw [wI_o (by omega), wI_o (by omega)]; exact n56
      · refine ⟨⟨r1, r84, r85, ?_, ?_, ?_⟩, ?_, ?_, ⟨0, by decide, ?_, ?_, fun k hk => absurd hk (by omega)⟩, ?_, ⟨u, e0, hu, he0, ?_, ?_, ?_, fun k hk => ?_⟩, ?_, tok, sy8, fun j hj => ?_, fun j hj => ?_⟩
        · exact (k8r _ _ _ (by decide) (by omega) (by omega)).trans r4
        · have : μ8.2.1 22 0 1 = μ.2.1 22 0 1 := k8r _ _ _ (by decide) (by omega) (by omega)
          show μ8.2.1 22 0 1 < 13
          rw [this]; exact r5
        · show μ8.2.1 10 0 1 < 2
          rw [p6]; exact hs
        · rw [row 0 (by decide)]; exact rp hP
        · rw [row 0 (by decide)]; exact rm hM
        · rw [kw _ _ _ (by omega), p4.1 _ _ _ (by omega) (by omega) (by omega) (by omega) (by omega) (by omega), i3 _ _ _ (by decide) (by decide)]
          unfold sc0
          rw [wI_o (by omega), wI_o (by omega), wI_o (by omega)]
          exact wI_same
        · rw [wI_o (by omega)]; exact wI_same
        · rw [wI_same, wI_same]; exact g8
        · rw [kk _ _ _ (by decide) (by decide) (by omega) (by omega) (by omega) (by omega) (by decide) (by decide)]; exact u1
        · rw [nf _ _ _ (by omega) (by omega) (by omega)]; exact u2
        · rw [kk _ _ _ (by decide) (by decide) (by omega) (by omega) (by omega) (by omega) (by decide) (by decide)]; exact e1
        · obtain ⟨a, b⟩ := hist k hk
          have er : rowT (wI (wI ν5 26 0 21 0) 26 0 28 (ν5.1 26 0 27)) 4 (700 * k) = rowT ν 4 (700 * k) := by unfold rowT; rw [row 4 (by decide)]
          rw [er]
          exact ⟨rp a, rm b⟩
        · have er : rowT (wI (wI ν5 26 0 21 0) 26 0 28 (ν5.1 26 0 27)) 3 0 = rowT ν 3 0 := by unfold rowT; rw [row 3 (by decide)]
          rw [er, kk _ _ _ (by decide) (by decide) (by omega) (by omega) (by omega) (by omega) (by decide) (by decide), nf _ _ _ (by omega) (by omega) (by omega)]
          exact hSn.imp id fun ⟨a, b, c, d⟩ => ⟨a, b, rp c, rm d⟩
        · obtain ⟨s, hh, r, a, b, c, d1, d2, d3⟩ := hq0 j hj
          have o : ∀ k, (wI μ8 0 0 2 (μ8.1 2 0 8)).1 19 j k = μ.1 19 j k := fun k => kk _ _ _ (by decide) (by decide) (by omega) (by omega) (by omega) (by omega) (by decide) (by decide)
          exact ⟨s, hh, r, a, b, c, (o 0).trans d1, (o 1).trans d2, (o 2).trans d3⟩
        · rw [kk _ _ _ (by decide) (by decide) (by omega) (by omega) (by omega) (by omega) (by decide) (by decide)]
          exact hz0 j hj
      · refine ⟨fun κ n' k h1 h2 => ?_, fun κ n' k h1 => ?_⟩
        · exact kk _ _ _ (by omega) (by omega) (by omega) (by omega) (by omega) (by omega) (by omega) (by omega)
        · exact k8r _ _ _ (by omega) (by omega) (by omega)
      · exact ⟨fun κ n' k hk => nf _ _ _ (by omega) (by omega) (by omega), fun κ n' k _ => by show ν5.2.1 κ n' k = _; rw [n52]⟩
