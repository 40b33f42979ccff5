/-! QUERY: the calls in pairs -/
theorem q_vals {μ ν : Mem} {e : Nat} {ri ro : Int32} (h : relE μ e ri ro (fun k => tN ν (560 + 35 * e + k))) : ∀ i, i < 12 → pvM ν e i = clsv μ e i := by
  obtain ⟨-, -, hk, -, -, -, -, -, ⟨s, hh, r, -, -, -, q1, -, -, q2, -⟩, ⟨s', h', r', -, -, -, q3, -, -, q4, -⟩⟩ := h
  intro i hi
  unfold pvM clsv
  by_cases g0 : i = 0
  · rw [if_pos g0, if_pos g0]
  · rw [if_neg g0, if_neg g0]
    unfold fld
    by_cases g9 : i ≤ 9
    · rw [if_pos g9, if_pos (show i < 10 by omega)]
      have := hk (i - 1) (by omega)
      rw [show i - 1 + 1 = i by omega] at this
      exact this
    · rw [if_neg g9, if_neg (show ¬ i < 10 by omega)]
      by_cases g10 : i = 10
      · subst g10; exact q2.trans q1.symm
      · have : i = 11 := by omega
        subst this; exact q4.trans q3.symm
theorem q_min {nb : Nat} (h : nb ≤ 1000) : (if (200 : Int32) < nI nb then (200 : Int32) else nI nb) = nI (min nb 200) := by
  have e : (200 : Int32).toInt = 200 := rfl
  by_cases g : 200 < nb
  · rw [if_pos (by rw [Int32.lt_iff_toInt_lt, e, nI_toInt (by omega)]; omega), show min nb 200 = 200 by omega]; rfl
  · rw [if_neg (by rw [Int32.lt_iff_toInt_lt, e, nI_toInt (by omega)]; omega), show min nb 200 = nb by omega]
theorem op_query {p : Nat} {μ ν : Mem} (h : Rel2 p μ ν) (hF : FLD ν) (L : Int32) (fu : Nat) : OpI p μ ν (fX12_query (fu + 2001) 0 L μ) (fX13_query (fu + 2001) 0 L ν) := by
  have h' := h
  obtain ⟨⟨r1, r2, r3, r4, r5, r6⟩, hP, hM, ⟨nb, hnb, b1, b2, b3⟩, hE, ⟨u, e0, hu, he0, u1, u2, e1, hist⟩, hSn, hk3, hk9, hq0, hz0⟩ := h'
  rw [show fu + 2001 = fu + 1000 + 1001 from rfl]
  have em := q_min hnb
  have e200 : (200 : Int32).toInt = 200 := rfl
  rcases ix_cases L (n := min nb 200 + 1) (by omega) with hbad | ⟨N, hN1, rfl⟩
  · have hL := in_bad (n := min nb 200) (by omega) hbad
    refine op_badI h (c_queryNo fun ⟨z1, z2, z3⟩ => hL ⟨z1, ?_⟩) (m_queryNo (by rw [b2, em]; exact hL))
    rw [b1] at z3
    rw [Int32.lt_iff_toInt_lt, e200] at z2
    rw [Int32.le_iff_toInt_le, nI_toInt (by omega)] at z3 ⊢
    omega
  · have hL := in_ok (j := N) (n := min nb 200) (by omega) (by omega)
    have hN : N ≤ 1000 := by omega
    obtain ⟨n, μ5, sc, tz⟩ := c_scan (μ := wI μ 0 0 1 0) (N := N) hN (fu + 1000)
    have hT := tz_tp hN tz
    obtain ⟨⟨i1, i2, i3, i4, i5, i6, i7⟩, zn, -, z1, z2, z3, z6⟩ := tz
    have sk : ∀ κ a q, κ ≠ 2 → ¬ (κ = 0 ∧ a = 0 ∧ q = 1) → (sc0 (wI μ 0 0 1 0)).1 κ a q = μ.1 κ a q := fun κ a q z w => by unfold sc0; rw [wI_o (by omega), wI_o (by omega), wI_o (by omega), wI_o (by omega)]
    have ec : (sc0 (wI μ 0 0 1 0)).1 1 0 = μ.1 1 0 := funext fun q => sk _ _ _ (by decide) (by omega)
    rw [ec] at hT i2
    have k5 : ∀ κ a q, κ ≠ 2 → κ ≠ 4 → ¬ (κ = 0 ∧ a = 0 ∧ q = 1) → μ5.1 κ a q = μ.1 κ a q := fun κ a q z w v => (i3 κ a q z w).trans (sk κ a q z v)
    have k5r : ∀ κ a q, κ ≠ 3 → μ5.2.1 κ a q = μ.2.1 κ a q := fun κ a q z => i5 κ a q z
    have c7 : μ5.1 2 0 7 = 0 := (i4 0 7 (by omega)).trans (by unfold sc0; rw [wI_o (by omega)]; exact wI_same)
    have c8 : μ5.1 2 0 8 = -1 := (i4 0 8 (by omega)).trans wI_same
    have hCT : CT N n (μ.1 1 0) μ5 := ⟨i1, fun q hq => (i2 q hq).2, z1, z2, z3, funext fun q => k5 _ _ _ (by decide) (by decide) (by omega), fun _ => c8⟩
    have hBY : BY N ((wI (wI ν 26 0 6 0) 26 0 46 0).1 28 7) (μ.1 1 0) := fun k hk => by
      rw [wI_o (by omega), wI_o (by omega)]
      exact b3 k (by omega)
    obtain ⟨ν3, s1, s2, s3⟩ := m_startText (ν := wI (wI ν 26 0 6 0) 26 0 46 0) hT hBY (fu + 1000)
    have q3 : ∀ κ a q, ¬ (κ = 26 ∧ a = 0 ∧ (q = 22 ∨ q = 23 ∨ q = 24 ∨ q = 25 ∨ q = 26 ∨ q = 29 ∨ q = 46 ∨ q = 6)) → ν3.1 κ a q = ν.1 κ a q := fun κ a q z => by
      rw [s3.1 κ a q (by omega), wI_o (by omega), wI_o (by omega), wI_o (by omega), wI_o (by omega), wI_o (by omega), wI_o (by omega)]
    have q26 : ν3.1 26 0 26 = 0 := by rw [s3.1 _ _ _ (by omega), wI_o (by omega)]; exact wI_same
    have q29 : ν3.1 26 0 29 = nI 0 := by rw [s3.1 _ _ _ (by omega)]; exact wI_same
    have q46 : ν3.1 26 0 46 = nI 0 := by rw [s3.1 _ _ _ (by omega), wI_o (by omega), wI_o (by omega), wI_o (by omega), wI_o (by omega)]; exact wI_same
    have q6 : ν3.1 26 0 6 = 0 := by rw [s3.1 _ _ _ (by omega), wI_o (by omega), wI_o (by omega), wI_o (by omega), wI_o (by omega), wI_o (by omega)]; exact wI_same
    have q2 : ν3.2 = ν.2 := s3.2
    have pg : PG N n (μ.1 1 0) 0 μ5 ν3 := ⟨hT, hCT, z6, c7, q26, s2, fun k hk => by rw [q3 _ _ _ (by omega)]; exact b3 k (by omega)⟩
    have tn : tN ν3 = tN ν := funext fun q => q3 27 0 q (by omega)
    have hS : ∀ e, e < 4 → (μ.1 8 (4 * p + e) 0 = 0 ∨ μ.1 8 (4 * p + e) 0 = 1) ∧ tN ν (476 + 21 * e) = μ.1 8 (4 * p + e) 0 := fun e he => by
      obtain ⟨cnt, -, -, -, -, hs⟩ := hP
      rcases hs e he with ⟨a, b⟩ | ⟨a, b, -⟩
      · exact ⟨Or.inl a, b.trans a.symm⟩
      · exact ⟨Or.inr a, b.trans a.symm⟩
    obtain ⟨x, μ', ν', p1, p2, ⟨μ3, p3, rfl⟩, p4, p5, p6⟩ := p_qBody (p := p) (by omega) r1 pg q46 q29 ((k5r _ _ _ (by decide)).trans r2)
      (fun i hi => by rw [k5 _ _ _ (by decide) (by decide) (by omega)]; exact (hS i hi).1)
      (fun e he => by rw [tn, k5 _ _ _ (by decide) (by decide) (by omega)]; exact (hS e he).2)
      (fun e he g i hi => by
        rw [k5 _ _ _ (by decide) (by decide) (by omega)] at g
        have := (hM.2.2.2.2.2.2 e he g).1
        rw [show 4 * 0 + e = e by omega] at this
        have v := q_vals (ν := ν) this i hi
        have ep : pvM ν3 e i = pvM ν e i := by unfold pvM; rw [tn]
        have ek : clsv μ5 e i = clsv μ e i := by
          unfold clsv
          rw [k5 _ _ _ (by decide) (by decide) (by omega), k5 _ _ _ (by decide) (by decide) (by omega)]
        rw [ep, ek]; exact v)
      (fun i a b => (q3 _ _ _ (by omega)).trans (hF i a b)) (fu + 1000)
    have cl : fX12_query (fu + 1000 + 1001) 0 (nI N) μ = some (.inr x, wI μ3 0 0 2 (μ3.1 2 0 8)) := by
      rw [c_queryEq (by omega) (by rw [b1]; exact nI_le (by omega) (by omega)), sc, bnd_some]; exact p1
    have md : fX13_query (fu + 1000 + 1001) 0 (nI N) ν = some (x, ν') := by
      rw [m_queryEq (by rw [b2, em]; exact hL), s1, bnd_some]; exact p2
    have kk : ∀ κ a q, κ ≠ 2 → κ ≠ 4 → κ ≠ 24 → ¬ (κ = 0 ∧ a = 0 ∧ (q = 1 ∨ q = 2)) → (wI μ3 0 0 2 (μ3.1 2 0 8)).1 κ a q = μ.1 κ a q := fun κ a q y1 y2 y3 y4 => by
      rw [wI_o (by omega), p3.1 κ a q (by omega) y3]; exact k5 κ a q y1 y2 (by omega)
    have er2 : (wI μ3 0 0 2 (μ3.1 2 0 8)).2 = μ5.2 := p3.2
    have kr : ∀ κ a q, κ ≠ 3 → (wI μ3 0 0 2 (μ3.1 2 0 8)).2.1 κ a q = μ.2.1 κ a q := fun κ a q z => by rw [er2]; exact k5r κ a q z
    have nf : ∀ κ a q, ¬ (κ = 26 ∧ a = 0 ∧ (q = 6 ∨ 21 ≤ q ∧ q ≤ 29 ∨ q = 46)) → ¬ (κ = 28 ∧ (a = 15 ∨ a = 16)) → ν'.1 κ a q = ν.1 κ a q := fun κ a q y1 y2 => (p4.1 κ a q (by omega) y2).trans (q3 κ a q (by omega))
    have row : ∀ a, ν'.1 27 a = ν.1 27 a := fun a => funext fun q => nf _ _ _ (by omega) (by omega)
    have rp : ∀ {T : Nat → Int32}, relP μ p T → relP (wI μ3 0 0 2 (μ3.1 2 0 8)) p T := fun q => relP_c q (kk _ _ _ (by decide) (by decide) (by decide) (by omega)) (fun e he => funext fun k => kk _ _ _ (by decide) (by decide) (by decide) (by omega)) (fun a ha => ⟨funext fun k => kk _ _ _ (by decide) (by decide) (by decide) (by omega), funext fun k => kr _ _ _ (by decide)⟩)
    have wl : ∀ κ, wd κ ≠ 0 → κ ≠ 2 ∧ κ ≠ 4 ∧ κ ≠ 0 ∧ κ ≠ 24 := fun κ q => by
      refine ⟨?_, ?_, ?_, ?_⟩ <;> (intro z; rw [z] at q; exact q (by decide))
    have rm : ∀ {i : Nat} {T : Nat → Int32}, relM μ i p T → relM (wI μ3 0 0 2 (μ3.1 2 0 8)) i p T := fun q => relM_same (same_own fun κ n k hw _ => by
      obtain ⟨w1, w2, w3, w4⟩ := wl κ hw
      exact kk κ n k w1 w2 w4 (by omega)) (fun e he => kk _ _ _ (by decide) (by decide) (by decide) (by omega)) q
    refine ⟨.inr x, _, x, ν', cl, md, ⟨?_, rfl⟩, ?_, ?_, ?_⟩
    · exact (p4.1 _ _ _ (by omega) (by omega)).trans q6
    · refine ⟨⟨r1, (kr _ _ _ (by decide)).trans r2, (kr _ _ _ (by decide)).trans r3, (kr _ _ _ (by decide)).trans r4, ?_, ?_⟩, ?_, ?_, ⟨0, by decide, ?_, p6, fun k hk => absurd hk (by omega)⟩, p5, ⟨u, e0, hu, he0, ?_, ?_, ?_, fun k hk => ?_⟩, ?_, fun k hk => ?_, fun j hj => ?_, fun j hj => ?_, fun j hj => ?_⟩
      · rw [kr _ _ _ (by decide)]; exact r5
      · rw [kr _ _ _ (by decide)]; exact r6
      · rw [row 0]; exact rp hP
      · rw [row 0]; exact rm hM
      · rw [wI_o (by omega), p3.1 _ _ _ (by omega) (by decide), i3 _ _ _ (by decide) (by decide)]
        unfold sc0
        rw [wI_o (by omega), wI_o (by omega), wI_o (by omega)]
        exact wI_same
      · rw [kk _ _ _ (by decide) (by decide) (by decide) (by omega)]; exact u1
      · rw [nf _ _ _ (by omega) (by omega)]; exact u2
      · rw [kk _ _ _ (by decide) (by decide) (by decide) (by omega)]; exact e1
      · obtain ⟨a, b⟩ := hist k hk
        have er : rowT ν' 4 (700 * k) = rowT ν 4 (700 * k) := by unfold rowT; rw [row 4]
        rw [er]
        exact ⟨rp a, rm b⟩
      · have er : rowT ν' 3 0 = rowT ν 3 0 := by unfold rowT; rw [row 3]
        rw [er, kk _ _ _ (by decide) (by decide) (by decide) (by omega), nf _ _ _ (by omega) (by omega)]
        exact hSn.imp id fun ⟨a, b, c, d⟩ => ⟨a, b, rp c, rm d⟩
      · rw [er2]; exact i6 k hk (hk3 k hk)
      · rw [kr _ _ _ (by decide), kr _ _ _ (by decide), kr _ _ _ (by decide), kr _ _ _ (by decide)]; exact hk9 j hj
      · obtain ⟨s, hh, r, a, b, c, d1, d2, d3⟩ := hq0 j hj
        have o : ∀ k, (wI μ3 0 0 2 (μ3.1 2 0 8)).1 19 j k = μ.1 19 j k := fun k => kk _ _ _ (by decide) (by decide) (by decide) (by omega)
        exact ⟨s, hh, r, a, b, c, (o 0).trans d1, (o 1).trans d2, (o 2).trans d3⟩
      · rw [kk _ _ _ (by decide) (by decide) (by decide) (by omega)]
        exact hz0 j hj
    · refine ⟨fun κ n' k h1 h2 => ?_, fun κ n' k h1 => kr _ _ _ (by omega)⟩
      exact kk _ _ _ (by omega) (by omega) (by omega) (by omega)
    · exact ⟨fun κ n' k hk => nf _ _ _ (by omega) (by omega), fun κ n' k _ => by rw [p4.2, q2]⟩
