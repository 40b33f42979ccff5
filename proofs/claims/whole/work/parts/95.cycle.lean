/-! A CYCLE, class and model -/
def CY (p i : Nat) (μ ν : Mem) : Prop := (p < 2 ∧ i < 13 ∧ μ.2.1 22 0 0 = p) ∧ relP μ p (fun k => ν.1 27 0 k) ∧ relMb 2000000 μ i p (fun k => ν.1 27 0 k) ∧ okM i μ
/-- cells of the machine i -/
def own (i κ n : Nat) : Prop := wd κ ≠ 0 ∧ n / wd κ = i
def FC (i : Nat) (μ μ' : Mem) : Prop := μ'.2 = (wR μ 22 0 1 i).2 ∧ ∀ κ n k, κ ≠ 22 → ¬ own i κ n → μ'.1 κ n k = μ.1 κ n k
def FM (ν ν' : Mem) : Prop := ν'.2 = ν.2 ∧ (∀ κ n k, ¬ (κ = 27 ∧ n = 0) → ¬ (κ = 26 ∧ n = 0 ∧ 16 ≤ k ∧ k ≤ 19) → ¬ (κ = 28 ∧ n ≤ 6) → κ ≠ 29 → ν'.1 κ n k = ν.1 κ n k) ∧ ∀ k, (k = 0 ∨ (284 ≤ k ∧ k < 560)) → tN ν' k = tN ν k
theorem own_i {i κ n : Nat} (h : ((κ = 12 ∨ κ = 13 ∨ κ = 15 ∨ κ = 16) ∧ n = i) ∨ (κ = 17 ∧ (n = 2 * i ∨ n = 2 * i + 1)) ∨ ((κ = 18 ∨ κ = 21) ∧ 4 * i ≤ n ∧ n < 4 * i + 4) ∨ ((κ = 19 ∨ κ = 20) ∧ 8 * i ≤ n ∧ n < 8 * i + 8)) : own i κ n := by
  unfold own
  rcases h with ⟨h1, rfl⟩ | ⟨h1, h2⟩ | ⟨h1, h2, h3⟩ | ⟨h1, h2, h3⟩
  · have : wd κ = 1 := by rcases h1 with h | h | h | h <;> subst h <;> rfl
    rw [this]; exact ⟨by decide, Nat.div_one _⟩
  · subst h1
    exact ⟨by decide, show n / 2 = i by omega⟩
  · have : wd κ = 4 := by rcases h1 with h | h <;> subst h <;> rfl
    rw [this]; exact ⟨by decide, by omega⟩
  · have : wd κ = 8 := by rcases h1 with h | h <;> subst h <;> rfl
    rw [this]; exact ⟨by decide, by omega⟩
theorem relS_e {μ : Mem} {j cnt : Nat} {S : Nat → Int32} (h : relS μ j cnt S) : (μ.1 8 j 0 = 0 ∧ S 0 = 0) ∨ (μ.1 8 j 0 = 1 ∧ S 0 = 1 ∧ S 2 = μ.1 8 j 4) := by
  rcases h with ⟨a, b⟩ | ⟨a, b, _, ⟨n, _, _, c, d⟩, _⟩
  · exact Or.inl ⟨a, b⟩
  · exact Or.inr ⟨a, b, c.trans d.symm⟩
theorem wR_at {μ : Mem} {κ n k v a b c : Nat} : (wR μ κ n k v).2.1 a b c = if a = κ ∧ b = n ∧ c = k then v else μ.2.1 a b c := rfl
theorem wR_same {μ : Mem} {κ n k v : Nat} : (wR μ κ n k v).2.1 κ n k = v := wR_at.trans (if_pos ⟨rfl, rfl, rfl⟩)
theorem wR_o {μ : Mem} {κ n k v a b c : Nat} (h : ¬ (a = κ ∧ b = n ∧ c = k)) : (wR μ κ n k v).2.1 a b c = μ.2.1 a b c := wR_at.trans (if_neg h)
theorem okE_cg {p i e cnt : Nat} {μ μ' ν ν' : Mem} (h18 : ∀ k, μ'.1 18 (4 * i + e) k = μ.1 18 (4 * i + e) k) (h21 : ∀ k, μ'.1 21 (4 * i + e) k = μ.1 21 (4 * i + e) k) (h19 : ∀ t k, t < 2 → μ'.1 19 (2 * (4 * i + e) + t) k = μ.1 19 (2 * (4 * i + e) + t) k) (h20 : ∀ t k, t < 2 → μ'.1 20 (2 * (4 * i + e) + t) k = μ.1 20 (2 * (4 * i + e) + t) k) (hν : ∀ k, 476 ≤ k → tN ν' k = tN ν k) (h : okE p i e cnt μ ν) : okE p i e cnt μ' ν' := by
  obtain ⟨E, a, ha, hpc⟩ := h
  exact ⟨relE_T (hν _ (by omega)) (hν _ (by omega)) (fun k _ => hν _ (by omega)) (relE_cg h18 h21 h19 h20 E), a, ha, (hν _ (by omega)).trans hpc⟩
theorem pr_cycle {p i c : Nat} {μ ν : Mem} (h : CY p i μ ν) (hclk : μ.1 12 i 0 = nI c) (hc : c < 2000000) (fu gu : Nat) :
    ∃ d μ' ν', fX9_simulateCycle (fu + 33) 0 i μ = some (nI d, μ') ∧ fX13_passCycle (gu + 33) 0 ν = some ((), ν') ∧ d ≤ 4 ∧ CY p i μ' ν' ∧ μ'.1 12 i 0 = nI (c + 1) ∧ msM ν' = msM ν + nI d ∧ FC i μ μ' ∧ FM ν ν' ∧ (∀ e, e < 4 → μ'.1 18 (4 * i + e) 10 = μ.1 18 (4 * i + e) 10) ∧ ∀ e, e < 4 → tN ν' (560 + 35 * e + 29) = tN ν (560 + 35 * e + 29) ∨ tN ν' (560 + 35 * e + 29) = tN ν (560 + 35 * e + 29) + 1 := by
  have hP := h.2.1
  obtain ⟨⟨hp, hi, r0⟩, ⟨cnt, hcnt, t0, h5, hI, hS⟩, ⟨⟨c', hc', c1, c2, htr⟩, ⟨o1, o2⟩, hpin, hflag, hmem, ⟨n, hn, n1, n2, hent⟩, heng⟩, hk⟩ := h
  have ec : c' = c := nI_inj (by omega) (by omega) (c2.symm.trans hclk)
  subst ec
  have t0 : tN ν 0 = nI cnt := t0
  have c1 : tN ν 1 = nI c' := c1
  -- the schedule
  have q0 : (wR μ 22 0 1 i).2.1 22 0 1 = i := wR_same
  have q00 : (wR μ 22 0 1 i).2.1 22 0 0 = p := (wR_o (by omega)).trans r0
  obtain ⟨m, μ1, ν1, e1, e2, hm, ⟨s1, s1'⟩, sc, sm, _, _, sent, sout⟩ := cyc_sched (i := i) (μ := wR μ 22 0 1 i) (ν := ν) hn n1 n2 hc' c1 c2 hent (fun q hq => (hpin q hq).2.2.1) fu gu
  have a1 : ∀ κ a b, ¬ (κ = 12 ∧ a = i ∧ (b = 3 ∨ b = 8)) → ¬ (κ = 15 ∧ a = i) → (wI μ1 12 i 8 (nI m)).1 κ a b = μ.1 κ a b := fun κ a b z1 z2 => by
    rw [wI_o (by omega)]; exact sc κ a b (by omega) z2
  have b1 : ∀ k, k ≠ 3 → ¬ (124 ≤ k ∧ k < 220) → (∀ q, q < 16 → k ≠ 4 + 6 * q + 2) → tN (wI ν1 27 0 3 (nI m)) k = tN ν k := fun k z1 z2 z3 => by
    rw [tN_o (by omega)]
    exact sm 27 0 k (fun z => z.2.2.elim z2 (fun ⟨q, hq, e⟩ => z3 q hq e))
  have b1' : ∀ κ a b, ¬ (κ = 27 ∧ a = 0) → (wI ν1 27 0 3 (nI m)).1 κ a b = ν.1 κ a b := fun κ a b z => by
    rw [wI_o (by omega)]; exact sm κ a b (by omega)
  generalize hμ1 : wI μ1 12 i 8 (nI m) = μA at *
  generalize hν1 : wI ν1 27 0 3 (nI m) = νA at *
  have A2 : μA.2 = (wR μ 22 0 1 i).2 := by rw [← hμ1]; exact s1
  have B2 : νA.2 = ν.2 := by rw [← hν1]; exact s1'
  have A8 : μA.1 12 i 8 = nI m := by rw [← hμ1]; exact wI_same
  have B3 : tN νA 3 = nI m := by rw [← hν1]; exact wI_same
  have entA : ∀ t, t < m → sE μA νA i t := fun t ht => sE_congr (by rw [← hμ1]; exact wI_o (by omega)) (fun t' _ _ => by rw [← hν1]; exact tN_o (by omega)) (sent t (Or.inl ht))
  have outA : ∀ q, q < 16 → tN νA (4 + 6 * q + 2) = b2 (bt (μA.1 12 i 3) q) := fun q hq => by
    rw [← hν1, ← hμ1, tN_o (by omega), wI_o (by omega)]; exact sout q hq
  have pinA : ∀ q, q < 16 → tN νA (4 + 6 * q + 0) = b2 (bt (μA.1 12 i 1) q) ∧ tN νA (4 + 6 * q + 1) = b2 (bt (μA.1 12 i 2) q) ∧ tN νA (4 + 6 * q + 2) = b2 (bt (μA.1 12 i 3) q) := fun q hq => by
    obtain ⟨p1, p2, p3, _⟩ := hpin q hq
    refine ⟨?_, ?_, outA q hq⟩
    · rw [b1 _ (by omega) (by omega) (fun q _ => by omega), a1 12 i 1 (by omega) (by omega)]; exact p1
    · rw [b1 _ (by omega) (by omega) (fun q _ => by omega), a1 12 i 2 (by omega) (by omega)]; exact p2
  -- what is read
  obtain ⟨νB, e3, v2, vm, vl, vf, v16, v17⟩ := m_readAll (i := i) (μ := μA) (ν := νA) pinA (gu + 16)
  have qA1 : μA.2.1 22 0 1 = i := by rw [A2]; exact q0
  have qA0 : μA.2.1 22 0 0 = p := by rw [A2]; exact q00
  let W0 : Int32 := (μA.1 12 i 1 &&& μA.1 12 i 2) ||| (μA.1 12 i 3 &&& (μA.1 12 i 2 ^^^ (-1)))
  let μB : Mem := wI (wI (wI (wI μA 22 0 2 W0) 22 0 3 (μA.1 12 i 4)) 22 0 4 0) 22 0 5 0
  have c3 : ∀ κ a b, ¬ (κ = 22) → μB.1 κ a b = μA.1 κ a b := fun κ a b z => by
    show (wI (wI (wI (wI μA 22 0 2 W0) 22 0 3 (μA.1 12 i 4)) 22 0 4 0) 22 0 5 0).1 κ a b = _
    rw [wI_o (by omega), wI_o (by omega), wI_o (by omega), wI_o (by omega)]
  have d3 : ∀ k, tN νB k = tN νA k := fun k => vm 27 0 k (by omega) (by omega)
  have aB : ∀ κ a b, κ ≠ 22 → ¬ (κ = 12 ∧ a = i ∧ (b = 3 ∨ b = 8)) → ¬ (κ = 15 ∧ a = i) → μB.1 κ a b = μ.1 κ a b := fun κ a b z0 z1 z2 => (c3 κ a b z0).trans (a1 κ a b z1 z2)
  have bB : ∀ k, k ≠ 3 → ¬ (124 ≤ k ∧ k < 220) → (∀ q, q < 16 → k ≠ 4 + 6 * q + 2) → tN νB k = tN ν k := fun k z1 z2 z3 => (d3 k).trans (b1 k z1 z2 z3)
  have tB : ∀ k, 220 ≤ k → tN νB k = tN ν k := fun k hk => bB k (by omega) (by omega) (fun q _ => by omega)
  have tB0 : tN νB 0 = tN ν 0 := bB 0 (by omega) (by omega) (fun q _ => by omega)
  -- the counters
  have okB : ∀ e, e < 4 → μB.1 8 (4 * p + e) 0 = 1 → okE p i e cnt μB νB := fun e he hx => by
    have hx' : μ.1 8 (4 * p + e) 0 = 1 := by rw [← aB 8 _ 0 (by omega) (by omega) (by omega)]; exact hx
    obtain ⟨E, a, cnt', t0', hc', ht, hac⟩ := heng e he hx'
    have ecn : cnt' = cnt := nI_inj (by omega) (by omega) ((show tN ν 0 = nI cnt' from t0').symm.trans t0)
    have hpos : 0 < cnt := by
      obtain ⟨_, _, ⟨n, hn, _⟩, _⟩ := relS_1 (hS e he) hx'
      omega
    refine ⟨relE_T (tB _ (by omega)) (tB _ (by omega)) (fun k _ => tB _ (by omega)) (relE_cg (fun k => aB _ _ _ (by omega) (by omega) (by omega)) (fun k => aB _ _ _ (by omega) (by omega) (by omega)) (fun t k _ => aB _ _ _ (by omega) (by omega) (by omega)) (fun t k _ => aB _ _ _ (by omega) (by omega) (by omega)) E), a, by omega, (tB _ (by omega)).trans ?_⟩
    rw [show 560 + 35 * e + 1 = 561 + 35 * e by omega]; exact ht
  have setB : ∀ e, e < 4 → (μB.1 8 (4 * p + e) 0 = 0 ∧ tN νB (476 + 21 * e) = 0) ∨ (μB.1 8 (4 * p + e) 0 = 1 ∧ tN νB (476 + 21 * e) = 1 ∧ tN νB (476 + 21 * e + 2) = μB.1 8 (4 * p + e) 4) := fun e he => by
    rw [aB 8 _ 0 (by omega) (by omega) (by omega), aB 8 _ 4 (by omega) (by omega) (by omega), tB _ (by omega), tB _ (by omega)]
    exact relS_e (hS e he)
  have qB1 : μB.2.1 22 0 1 = i := qA1
  have qB0 : μB.2.1 22 0 0 = p := qA0
  obtain ⟨M, μC, νC, e4, e5, ⟨k1, k1'⟩, kc, km, _, kM, kE⟩ := cyc_count hp hi qB0 qB1 setB okB (fu + 28) (gu + 28)
  have C8 : ∀ a b, μC.1 8 a b = μB.1 8 a b := fun a b => kc 8 a b (by omega)
  have tC : ∀ k, ¬ (560 ≤ k ∧ (k - 560) % 35 = 10) → tN νC k = tN νB k := fun k z => km 27 0 k (by omega) (by omega) (by omega)
  have qC1 : μC.2.1 22 0 1 = i := by rw [k1]; exact qB1
  have qC0 : μC.2.1 22 0 0 = p := by rw [k1]; exact qB0
  have h5C : μC.1 5 p 0 = nI cnt := (kc 5 p 0 (by omega)).trans ((aB 5 p 0 (by omega) (by omega) (by omega)).trans h5)
  have hIC : ∀ a, a < cnt → relI μC (33 * p + a) cnt (fun k => tN νC (284 + 6 * a + k)) := fun a ha => by
    have f9 : μC.1 9 = μ.1 9 := funext fun x => funext fun y => (kc 9 x y (by omega)).trans (aB 9 x y (by omega) (by omega) (by omega))
    have g9 : μC.2.1 9 = μ.2.1 9 := by
      rw [k1]; show μA.2.1 9 = _
      rw [A2]; exact funext fun x => funext fun y => wR_o (by omega)
    have := relI_T (P' := fun k => tN νC (284 + 6 * a + k)) (fun k hk => (tC _ (by omega)).trans (tB _ (by omega))) (hI a ha)
    unfold relI at this ⊢
    rw [f9, g9]
    exact this
  -- the port
  have oC : tN νC 2 = μC.1 12 i 5 := by
    rw [tC 2 (by omega), bB 2 (by omega) (by omega) (fun q _ => by omega), kc 12 i 5 (by omega), aB 12 i 5 (by omega) (by omega) (by omega)]; exact o1
  have oC2 : tN νC 2 = -1 ∨ ∃ n : Nat, n < 4 ∧ tN νC 2 = nI n := by
    rw [tC 2 (by omega), bB 2 (by omega) (by omega) (fun q _ => by omega)]; exact o2
  obtain ⟨v, hv, e6, e7⟩ := pr_port hp hi qC0 qC1 h5C hcnt hIC (M := M) (fun e he => ⟨(kM e he).1, fun hb => kE e he ((kM e he).2.2.2 hb)⟩) oC oC2 (fu + 28) (gu + 28)
  let μD : Mem := if v = -1 then μC else wI μC 12 i 5 v
  let νD : Mem := if v = -1 then wI νC 26 0 18 (-1) else wI (wI νC 26 0 18 v) 27 0 2 v
  have hμD : μD = if v = -1 then μC else wI μC 12 i 5 v := rfl
  have hνD : νD = if v = -1 then wI νC 26 0 18 (-1) else wI (wI νC 26 0 18 v) 27 0 2 v := rfl
  rw [← hμD] at e6
  rw [← hνD] at e7
  have D2 : μD.2 = μC.2 := by rw [hμD]; split <;> rfl
  have D2' : νD.2 = νC.2 := by rw [hνD]; split <;> rfl
  have mD : ∀ κ a b, ¬ (κ = 12 ∧ a = i ∧ b = 5) → μD.1 κ a b = μC.1 κ a b := fun κ a b z => by
    rw [hμD]; split
    · rfl
    · exact wI_o z
  have nD : ∀ κ a b, ¬ (κ = 26 ∧ a = 0 ∧ b = 18) → ¬ (κ = 27 ∧ a = 0 ∧ b = 2) → νD.1 κ a b = νC.1 κ a b := fun κ a b z1 z2 => by
    rw [hνD]; split
    · exact wI_o z1
    · rw [wI_o z2, wI_o z1]
  have D18 : νD.1 26 0 18 = v := by
    rw [hνD]; split
    · rename_i hh; rw [hh]; exact wI_same
    · rw [wI_o (by omega)]; exact wI_same
  have Dport : tN νD 2 = μD.1 12 i 5 ∧ (tN νD 2 = -1 ∨ ∃ n : Nat, n < 4 ∧ tN νD 2 = nI n) := by
    rw [hνD, hμD]; split
    · rw [tN_o (by omega)]; exact ⟨oC, oC2⟩
    · rw [show tN (wI (wI νC 26 0 18 v) 27 0 2 v) 2 = v from wI_same, wI_same]; exact ⟨rfl, hv⟩
  clear_value μD νD
  have qD1 : μD.2.1 22 0 1 = i := by rw [D2]; exact qC1
  have qD0 : μD.2.1 22 0 0 = p := by rw [D2]; exact qC0
  have tD : ∀ k, k ≠ 2 → tN νD k = tN νC k := fun k hk => nD 27 0 k (by omega) (by omega)
  have D8 : ∀ a b, μD.1 8 a b = μ.1 8 a b := fun a b => (mD 8 a b (by omega)).trans ((C8 a b).trans (aB 8 a b (by omega) (by omega) (by omega)))
  have tDν : ∀ k, 284 ≤ k → k < 560 → tN νD k = tN ν k := fun k h1 h2 => (tD k (by omega)).trans ((tC k (by omega)).trans (tB k (by omega)))
  have okD : ∀ e, e < 4 → μD.1 8 (4 * p + e) 0 = 1 → okE p i e cnt μD νD := fun e he hx => by
    refine okE_cg (fun k => mD _ _ _ (by omega)) (fun k => mD _ _ _ (by omega)) (fun t k _ => mD _ _ _ (by omega)) (fun t k _ => mD _ _ _ (by omega)) (fun k hk => tD k (by omega)) (kE e he ?_)
    rw [← C8, ← mD 8 _ 0 (by omega)]; exact hx
  have hS1 : ∀ e, e < 4 → μD.1 8 (4 * p + e) 0 = 1 → relS1 μD (4 * p + e) cnt (fun k => tN νD (476 + 21 * e + k)) := fun e he hx => by
    have f8 : μD.1 8 = μ.1 8 := funext fun x => funext fun y => D8 x y
    have := relS1_T (S' := fun k => tN νD (476 + 21 * e + k)) (fun k hk => tDν _ (by omega) (by omega)) (relS_1 (hS e he) (by rw [← D8]; exact hx))
    unfold relS1 at this ⊢
    rw [f8]
    exact this
  have hBS : ∀ e, e < 4 → μD.1 8 (4 * p + e) 0 = 1 → BS p i e cnt μD νD := fun e he hx => by
    have S1 := hS1 e he hx
    have hpos : 0 < cnt := by
      obtain ⟨_, _, ⟨n, hn, _⟩, _⟩ := S1
      omega
    refine ⟨⟨hp, hi, he, qD0, qD1⟩, ⟨hpos, hcnt, ?_, ?_⟩, fun a ha => ?_, S1, fun q hq => ?_, fun f hf => ?_⟩
    · rw [tD 0 (by omega), tC 0 (by omega), tB0]; exact t0
    · rw [mD 5 p 0 (by omega)]; exact h5C
    · have f9 : μD.1 9 = μC.1 9 := funext fun x => funext fun y => mD 9 x y (by omega)
      have := relI_T (P' := fun k => tN νD (284 + 6 * a + k)) (fun k hk => tD _ (by omega)) (hIC a ha)
      unfold relI at this ⊢
      rw [f9, D2]
      exact this
    · rw [nD 28 0 q (by omega) (by omega), km 28 0 q (by omega) (by omega) (by omega), vl q hq, mD 22 0 2 (by omega), kc 22 0 2 (by omega)]
      rw [show μB.1 22 0 2 = W0 from (wI_o (by omega)).trans ((wI_o (by omega)).trans ((wI_o (by omega)).trans wI_same)), show bt W0 q = lvl μA i q from bt_lvl (by omega)]
    · rw [nD 28 1 f (by omega) (by omega), km 28 1 f (by omega) (by omega) (by omega), vf f hf, mD 22 0 3 (by omega), kc 22 0 3 (by omega)]
      rw [show μB.1 22 0 3 = μA.1 12 i 4 from (wI_o (by omega)).trans ((wI_o (by omega)).trans wI_same), a1 12 i 4 (by omega) (by omega), b1 _ (by omega) (by omega) (fun q _ => by omega)]
      exact hflag f hf
  have kD : okM i μD := by
    refine ⟨fun t ht => ?_, fun t ht => ?_⟩
    · have w : ∀ k, μD.1 19 (8 * i + t) k = μ.1 19 (8 * i + t) k := fun k => (mD _ _ _ (by omega)).trans ((kc _ _ _ (by omega)).trans (aB _ _ _ (by omega) (by omega) (by omega)))
      obtain ⟨s, hh, r, z1, z2, z3, z4, z5, z6⟩ := hk.1 t ht
      exact ⟨s, hh, r, z1, z2, z3, (w 0).trans z4, (w 1).trans z5, (w 2).trans z6⟩
    · rw [mD _ _ _ (by omega), kc _ _ _ (by omega), aB _ _ _ (by omega) (by omega) (by omega)]; exact hk.2 t ht
  have base : P5 p i cnt μD νD 0 0 μD νD := by
    refine ⟨⟨rfl, rfl⟩, fun _ _ _ _ => rfl, fun _ _ _ _ => rfl, okD, fun a ha => ?_, ⟨?_, ?_⟩, fun q _ => rfl, fun e' he' => absurd he' (by omega), ⟨Nat.le_refl _, by rw [nI_0]; simp⟩, kD⟩
    · rw [tD _ (by omega), tC _ (by omega), bB _ (by omega) (by omega) (fun q _ => by omega), mD _ _ _ (by omega), kc _ _ _ (by omega), aB _ _ _ (by omega) (by omega) (by omega)]
      exact hmem a ha
    · rw [nD _ _ _ (by omega) (by omega), km _ _ _ (by omega) (by omega) (by omega), v16, mD _ _ _ (by omega), kc _ _ _ (by omega)]
      exact ((wI_o (by omega)).trans wI_same).symm
    · rw [nD _ _ _ (by omega) (by omega), km _ _ _ (by omega) (by omega) (by omega), v17, mD _ _ _ (by omega), kc _ _ _ (by omega)]
      exact wI_same.symm
  obtain ⟨d, μE, νE, e8, e9, hP5⟩ := cyc_ticks hp hi qD0 qD1 hBS (M := M) (v := v) (fun e he => by
    obtain ⟨z1, z2, z3, z4⟩ := kM e he
    refine ⟨(nD _ _ _ (by omega) (by omega)).trans z1, (nD _ _ _ (by omega) (by omega)).trans z2, (nD _ _ _ (by omega) (by omega)).trans z3, fun hb => ?_⟩
    rw [mD 8 _ 0 (by omega), C8]; exact z4 hb) D18 base (fu + 28) gu
  obtain ⟨⟨E2, E2'⟩, ec', em, eE, ea, ⟨er1, er2⟩, ep, ew, ⟨ed, ems⟩, ek⟩ := hP5
  have qE1 : μE.2.1 22 0 1 = i := by rw [E2]; exact qD1
  have xE : ∀ κ a b, ¬ WTs i 4 κ a b → ¬ (κ = 12 ∧ a = i ∧ b = 5) → ¬ (κ = 18 ∧ 4 * i ≤ a ∧ a < 4 * i + 4 ∧ b ≠ 10) → κ ≠ 22 → ¬ (κ = 12 ∧ a = i ∧ (b = 3 ∨ b = 8)) → ¬ (κ = 15 ∧ a = i) → μE.1 κ a b = μ.1 κ a b := fun κ a b z1 z2 z3 z4 z5 z6 =>
    (ec' κ a b z1).trans ((mD κ a b z2).trans ((kc κ a b (fun z => z3 ⟨z.1, z.2.1, z.2.2.1, by omega⟩)).trans (aB κ a b z4 z5 z6)))
  have yE : ∀ k, ¬ (560 ≤ k ∧ k < 700) → ¬ (108 ≤ k ∧ k < 124) → tN νE k = tN νD k := fun k z1 z2 => em 27 0 k (by unfold WVs; omega)
  have yν : ∀ k, k ≠ 2 → k ≠ 3 → ¬ (108 ≤ k ∧ k < 220) → (∀ q, q < 16 → k ≠ 4 + 6 * q + 2) → ¬ (560 ≤ k) → tN νE k = tN ν k := fun k z1 z2 z3 z4 z5 =>
    (yE k (by omega) (by omega)).trans ((tD k z1).trans ((tC k (by omega)).trans (bB k z2 (by omega) z4)))
  have E12 : ∀ b, b ≠ 1 → b ≠ 2 → b ≠ 3 → b ≠ 5 → b ≠ 8 → μE.1 12 i b = μ.1 12 i b := fun b z1 z2 z3 z4 z5 => xE 12 i b (by unfold WTs; omega) (by omega) (by omega) (by omega) (by omega) (by omega)
  have DD : ∀ b, b = 1 ∨ b = 2 → μD.1 12 i b = μ.1 12 i b := fun b hb => (mD _ _ _ (by omega)).trans ((kc _ _ _ (by omega)).trans (aB _ _ _ (by omega) (by omega) (by omega)))
  -- the model writes what was laid aside
  obtain ⟨νF, f1, f2, f3, f4⟩ := m_writeC (ν := νE) (L := bt (μD.1 12 i 1)) (D := bt (μD.1 12 i 2)) (fun e he => by
    obtain ⟨w1, w2, _⟩ := ew e he
    refine ⟨w1, w2.imp id fun hx => ?_⟩
    obtain ⟨bg, sg, g1, g2, g3, g4, _⟩ := (hS1 e he hx).2.2.2.2.2.2.1 2 (by decide)
    exact ⟨bg, sg, g1, g2, (yE _ (by omega) (by omega)).trans g3, (yE _ (by omega) (by omega)).trans g4⟩) (fun q hq => by
    rw [yν _ (by omega) (by omega) (by omega) (fun q _ => by omega) (by omega), yν _ (by omega) (by omega) (by omega) (fun q _ => by omega) (by omega), DD 1 (Or.inl rfl), DD 2 (Or.inr rfl)]
    exact ⟨(hpin q hq).1, (hpin q hq).2.1⟩) (gu + 16)
  have pinF : ∀ q, q < 16 → tN νF (4 + 6 * q + 0) = b2 (bt (μE.1 12 i 1) q) ∧ tN νF (4 + 6 * q + 1) = b2 (bt (μE.1 12 i 2) q) := fun q hq => by
    have := ep q hq
    obtain ⟨z1, z2⟩ := f4 q hq
    rw [← this] at z1 z2
    exact ⟨z1, z2⟩
  -- its flags
  obtain ⟨νG, g1, g2, g3, g4⟩ := m_flags (ν := νF) (F := bt (μ.1 12 i 4)) (fun f hf => by
    rw [show tN νF (100 + f) = tN νE (100 + f) from f3 27 0 _ (by omega), yν _ (by omega) (by omega) (by omega) (fun q _ => by omega) (by omega)]
    exact hflag f hf) (gu + 16)
  -- its records
  have tG : ∀ k, ¬ (100 ≤ k ∧ k < 108) → tN νG k = tN νF k := fun k hk => g3 27 0 k (by omega)
  obtain ⟨νH, mk, h1, h2, h3, h4, h5'⟩ := m_record_levels (ν := νG) (L := bt (μE.1 12 i 1)) (D := bt (μE.1 12 i 2)) (O := bt (μE.1 12 i 3)) (Bf := bt (μE.1 12 i 10)) (c := c') (by omega) (by
    rw [tG _ (by omega), show tN νF 1 = tN νE 1 from f3 27 0 _ (by omega), yν _ (by omega) (by omega) (by omega) (fun q _ => by omega) (by omega)]; exact c1) (fun q hq => by
    obtain ⟨z1, z2⟩ := pinF q hq
    refine ⟨(tG _ (by omega)).trans z1, (tG _ (by omega)).trans z2, ?_, ?_⟩
    · rw [tG _ (by omega), show tN νF (4 + 6 * q + 2) = tN νE (4 + 6 * q + 2) from f3 27 0 _ (by omega), yE _ (by omega) (by omega), tD _ (by omega), tC _ (by omega), d3, outA q hq, ec' 12 i 3 (by unfold WTs; omega), mD 12 i 3 (by omega), kc 12 i 3 (by omega), c3 12 i 3 (by omega)]
    · rw [tG _ (by omega), show tN νF (4 + 6 * q + 3) = tN νE (4 + 6 * q + 3) from f3 27 0 _ (by omega), yν _ (by omega) (by omega) (by omega) (fun q _ => by omega) (by omega), E12 10 (by omega) (by omega) (by omega) (by omega) (by omega)]
      exact (hpin q hq).2.2.2.1) (gu + 16)
  -- the class's end
  let fw : Int32 := ((μE.1 22 0 3) &&& ((μE.1 22 0 5) ^^^ (-1 : Int32))) ||| (μE.1 22 0 4)
  let W : Int32 := (μE.1 12 i 1 &&& μE.1 12 i 2) ||| (μE.1 12 i 3 &&& (μE.1 12 i 2 ^^^ (-1)))
  have Fo : ∀ b, b ≠ 4 → (wI μE 12 i 4 fw).1 12 i b = μE.1 12 i b := fun b hb => wI_o (by omega)
  obtain ⟨μG, z1, z2, z3, z4⟩ := c_endCycle (i := i) (c := c') (μ := wI μE 12 i 4 fw) (W := W) (X := μE.1 12 i 10) (by omega) ((Fo 0 (by omega)).trans ((E12 0 (by omega) (by omega) (by omega) (by omega) (by omega)).trans c2)) (Fo 10 (by omega)) (by rw [Fo 1 (by omega), Fo 2 (by omega), Fo 3 (by omega)]) (fu + 16)
  have hWl : ∀ q, q < 16 → bt W q = (if bt (μE.1 12 i 2) q then bt (μE.1 12 i 1) q else bt (μE.1 12 i 3) q) := fun q hq => bt_lvl (i := i) (μ := μE) (by omega)
  -- what all this has left
  have zc : ∀ κ a b, ¬ (κ = 12 ∧ a = i ∧ (b = 0 ∨ b = 10 ∨ b = 4)) → ¬ (κ = 16 ∧ a = i ∧ b = c' % 64) → ¬ (κ = 17 ∧ (a = 2 * i ∨ a = 2 * i + 1)) → (wI (wI (wI μG 12 i 10 W) 16 i (c' % 64) W) 12 i 0 (nI (c' + 1))).1 κ a b = μE.1 κ a b := fun κ a b w1 w2 w3 => by
    rw [wI_o (by omega), wI_o (by omega), wI_o (by omega), z3 κ a b w3, wI_o (by omega)]
  have zE : ∀ k, k ≠ 1 → k ≠ 220 + c' % 64 → ¬ (4 ≤ k ∧ k < 108) → tN (wI (wI νH 27 0 (220 + c' % 64) mk) 27 0 1 (nI (c' + 1))) k = tN νE k := fun k w1 w2 w3 => by
    rw [tN_o (by omega), tN_o (by omega), show tN νH k = tN νG k from h3 27 0 k (by omega), tG _ (by omega)]
    exact f3 27 0 k (by omega)
  have zP : ∀ q f, q < 16 → f < 6 → tN (wI (wI νH 27 0 (220 + c' % 64) mk) 27 0 1 (nI (c' + 1))) (4 + 6 * q + f) = tN νH (4 + 6 * q + f) := fun q f hq hf => by rw [tN_o (by omega), tN_o (by omega)]
  have hmod : c' % 64 < 64 := Nat.mod_lt _ (by decide)
  have out3 : ∀ q, q < 16 → tN νE (4 + 6 * q + 2) = b2 (bt (μE.1 12 i 3) q) := fun q hq => by
    rw [yE _ (by omega) (by omega), tD _ (by omega), tC _ (by omega), d3, outA q hq, ec' 12 i 3 (by unfold WTs; omega), mD 12 i 3 (by omega), kc 12 i 3 (by omega), c3 12 i 3 (by omega)]
  have E5 : μE.1 12 i 5 = μD.1 12 i 5 := ec' 12 i 5 (by unfold WTs; omega)
  have E8 : μE.1 12 i 8 = nI m := (ec' 12 i 8 (by unfold WTs; omega)).trans ((mD _ _ _ (by omega)).trans ((kc _ _ _ (by omega)).trans ((c3 _ _ _ (by omega)).trans A8)))
  have E223 : μE.1 22 0 3 = μ.1 12 i 4 := by
    rw [ec' 22 0 3 (by unfold WTs; omega), mD _ _ _ (by omega), kc _ _ _ (by omega), show μB.1 22 0 3 = μA.1 12 i 4 from (wI_o (by omega)).trans ((wI_o (by omega)).trans wI_same), a1 12 i 4 (by omega) (by omega)]
  have relm : relMb 2000000 (wI (wI (wI μG 12 i 10 W) 16 i (c' % 64) W) 12 i 0 (nI (c' + 1))) i p (fun k => (wI (wI νH 27 0 (220 + c' % 64) mk) 27 0 1 (nI (c' + 1))).1 27 0 k) := by
    refine ⟨⟨c' + 1, by omega, wI_same, wI_same, fun k hk hkc q hq => ?_⟩, ?_, fun q hq => ?_, fun f hf => ?_, fun a ha => ?_, ⟨m, by omega, ?_, ?_, fun k hk => ?_⟩, fun e he hx => ?_⟩
    · show bt (tN (wI (wI νH 27 0 (220 + c' % 64) mk) 27 0 1 (nI (c' + 1))) (220 + k)) q = _
      by_cases hkm : k = c' % 64
      · rw [hkm, tN_o (by omega), show tN (wI νH 27 0 (220 + c' % 64) mk) (220 + c' % 64) = mk from wI_same, h5' q (by omega), decide_eq_true hq, Bool.true_and, wI_o (by omega), wI_same, hWl q hq]
      · rw [zE _ (by omega) (by omega) (by omega), yν _ (by omega) (by omega) (by omega) (fun q _ => by omega) (by omega), zc 16 i k (by omega) (by omega) (by omega), xE 16 i k (by unfold WTs; omega) (by omega) (by omega) (by omega) (by omega) (by omega)]
        exact htr k hk (by omega) q hq
    · show tN (wI (wI νH 27 0 (220 + c' % 64) mk) 27 0 1 (nI (c' + 1))) 2 = _ ∧ (tN (wI (wI νH 27 0 (220 + c' % 64) mk) 27 0 1 (nI (c' + 1))) 2 = -1 ∨ ∃ n : Nat, n < 4 ∧ tN (wI (wI νH 27 0 (220 + c' % 64) mk) 27 0 1 (nI (c' + 1))) 2 = nI n)
      rw [zE 2 (by omega) (by omega) (by omega), yE 2 (by omega) (by omega), zc 12 i 5 (by omega) (by omega) (by omega), E5]
      exact Dport
    · obtain ⟨pf1, pf2⟩ := pinF q hq
      obtain ⟨r3, r4, r5⟩ := h4 q hq
      obtain ⟨o0, o1', o2', o3', o4', o5'⟩ := hpin q hq
      have hH : ∀ f, f < 3 → tN νH (4 + 6 * q + f) = tN νF (4 + 6 * q + f) := fun f hf => (h3 27 0 _ (by omega)).trans (tG _ (by omega))
      have hGν : ∀ f, 3 ≤ f → f < 6 → tN νG (4 + 6 * q + f) = tN ν (4 + 6 * q + f) := fun f hf1 hf2 => by
        rw [tG _ (by omega), show tN νF (4 + 6 * q + f) = tN νE (4 + 6 * q + f) from f3 27 0 _ (by omega), yν _ (by omega) (by omega) (by omega) (fun q _ => by omega) (by omega)]
      have x17 : ∀ t, t < 2 → (wI μE 12 i 4 fw).1 17 (2 * i + t) q = μ.1 17 (2 * i + t) q := fun t ht => (wI_o (by omega)).trans (xE 17 _ q (by unfold WTs; omega) (by omega) (by omega) (by omega) (by omega) (by omega))
      have y17 : ∀ t, (wI (wI (wI μG 12 i 10 W) 16 i (c' % 64) W) 12 i 0 (nI (c' + 1))).1 17 (2 * i + t) q = μG.1 17 (2 * i + t) q := fun t => by rw [wI_o (by omega), wI_o (by omega), wI_o (by omega)]
      have Z10 : (wI (wI (wI μG 12 i 10 W) 16 i (c' % 64) W) 12 i 0 (nI (c' + 1))).1 12 i 10 = W := by rw [wI_o (by omega), wI_o (by omega)]; exact wI_same
      have Z0 : (wI (wI (wI μG 12 i 10 W) 16 i (c' % 64) W) 12 i 0 (nI (c' + 1))).1 12 i 0 = nI (c' + 1) := wI_same
      have hX : bt (μE.1 12 i 10) q = bt (μ.1 12 i 10) q := by rw [E12 10 (by omega) (by omega) (by omega) (by omega) (by omega)]
      obtain ⟨zz1, zz2⟩ := z4 q hq
      have y0 : (wI (wI (wI μG 12 i 10 W) 16 i (c' % 64) W) 12 i 0 (nI (c' + 1))).1 17 (2 * i) q = μG.1 17 (2 * i) q := y17 0
      have y1 := y17 1
      have x0 : (wI μE 12 i 4 fw).1 17 (2 * i) q = μ.1 17 (2 * i) q := x17 0 (by decide)
      have x1 := x17 1 (by decide)
      rw [hX] at zz1 zz2
      rw [x0, x1] at zz1 zz2
      rw [← hWl q hq] at r3 r4 r5
      rw [hX] at r4
      have o4'' : tN ν (4 + 6 * q + 4) = μ.1 17 (2 * i) q := o4'
      have o5'' : tN ν (4 + 6 * q + 5) = (if bt (μ.1 12 i 10) q then μ.1 17 (2 * i + 1) q + μ.1 12 i 0 else μ.1 17 (2 * i + 1) q) := o5'
      rw [hGν 4 (by decide) (by decide), o4''] at r4
      rw [hGν 5 (by decide) (by decide), o5''] at r5
      refine ⟨?_, ?_, ?_, ?_, ?_, ?_⟩
      · show tN (wI (wI νH 27 0 (220 + c' % 64) mk) 27 0 1 (nI (c' + 1))) (4 + 6 * q + 0) = _
        rw [zP q 0 hq (by decide), hH 0 (by decide), zc 12 i 1 (by omega) (by omega) (by omega)]; exact pf1
      · show tN (wI (wI νH 27 0 (220 + c' % 64) mk) 27 0 1 (nI (c' + 1))) (4 + 6 * q + 1) = _
        rw [zP q 1 hq (by decide), hH 1 (by decide), zc 12 i 2 (by omega) (by omega) (by omega)]; exact pf2
      · show tN (wI (wI νH 27 0 (220 + c' % 64) mk) 27 0 1 (nI (c' + 1))) (4 + 6 * q + 2) = _
        rw [zP q 2 hq (by decide), hH 2 (by decide), show tN νF (4 + 6 * q + 2) = tN νE (4 + 6 * q + 2) from f3 27 0 _ (by omega), zc 12 i 3 (by omega) (by omega) (by omega)]; exact out3 q hq
      · show tN (wI (wI νH 27 0 (220 + c' % 64) mk) 27 0 1 (nI (c' + 1))) (4 + 6 * q + 3) = _
        rw [zP q 3 hq (by decide), Z10]; exact r3
      · show tN (wI (wI νH 27 0 (220 + c' % 64) mk) 27 0 1 (nI (c' + 1))) (4 + 6 * q + 4) = _
        rw [zP q 4 hq (by decide), r4, y0]
        by_cases hb : bt W q = bt (μ.1 12 i 10) q
        · rw [if_pos hb, (zz1 hb).1]; simp
        · rw [if_neg hb, (zz2 hb).1]
      · show tN (wI (wI νH 27 0 (220 + c' % 64) mk) 27 0 1 (nI (c' + 1))) (4 + 6 * q + 5) = _
        rw [zP q 5 hq (by decide), r5, Z10, Z0, y1, c2]
        cases hw : bt W q <;> cases hx : bt (μ.1 12 i 10) q
        · rw [(zz1 (by rw [hw, hx])).2]; simp [b2]
        · rw [(zz2 (by rw [hw, hx]; decide)).2, hw]; simp [b2]
        · rw [(zz2 (by rw [hw, hx]; decide)).2, hw, nI_succ]; simp [b2]; grind
        · rw [(zz1 (by rw [hw, hx])).2, nI_succ]; simp [b2]; grind
    · show tN (wI (wI νH 27 0 (220 + c' % 64) mk) 27 0 1 (nI (c' + 1))) (100 + f) = _
      have Z4 : (wI (wI (wI μG 12 i 10 W) 16 i (c' % 64) W) 12 i 0 (nI (c' + 1))).1 12 i 4 = fw := by
        rw [wI_o (by omega), wI_o (by omega), wI_o (by omega), z3 12 i 4 (by omega)]; exact wI_same
      rw [tN_o (by omega), tN_o (by omega), show tN νH (100 + f) = tN νG (100 + f) from h3 27 0 _ (by omega), g4 f hf, Z4, show νF.1 26 0 16 = μE.1 22 0 4 from (f3 26 0 16 (by omega)).trans er1, show νF.1 26 0 17 = μE.1 22 0 5 from (f3 26 0 17 (by omega)).trans er2]
      show _ = b2 (bt (((μE.1 22 0 3) &&& ((μE.1 22 0 5) ^^^ (-1 : Int32))) ||| (μE.1 22 0 4)) f)
      rw [bt_or, bt_and, bt_not (by omega), E223]
      cases bt (μE.1 22 0 4) f <;> cases bt (μE.1 22 0 5) f <;> cases bt (μ.1 12 i 4) f <;> rfl
    · show tN (wI (wI νH 27 0 (220 + c' % 64) mk) 27 0 1 (nI (c' + 1))) (108 + a) = _
      rw [zE _ (by omega) (by omega) (by omega), zc 13 i a (by omega) (by omega) (by omega)]; exact ea a ha
    · show tN (wI (wI νH 27 0 (220 + c' % 64) mk) 27 0 1 (nI (c' + 1))) 3 = _
      rw [zE _ (by omega) (by omega) (by omega), yE _ (by omega) (by omega), tD _ (by omega), tC _ (by omega), d3]; exact B3
    · rw [zc 12 i 8 (by omega) (by omega) (by omega)]; exact E8
    · exact sE_congr (by rw [zc 15 i k (by omega) (by omega) (by omega), ec' 15 i k (by unfold WTs; omega), mD _ _ _ (by omega), kc _ _ _ (by omega), c3 _ _ _ (by omega)]) (fun t' _ _ => by rw [zE _ (by omega) (by omega) (by omega), yE _ (by omega) (by omega), tD _ (by omega), tC _ (by omega), d3]) (entA k hk)
    · have hx' : μD.1 8 (4 * p + e) 0 = 1 := by
        rw [zc 8 _ 0 (by omega) (by omega) (by omega), ec' 8 _ 0 (by unfold WTs; omega)] at hx; exact hx
      obtain ⟨EE, a, ha, hpc⟩ := eE e he hx'
      have tz : ∀ k, 476 ≤ k → tN (wI (wI νH 27 0 (220 + c' % 64) mk) 27 0 1 (nI (c' + 1))) k = tN νE k := fun k hk => zE k (by omega) (by omega) (by omega)
      refine ⟨relE_T (tz _ (by omega)) (tz _ (by omega)) (fun k _ => tz _ (by omega)) (relE_cg (fun k => zc _ _ _ (by omega) (by omega) (by omega)) (fun k => zc _ _ _ (by omega) (by omega) (by omega)) (fun t k _ => zc _ _ _ (by omega) (by omega) (by omega)) (fun t k _ => zc _ _ _ (by omega) (by omega) (by omega)) EE), a, cnt, ?_, hcnt, ?_, Or.inr ha⟩
      · show tN (wI (wI νH 27 0 (220 + c' % 64) mk) 27 0 1 (nI (c' + 1))) 0 = _
        rw [zE _ (by omega) (by omega) (by omega), yν _ (by omega) (by omega) (by omega) (fun q _ => by omega) (by omega)]; exact t0
      · show tN (wI (wI νH 27 0 (220 + c' % 64) mk) 27 0 1 (nI (c' + 1))) (561 + 35 * e) = _
        rw [tz _ (by omega), show 561 + 35 * e = 560 + 35 * e + 1 by omega]; exact hpc
  refine ⟨d, wI (wI (wI μG 12 i 10 W) 16 i (c' % 64) W) 12 i 0 (nI (c' + 1)), wI (wI νH 27 0 (220 + c' % 64) mk) 27 0 1 (nI (c' + 1)), ?_, ?_, ed, ?_, wI_same, ?_, ⟨?_, fun κ a b w1 w2 => ?_⟩, ⟨?_, fun κ a b w1 w2 w3 w4 => ?_, fun k hk => ?_⟩, fun e he => ?_, fun e he => ?_⟩
  · rw [sim_eq, q0, ckB_ok hi, e1, bnd_some, qA1, ckB_ok hi, c_levels, bnd_some, qA1, ckB_ok hi]
    rw [show (wI (wI (wI (wI μA 22 0 2 ((μA.1 12 i 1 &&& μA.1 12 i 2) ||| (μA.1 12 i 3 &&& (μA.1 12 i 2 ^^^ (-1))))) 22 0 3 ((wI μA 22 0 2 ((μA.1 12 i 1 &&& μA.1 12 i 2) ||| (μA.1 12 i 3 &&& (μA.1 12 i 2 ^^^ (-1))))).1 12 i 4)) 22 0 4 0) 22 0 5 0) = μB by
      show wI (wI (wI (wI μA 22 0 2 W0) 22 0 3 ((wI μA 22 0 2 W0).1 12 i 4)) 22 0 4 0) 22 0 5 0 = _
      rw [show (wI μA 22 0 2 W0).1 12 i 4 = μA.1 12 i 4 from wI_o (by omega)]]
    rw [show fu + 33 = fu + 28 + 5 by omega, e4, bnd_some, e6, bnd_some, e8, qE1, ckB_ok hi, ckB_ok hi, show fu + 28 + 5 = fu + 16 + 17 by omega, z1, bnd_some]
  · rw [pass_eq, e2, bnd_some, show gu + 33 = gu + 16 + 17 by omega, e3, bnd_some, show gu + 16 + 17 = gu + 28 + 5 by omega, e5, e7, bnd_some, show gu + 28 + 5 = gu + 33 by omega, e9, show gu + 33 = gu + 16 + 17 by omega, f1, g1, h1, bnd_some, ckI_at (i := 1) (by decide), ckI_at (i := 1) (by decide)]
    have : (wI νH 27 0 (220 + c' % 64) mk).1 27 0 (1 : Int32).toNatClampNeg = nI c' := by
      show (wI νH 27 0 (220 + c' % 64) mk).1 27 0 1 = nI c'
      rw [wI_o (by omega), h3 27 0 1 (by omega), show νG.1 27 0 1 = tN νF 1 from tG _ (by omega), show tN νF 1 = tN νE 1 from f3 27 0 _ (by omega), yν _ (by omega) (by omega) (by omega) (fun q _ => by omega) (by omega)]
      exact c1
    rw [this, nI_1]
    rfl
  · have f5 : (wI (wI (wI μG 12 i 10 W) 16 i (c' % 64) W) 12 i 0 (nI (c' + 1))).1 5 = μ.1 5 := funext fun x => funext fun y => (zc 5 x y (by omega) (by omega) (by omega)).trans (xE 5 x y (by unfold WTs; omega) (by omega) (by omega) (by omega) (by omega) (by omega))
    have f8 : (wI (wI (wI μG 12 i 10 W) 16 i (c' % 64) W) 12 i 0 (nI (c' + 1))).1 8 = μ.1 8 := funext fun x => funext fun y => (zc 8 x y (by omega) (by omega) (by omega)).trans (xE 8 x y (by unfold WTs; omega) (by omega) (by omega) (by omega) (by omega) (by omega))
    have f9 : (wI (wI (wI μG 12 i 10 W) 16 i (c' % 64) W) 12 i 0 (nI (c' + 1))).1 9 = μ.1 9 := funext fun x => funext fun y => (zc 9 x y (by omega) (by omega) (by omega)).trans (xE 9 x y (by unfold WTs; omega) (by omega) (by omega) (by omega) (by omega) (by omega))
    have Z2 : (wI (wI (wI μG 12 i 10 W) 16 i (c' % 64) W) 12 i 0 (nI (c' + 1))).2 = (wR μ 22 0 1 i).2 := z2.trans (E2.trans (D2.trans (k1.trans A2)))
    refine ⟨⟨hp, hi, ?_⟩, relP_T2 (fun k hk => ?_) (relP_congr f5 f8 f9 ?_ hP), relm, fun t ht => ?_, fun t ht => ?_⟩
    · rw [Z2]; exact q00
    · show tN (wI (wI νH 27 0 (220 + c' % 64) mk) 27 0 1 (nI (c' + 1))) k = _
      rw [zE _ (by omega) (by omega) (by omega)]
      exact yν _ (by omega) (by omega) (by omega) (fun q _ => by omega) (by omega)
    · rw [Z2]; exact funext fun x => funext fun y => wR_o (by omega)
    · obtain ⟨s, hh, r, w1, w2, w3, w4, w5, w6⟩ := ek.1 t ht
      have w : ∀ k, (wI (wI (wI μG 12 i 10 W) 16 i (c' % 64) W) 12 i 0 (nI (c' + 1))).1 19 (8 * i + t) k = μE.1 19 (8 * i + t) k := fun k => zc _ _ _ (by omega) (by omega) (by omega)
      exact ⟨s, hh, r, w1, w2, w3, (w 0).trans w4, (w 1).trans w5, (w 2).trans w6⟩
    · rw [zc _ _ _ (by omega) (by omega) (by omega)]; exact ek.2 t ht
  · have t9 : ∀ k, k = 589 ∨ k = 624 ∨ k = 659 ∨ k = 694 → tN (wI (wI νH 27 0 (220 + c' % 64) mk) 27 0 1 (nI (c' + 1))) k = tN νE k := fun k hk => zE k (by omega) (by omega) (by omega)
    have u9 : ∀ k, k = 589 ∨ k = 624 ∨ k = 659 ∨ k = 694 → tN νD k = tN ν k := fun k hk => (tD k (by omega)).trans ((tC k (by omega)).trans (tB k (by omega)))
    have ms1 : msM (wI (wI νH 27 0 (220 + c' % 64) mk) 27 0 1 (nI (c' + 1))) = msM νE := by unfold msM; rw [t9 _ (by decide), t9 _ (by decide), t9 _ (by decide), t9 _ (by decide)]
    have ms2 : msM νD = msM ν := by unfold msM; rw [u9 _ (by decide), u9 _ (by decide), u9 _ (by decide), u9 _ (by decide)]
    rw [ms1, ems, ms2]
  · exact z2.trans (E2.trans (D2.trans (k1.trans A2)))
  · have no : ∀ P : Prop, (P → ((κ = 12 ∨ κ = 13 ∨ κ = 15 ∨ κ = 16) ∧ a = i) ∨ (κ = 17 ∧ (a = 2 * i ∨ a = 2 * i + 1)) ∨ ((κ = 18 ∨ κ = 21) ∧ 4 * i ≤ a ∧ a < 4 * i + 4) ∨ ((κ = 19 ∨ κ = 20) ∧ 8 * i ≤ a ∧ a < 8 * i + 8)) → ¬ P := fun P hP q => w2 (own_i (hP q))
    rw [zc κ a b (no _ (by omega)) (no _ (by omega)) (no _ (by omega))]
    exact xE κ a b (no _ (by unfold WTs; omega)) (no _ (by omega)) (no _ (by omega)) w1 (no _ (by omega)) (no _ (by omega))
  · exact h2.trans (g2.trans (f2.trans (E2'.trans (D2'.trans (k1'.trans (v2.trans B2))))))
  · rw [wI_o (by omega), wI_o (by omega), h3 κ a b (by omega), g3 κ a b (by omega), f3 κ a b (by omega), em κ a b (by unfold WVs; omega), nD κ a b (by omega) (by omega), km κ a b (by omega) (by omega) (by omega), vm κ a b (by omega) (by omega)]
    exact b1' κ a b w1
  · rw [zE _ (by omega) (by omega) (by omega)]
    exact yν _ (by omega) (by omega) (by omega) (fun q _ => by omega) (by omega)
  · rw [zc 18 _ 10 (by omega) (by omega) (by omega)]
    exact xE 18 _ 10 (by unfold WTs; omega) (by omega) (by omega) (by omega) (by omega) (by omega)
  · have u9 : tN νD (560 + 35 * e + 29) = tN ν (560 + 35 * e + 29) := (tD _ (by omega)).trans ((tC _ (by omega)).trans (tB _ (by omega)))
    rw [zE _ (by omega) (by omega) (by omega), ← u9]
    exact (ew e he).2.2
