/-- what the counting leaves behind, engines 0 .. e - 1 done -/
def CF (p i cnt : Nat) (μ ν : Mem) (M : Int32) (e : Nat) (μ' ν' : Mem) : Prop :=
  (μ'.2 = μ.2 ∧ ν'.2 = ν.2) ∧ (∀ κ n k, ¬ (κ = 18 ∧ 4 * i ≤ n ∧ n < 4 * i + e ∧ k = 9) → μ'.1 κ n k = μ.1 κ n k) ∧ (∀ κ n k, ¬ (κ = 27 ∧ n = 0 ∧ 560 ≤ k ∧ (k - 560) % 35 = 10) → ¬ (κ = 28 ∧ (n = 2 ∨ n = 6) ∧ k < e) → ¬ (κ = 29 ∧ n = 0 ∧ k < e) → ν'.1 κ n k = ν.1 κ n k) ∧
  (∀ q, q < 32 → e ≤ q → bt M q = false) ∧ (∀ e', e' < e → ν'.1 29 0 e' = b2 (bt M e') ∧ ν'.1 28 2 e' = -1 ∧ ν'.1 28 6 e' = -1 ∧ (bt M e' = true → μ.1 8 (4 * p + e') 0 = 1)) ∧ (∀ e', e' < 4 → μ.1 8 (4 * p + e') 0 = 1 → okE p i e' cnt μ' ν')
section
variable {p i cnt : Nat} {μ ν : Mem}
theorem cf_step (hS : ∀ e, e < 4 → (μ.1 8 (4 * p + e) 0 = 0 ∧ tN ν (476 + 21 * e) = 0) ∨ (μ.1 8 (4 * p + e) 0 = 1 ∧ tN ν (476 + 21 * e) = 1 ∧ tN ν (476 + 21 * e + 2) = μ.1 8 (4 * p + e) 4)) {M : Int32} {e : Nat} {μ' ν' : Mem} (he : e < 4) (h : CF p i cnt μ ν M e μ' ν') :
    ∃ b μ2 ν2, (if (μ'.1 8 (4 * p + e) 0) = 0 then some ((0 : Int32), μ') else fX1_countCycle (4 * i + e) (4 * p + e) μ') = some (b2 b, μ2) ∧ fX13_countOn 0 (nI e) ν' = some ((), ν2) ∧ CF p i cnt μ ν (if b then M ||| ((1 : Int32) <<< (nI e &&& 31)) else M) (e + 1) μ2 ν2 := by
  obtain ⟨⟨h1, h1'⟩, hc, hm, hM, hd, hE⟩ := h
  have w8 : ∀ n k, μ'.1 8 n k = μ.1 8 n k := fun n k => hc 8 n k (by omega)
  have tS : ∀ k, k < 560 → tN ν' k = tN ν k := fun k hk => hm 27 0 k (by omega) (by omega) (by omega)
  obtain ⟨b, μ2, ν2, e1, e2, c1, c2, cc, cm, c29, c2', c6, cb, cE⟩ := pr_count (p := p) (i := i) (μ := μ') (ν := ν') he (by
    rw [w8, w8, tS _ (by omega), tS _ (by omega)]; exact hS e he) (r1 := tN ν' (476 + 21 * e + 19)) (r2 := tN ν' (476 + 21 * e + 20)) (fun hx => (hE e he (by rw [← w8]; exact hx)).1)
  have bM : ∀ q, q < 32 → bt (if b then M ||| ((1 : Int32) <<< (nI e &&& 31)) else M) q = (bt M q || (b && decide (q = e))) := fun q hq => by
    cases b
    · simp
    · rw [if_pos rfl, bt_or, bt_bit (by omega) hq]; simp
  refine ⟨b, μ2, ν2, e1, e2, ⟨c1.trans h1, c2.trans h1'⟩, fun κ n k q => ?_, fun κ n k q1 q2 q3 => ?_, fun q hq hqe => ?_, fun e' he' => ?_, fun e' he' hx => ?_⟩
  · rw [cc κ n k (by omega)]; exact hc κ n k (by omega)
  · rw [cm κ n k (by omega) (by omega) (by omega)]; exact hm κ n k (by omega) (by omega) (by omega)
  · rw [bM q hq, hM q hq (by omega), decide_eq_false (by omega)]; simp
  · by_cases hh : e' = e
    · subst hh
      rw [bM _ (by omega), hM _ (by omega) (by omega), decide_eq_true rfl]
      refine ⟨by rw [c29]; simp, c2', c6, fun hb => ?_⟩
      rw [← w8]; exact cb (by simpa using hb)
    · obtain ⟨d1, d2, d3, d4⟩ := hd e' (by omega)
      rw [bM _ (by omega), decide_eq_false hh, Bool.and_false, Bool.or_false]
      exact ⟨(cm 29 0 e' (by omega) (by omega) (by omega)).trans d1, (cm 28 2 e' (by omega) (by omega) (by omega)).trans d2, (cm 28 6 e' (by omega) (by omega) (by omega)).trans d3, d4⟩
  · obtain ⟨E', a, ha, hpc⟩ := hE e' he' hx
    have ts : ∀ k, k < 560 → tN ν2 k = tN ν' k := fun k hk => cm 27 0 k (by omega) (by omega) (by omega)
    have tpc : tN ν2 (560 + 35 * e' + 1) = tN ν' (560 + 35 * e' + 1) := cm 27 0 _ (by omega) (by omega) (by omega)
    refine ⟨?_, a, ha, tpc.trans hpc⟩
    by_cases hh : e' = e
    · subst hh
      exact relE_T (ts _ (by omega)) (ts _ (by omega)) (fun _ _ => rfl) (cE (by rw [w8]; exact hx))
    · have t : ∀ k, k < 35 → tN ν2 (560 + 35 * e' + k) = tN ν' (560 + 35 * e' + k) := fun k hk => cm 27 0 _ (by omega) (by omega) (by omega)
      exact relE_T (ts _ (by omega)) (ts _ (by omega)) t (relE_cg (fun c => cc _ _ _ (by omega)) (fun c => cc _ _ _ (by omega)) (fun t c _ => cc _ _ _ (by omega)) (fun t c _ => cc _ _ _ (by omega)) E')
/-- the counters of all engines -/
theorem cyc_count (hp : p < 2) (hi : i < 13) (r0 : μ.2.1 22 0 0 = p) (r1 : μ.2.1 22 0 1 = i) (hS : ∀ e, e < 4 → (μ.1 8 (4 * p + e) 0 = 0 ∧ tN ν (476 + 21 * e) = 0) ∨ (μ.1 8 (4 * p + e) 0 = 1 ∧ tN ν (476 + 21 * e) = 1 ∧ tN ν (476 + 21 * e + 2) = μ.1 8 (4 * p + e) 4)) (hE : ∀ e, e < 4 → μ.1 8 (4 * p + e) 0 = 1 → okE p i e cnt μ ν) (fu gu : Nat) :
    ∃ M μ4 ν4, fX9_tickingEngines (fu + 5) 0 μ = some (M, μ4) ∧ mA (gu + 5) ν 0 = (bnd (fX13_givePort (gu + 5) 0 ν4) fun _ μ32 => mB (gu + 5) μ32 (0 : Int32)) ∧ CF p i cnt μ ν M 4 μ4 ν4 := by
  unfold fX9_tickingEngines
  simp only [jn_eq, nm_eq]
  unfold mA
  refine lp_ind2 (P := fun r (f : Mem → Int32 → Int32 → Option (Int32 × Mem)) (g : Mem → Int32 → Option (Unit × Mem)) => ∀ (e : Nat) (M : Int32) (μ' ν' : Mem), e + r = 4 → CF p i cnt μ ν M e μ' ν' →
      ∃ M2 μ2 ν2, f μ' M (nI e) = some (M2, μ2) ∧ g ν' (nI e) = (bnd (fX13_givePort (gu + 5) 0 ν2) fun _ μ32 => mB (gu + 5) μ32 (0 : Int32)) ∧ CF p i cnt μ ν M2 4 μ2 ν2)
    (fun f g e M μ' ν' hk h => ?_) (fun r f g ih e M μ' ν' hk h => ?_) 4 fu gu 0 0 μ ν rfl ⟨⟨rfl, rfl⟩, fun _ _ _ _ => rfl, fun _ _ _ _ _ _ => rfl, fun q _ _ => bt_0 q, fun e' he' => absurd he' (by omega), hE⟩
  · have : e = 4 := by omega
    subst this
    exact ⟨M, μ', ν', if_pos (by decide), if_pos (by decide), h⟩
  · have he : e < 4 := by omega
    have q0 : μ'.2.1 22 0 0 = p := by rw [h.1.1]; exact r0
    have q1 : μ'.2.1 22 0 1 = i := by rw [h.1.1]; exact r1
    obtain ⟨b, μ2, ν2, e1, e2, h2⟩ := cf_step hS he h
    have n4 : ¬ (4 : Int32) ≤ nI e := nI_ge (b := 4) he (by decide)
    rw [if_neg n4, if_neg n4, e2, bnd_some, q0, q1, ckB_ok hp, ckB_ok hi, ckI_nI he (by decide), ckI_nI he (by decide), nI_clamp (n := e) (by omega), nI_1]
    have go := ih (e + 1) _ μ2 ν2 (by omega) h2
    by_cases hx : μ'.1 8 (4 * p + e) 0 = 0
    · rw [if_pos hx] at e1 ⊢
      have eb : (0 : Int32) = b2 b ∧ μ' = μ2 := by
        have := Option.some.inj e1
        exact ⟨congrArg Prod.fst this, congrArg Prod.snd this⟩
      have : b = false := b2_0.mp eb.1.symm
      subst this
      rw [eb.2]
      exact go
    · rw [if_neg hx] at e1 ⊢
      rw [e1, bnd_some]
      cases b
      · rw [if_pos (show b2 false = 0 from rfl)]; exact go
      · rw [if_neg (show ¬ b2 true = 0 by decide)]; exact go
/-- the four ticks, in the two loops -/
theorem cyc_ticks {μ4 ν4 : Mem} (hp : p < 2) (hi : i < 13) (r0 : μ4.2.1 22 0 0 = p) (r1 : μ4.2.1 22 0 1 = i) (hB : ∀ e, e < 4 → μ4.1 8 (4 * p + e) 0 = 1 → BS p i e cnt μ4 ν4) {M v : Int32} (hM : ∀ e, e < 4 → ν4.1 29 0 e = b2 (bt M e) ∧ ν4.1 28 2 e = -1 ∧ ν4.1 28 6 e = -1 ∧ (bt M e = true → μ4.1 8 (4 * p + e) 0 = 1))
    (hv : ν4.1 26 0 18 = v) (h0 : P5 p i cnt μ4 ν4 0 0 μ4 ν4) (fu gu : Nat) : ∃ d μ' ν', cA (fu + 5) μ4 M v 0 0 = (ckB (μ'.2.1 22 0 1) 13 <| ckB (μ'.2.1 22 0 1) 13 <| bnd (fX3_endCycle (fu + 5) (μ'.2.1 22 0 1) (wI μ' 12 (μ'.2.1 22 0 1) 4 (((μ'.1 22 0 3) &&& ((μ'.1 22 0 5) ^^^ (-1 : Int32))) ||| (μ'.1 22 0 4)))) fun _ μ12 => some (nI d, μ12)) ∧
      mB (gu + 33) ν4 0 = mC (gu + 33) ν' 0 ∧ P5 p i cnt μ4 ν4 4 d μ' ν' := by
  unfold cA mB
  rw [show gu + 33 = (gu + 28) + (4 + 1) by omega]
  refine lp_ind2 (P := fun r (f : Mem → Int32 → Int32 → Int32 → Int32 → Option (Int32 × Mem)) (g : Mem → Int32 → Option (Unit × Mem)) => ∀ (e d : Nat) (μ ν : Mem), e + r = 4 → P5 p i cnt μ4 ν4 e d μ ν →
      ∃ d2 μ' ν', f μ M v (nI d) (nI e) = (ckB (μ'.2.1 22 0 1) 13 <| ckB (μ'.2.1 22 0 1) 13 <| bnd (fX3_endCycle (fu + 5) (μ'.2.1 22 0 1) (wI μ' 12 (μ'.2.1 22 0 1) 4 (((μ'.1 22 0 3) &&& ((μ'.1 22 0 5) ^^^ (-1 : Int32))) ||| (μ'.1 22 0 4)))) fun _ μ12 => some (nI d2, μ12)) ∧
      g ν (nI e) = mC (gu + 28 + (4 + 1)) ν' 0 ∧ P5 p i cnt μ4 ν4 4 d2 μ' ν') (fun f g e d μ ν hk h => ?_) (fun r f g ih e d μ ν hk h => ?_) 4 fu (gu + 28) 0 0 μ4 ν4 rfl h0
  · have : e = 4 := by omega
    subst this
    exact ⟨d, μ, ν, if_pos (by decide), if_pos (by decide), h⟩
  · have he : e < 4 := by omega
    have n4 : ¬ (4 : Int32) ≤ nI e := nI_ge (b := 4) he (by decide)
    obtain ⟨m29, m2, m6, mx⟩ := hM e he
    have q0 : μ.2.1 22 0 0 = p := by rw [h.1.1]; exact r0
    have q1 : μ.2.1 22 0 1 = i := by rw [h.1.1]; exact r1
    have w29 : ν.1 29 0 e = b2 (bt M e) := (h.2.2.1 29 0 e (by unfold WVs; omega)).trans m29
    have k4 : ∀ {α : Type} (o : Option α), ckI (nI e) 4 o = o := fun o => ckI_nI he (by decide)
    rw [if_neg n4, if_neg n4]
    simp only [k4]
    rw [nI_clamp (n := e) (by omega), w29, nI_1, bit_at (by omega), q0, q1]
    cases hb : bt M e
    · rw [if_pos (show ¬ b2 false = 1 by decide), if_pos (show b2 false = 0 from rfl)]
      exact ih (e + 1) d μ ν (by omega) (p5_no h he m2 m6)
    · rw [if_neg (show ¬ ¬ b2 true = 1 from fun q => q rfl), if_neg (show ¬ b2 true = 0 by decide), ckB_ok hi, ckB_ok hp]
      have goT : ∀ g0 : Int32, ((g0 = 1 ∧ ν4.1 26 0 18 = nI e) ∨ (g0 = 0 ∧ ¬ ν4.1 26 0 18 = nI e)) → ∃ d2 μ' ν', (bnd (fX9_doTick 0 (4 * i + e) (4 * p + e) g0 μ) fun x32 μ31 => if x32 = 0 then f μ31 M v (nI d) (nI (e + 1)) else f μ31 M v (nI d + (1 : Int32)) (nI (e + 1))) = (ckB (μ'.2.1 22 0 1) 13 <| ckB (μ'.2.1 22 0 1) 13 <| bnd (fX3_endCycle (fu + 5) (μ'.2.1 22 0 1) (wI μ' 12 (μ'.2.1 22 0 1) 4 (((μ'.1 22 0 3) &&& ((μ'.1 22 0 5) ^^^ (-1 : Int32))) ||| (μ'.1 22 0 4)))) fun _ μ12 => some (nI d2, μ12)) ∧
          (bnd (fX13_tick (gu + 28 + (4 + 1)) 0 (nI e) ν) fun _ μ31 => g μ31 (nI (e + 1))) = mC (gu + 28 + (4 + 1)) ν' 0 ∧ P5 p i cnt μ4 ν4 4 d2 μ' ν' := fun g0 hg0 => by
        obtain ⟨r, μ', ν', e1, e2, hr⟩ := p5_tick hB h he (mx hb) m2 m6 hg0 gu
        rw [e1, bnd_some, show gu + 28 + (4 + 1) = gu + 33 by omega, e2, bnd_some]
        rcases hr with ⟨rfl, h'⟩ | ⟨rfl, h'⟩
        · rw [if_pos rfl]; exact ih (e + 1) d μ' ν' (by omega) h'
        · rw [if_neg ne10, nI_1]; exact ih (e + 1) (d + 1) μ' ν' (by omega) h'
      by_cases hg : nI e = v
      · rw [if_neg (fun q => q hg)]
        exact goT 1 (Or.inl ⟨rfl, hv.trans hg.symm⟩)
      · rw [if_pos hg]
        exact goT 0 (Or.inr ⟨rfl, fun q => hg (q.symm.trans hv)⟩)
end
