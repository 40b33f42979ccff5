/-! the four ticks -/
def WTs (i e κ n k : Nat) : Prop := (κ = 18 ∧ 4 * i ≤ n ∧ n < 4 * i + e ∧ k ≠ 10) ∨ (κ = 21 ∧ 4 * i ≤ n ∧ n < 4 * i + e) ∨ ((κ = 19 ∨ κ = 20) ∧ 8 * i ≤ n ∧ n < 8 * i + 2 * e) ∨ (κ = 12 ∧ n = i ∧ (k = 1 ∨ k = 2)) ∨ (κ = 13 ∧ n = i) ∨ (κ = 22 ∧ n = 0 ∧ (k = 4 ∨ k = 5 ∨ k = 6))
def WVs (e κ n k : Nat) : Prop := (κ = 27 ∧ n = 0 ∧ ((560 ≤ k ∧ k < 560 + 35 * e) ∨ (108 ≤ k ∧ k < 124))) ∨ (κ = 26 ∧ n = 0 ∧ (k = 16 ∨ k = 17 ∨ k = 19)) ∨ (κ = 28 ∧ (2 ≤ n ∧ n ≤ 6) ∧ k < e)
/-- the pins, with all that engines 0 .. e - 1 have laid aside -/
def pnA (ν : Mem) : Nat → (Nat → Bool) → (Nat → Bool) → Nat → Bool × Bool
  | 0, L, D, q => (L q, D q)
  | e + 1, L, D, q => apF ν e (fun q => (pnA ν e L D q).1) (fun q => (pnA ν e L D q).2) q
/-- instructions done, by all -/
def msM (ν : Mem) : Int32 := tN ν 589 + tN ν 624 + tN ν 659 + tN ν 694
/-- a machine's queues and switches are sound -/
def okM (i : Nat) (μ : Mem) : Prop := (∀ t, t < 8 → okQ μ (8 * i + t)) ∧ ∀ t, t < 4 → μ.1 18 (4 * i + t) 10 = 0 ∨ μ.1 18 (4 * i + t) 10 = 1
def P5 (p i cnt : Nat) (μ4 ν4 : Mem) (e d : Nat) (μ ν : Mem) : Prop :=
  (μ.2 = μ4.2 ∧ ν.2 = ν4.2) ∧ (∀ κ n k, ¬ WTs i e κ n k → μ.1 κ n k = μ4.1 κ n k) ∧ (∀ κ n k, ¬ WVs e κ n k → ν.1 κ n k = ν4.1 κ n k) ∧
  (∀ e', e' < 4 → μ4.1 8 (4 * p + e') 0 = 1 → okE p i e' cnt μ ν) ∧ (∀ a, a < 16 → tN ν (108 + a) = μ.1 13 i a) ∧ (ν.1 26 0 16 = μ.1 22 0 4 ∧ ν.1 26 0 17 = μ.1 22 0 5) ∧
  (∀ q, q < 16 → (bt (μ.1 12 i 1) q, bt (μ.1 12 i 2) q) = pnA ν e (bt (μ4.1 12 i 1)) (bt (μ4.1 12 i 2)) q) ∧ (∀ e', e' < e → wok ν e' ∧ (ν.1 28 6 e' = -1 ∨ μ4.1 8 (4 * p + e') 0 = 1) ∧ (tN ν (560 + 35 * e' + 29) = tN ν4 (560 + 35 * e' + 29) ∨ tN ν (560 + 35 * e' + 29) = tN ν4 (560 + 35 * e' + 29) + 1)) ∧ (d ≤ e ∧ msM ν = msM ν4 + nI d) ∧ okM i μ
theorem apF_fun {ν : Mem} {e q : Nat} {L L' D D' : Nat → Bool} (h1 : L q = L' q) (h2 : D q = D' q) : apF ν e L D q = apF ν e L' D' q := by
  unfold apF apW wrB
  simp only [h1, h2]
theorem pnA_congr {ν ν' : Mem} {L D : Nat → Bool} : ∀ e, (∀ e', e' < e → ∀ n, (n = 2 ∨ n = 3 ∨ n = 4 ∨ n = 5 ∨ n = 6) → ν'.1 28 n e' = ν.1 28 n e') → (∀ k, 476 ≤ k → k < 560 → tN ν' k = tN ν k) → e ≤ 4 → ∀ q, pnA ν' e L D q = pnA ν e L D q
  | 0, _, _, _, _ => rfl
  | e + 1, h, h9, he, q => by
    have ih := pnA_congr (L := L) (D := D) e (fun e' he' => h e' (by omega)) h9 (by omega)
    show apF ν' e (fun q => (pnA ν' e L D q).1) (fun q => (pnA ν' e L D q).2) q = apF ν e (fun q => (pnA ν e L D q).1) (fun q => (pnA ν e L D q).2) q
    rw [apF_congr (h e (by omega)) (h9 _ (by omega) (by omega)) (h9 _ (by omega) (by omega))]
    exact apF_fun (by rw [ih q]) (by rw [ih q])
theorem wt_wts {i e κ n k : Nat} (h : WT i e κ n k) : WTs i (e + 1) κ n k := by unfold WT at h; unfold WTs; omega
theorem wts_s {i e κ n k : Nat} (h : WTs i e κ n k) : WTs i (e + 1) κ n k := by unfold WTs at h ⊢; omega
theorem wv_wvs {e κ n k : Nat} (h : WV e κ n k) : WVs (e + 1) κ n k := by unfold WV WM at h; unfold WVs; omega
theorem wvs_s {e κ n k : Nat} (h : WVs e κ n k) : WVs (e + 1) κ n k := by unfold WVs at h ⊢; omega
section
variable {p i cnt : Nat} {μ4 ν4 μ ν : Mem} {e d : Nat}
theorem ms_step {ν ν' : Mem} {e : Nat} {r : Int32} (he : e < 4) (h : tN ν' (560 + 35 * e + 29) = tN ν (560 + 35 * e + 29) + r) (h2 : ∀ e', e' < 4 → e' ≠ e → tN ν' (560 + 35 * e' + 29) = tN ν (560 + 35 * e' + 29)) : msM ν' = msM ν + r := by
  unfold msM
  have : e = 0 ∨ e = 1 ∨ e = 2 ∨ e = 3 := by omega
  rcases this with rfl | rfl | rfl | rfl
  · rw [show tN ν' 589 = tN ν 589 + r from h, show tN ν' 624 = tN ν 624 from h2 1 (by decide) (by decide), show tN ν' 659 = tN ν 659 from h2 2 (by decide) (by decide), show tN ν' 694 = tN ν 694 from h2 3 (by decide) (by decide)]
    grind
  · rw [show tN ν' 624 = tN ν 624 + r from h, show tN ν' 589 = tN ν 589 from h2 0 (by decide) (by decide), show tN ν' 659 = tN ν 659 from h2 2 (by decide) (by decide), show tN ν' 694 = tN ν 694 from h2 3 (by decide) (by decide)]
    grind
  · rw [show tN ν' 659 = tN ν 659 + r from h, show tN ν' 624 = tN ν 624 from h2 1 (by decide) (by decide), show tN ν' 589 = tN ν 589 from h2 0 (by decide) (by decide), show tN ν' 694 = tN ν 694 from h2 3 (by decide) (by decide)]
    grind
  · rw [show tN ν' 694 = tN ν 694 + r from h, show tN ν' 624 = tN ν 624 from h2 1 (by decide) (by decide), show tN ν' 659 = tN ν 659 from h2 2 (by decide) (by decide), show tN ν' 589 = tN ν 589 from h2 0 (by decide) (by decide)]
    grind
/-- engine e has no tick: nothing is laid aside -/
theorem p5_no (h : P5 p i cnt μ4 ν4 e d μ ν) (he : e < 4) (h2 : ν4.1 28 2 e = -1) (h6 : ν4.1 28 6 e = -1) : P5 p i cnt μ4 ν4 (e + 1) d μ ν := by
  obtain ⟨h1, hc, hm, hE, ha, hr, hp, hw, ⟨hd, hs⟩, hk⟩ := h
  have f2 : ν.1 28 2 e = -1 := (hm 28 2 e (by unfold WVs; omega)).trans h2
  have f6 : ν.1 28 6 e = -1 := (hm 28 6 e (by unfold WVs; omega)).trans h6
  refine ⟨h1, fun κ n k q => hc κ n k (fun z => q (wts_s z)), fun κ n k q => hm κ n k (fun z => q (wvs_s z)), hE, ha, hr, fun q hq => ?_, fun e' he' => ?_, ⟨by omega, hs⟩, hk⟩
  · rw [hp q hq]
    show _ = apF ν e (fun q => (pnA ν e _ _ q).1) (fun q => (pnA ν e _ _ q).2) q
    unfold apF apW
    rw [if_pos f6, if_pos f2]
  · by_cases hh : e' = e
    · subst hh; exact ⟨Or.inl f2, Or.inl f6, Or.inl (hm 27 0 _ (by unfold WVs; omega))⟩
    · exact hw e' (by omega)
/-- engine e has a tick -/
theorem p5_tick (hB : ∀ e, e < 4 → μ4.1 8 (4 * p + e) 0 = 1 → BS p i e cnt μ4 ν4) (h : P5 p i cnt μ4 ν4 e d μ ν) (he : e < 4) (hx : μ4.1 8 (4 * p + e) 0 = 1) (h2 : ν4.1 28 2 e = -1) (h6 : ν4.1 28 6 e = -1) {g : Int32} (hg : (g = 1 ∧ ν4.1 26 0 18 = nI e) ∨ (g = 0 ∧ ¬ ν4.1 26 0 18 = nI e)) (fu : Nat) :
    ∃ r μ' ν', fX9_doTick 0 (4 * i + e) (4 * p + e) g μ = some (r, μ') ∧ fX13_tick (fu + 33) 0 (nI e) ν = some ((), ν') ∧ ((r = 0 ∧ P5 p i cnt μ4 ν4 (e + 1) d μ' ν') ∨ (r = 1 ∧ P5 p i cnt μ4 ν4 (e + 1) (d + 1) μ' ν')) := by
  obtain ⟨⟨h1, h1'⟩, hc, hm, hE, ha, ⟨hr1, hr2⟩, hp, hw, ⟨hd, hs⟩, hk⟩ := h
  have B0 := hB e he hx
  have hS : ∀ k, 476 ≤ k → k < 560 → tN ν k = tN ν4 k := fun k _ _ => hm 27 0 k (by unfold WVs; omega)
  have B : BS p i e cnt μ ν := by
    refine bs_congr (μ := μ4) (ν := ν4) h1 (fun n k => ?_) (fun n k => ?_) (fun n k => ?_) (fun k hk => ?_) (fun k hk => ?_) (fun n k hn => ?_) B0
    · exact hc _ _ _ (by unfold WTs; omega)
    · exact hc _ _ _ (by unfold WTs; omega)
    · exact hc _ _ _ (by unfold WTs; omega)
    · exact hc _ _ _ (by unfold WTs; omega)
    · exact hm _ _ _ (by unfold WVs; omega)
    · exact hm _ _ _ (by unfold WVs; omega)
  obtain ⟨E, a, hac, hpc⟩ := hE e he hx
  have hpc' : μ.1 18 (4 * i + e) 0 = nI a := (E.2.2.1 0 (by decide)).symm.trans hpc
  have f2 : ν.1 28 2 e = -1 := (hm 28 2 e (by unfold WVs; omega)).trans h2
  have f6 : ν.1 28 6 e = -1 := (hm 28 6 e (by unfold WVs; omega)).trans h6
  have f18 : ν.1 26 0 18 = ν4.1 26 0 18 := hm 26 0 18 (by unfold WVs; omega)
  obtain ⟨r, μ', ν', e1, e2, ⟨t1, t1'⟩, tc, tm, tE, tpc, ta, ⟨tr1, tr2⟩, tp, tw, tn⟩ := pr_tick B E hac hpc' ha hr1 hr2 f2 f6 (by rw [f18]; exact hg) fu
  have keepE : ∀ e', e' < 4 → e' ≠ e → μ4.1 8 (4 * p + e') 0 = 1 → okE p i e' cnt μ' ν' := fun e' he' hne hx' => by
    obtain ⟨E', a', ha', hpc'⟩ := hE e' he' hx'
    have t : ∀ k, k < 35 → tN ν' (560 + 35 * e' + k) = tN ν (560 + 35 * e' + k) := fun k hk => tm 27 0 _ (by unfold WV WM; omega)
    have ts : ∀ k, k < 21 → tN ν' (476 + 21 * e' + k) = tN ν (476 + 21 * e' + k) := fun k hk => tm 27 0 _ (by unfold WV WM; omega)
    refine ⟨relE_T (ts 19 (by decide)) (ts 20 (by decide)) t (relE_cg (fun c => tc _ _ _ ?_) (fun c => tc _ _ _ ?_) (fun t c _ => tc _ _ _ ?_) (fun t c _ => tc _ _ _ ?_) E'), a', ha', (t 1 (by decide)).trans hpc'⟩
    all_goals unfold WT; omega
  have newE : okE p i e cnt μ' ν' := by
    have ts : ∀ k, k < 21 → tN ν' (476 + 21 * e + k) = tN ν (476 + 21 * e + k) := fun k hk => tm 27 0 _ (by unfold WV WM; omega)
    obtain ⟨a', ha', hp'⟩ := tpc
    exact ⟨relE_T (ts 19 (by decide)) (ts 20 (by decide)) (fun _ _ => rfl) tE, a', ha', hp'⟩
  have hS' : ∀ k, 476 ≤ k → k < 560 → tN ν' k = tN ν k := fun k _ _ => tm 27 0 k (by unfold WV WM; omega)
  have h28 : ∀ e', e' < e → ∀ n, (n = 2 ∨ n = 3 ∨ n = 4 ∨ n = 5 ∨ n = 6) → ν'.1 28 n e' = ν.1 28 n e' := fun e' he' n hn => tm 28 n e' (by unfold WV WM; omega)
  have ms : ∀ r0 : Int32, μ'.1 21 (4 * i + e) 0 = μ.1 21 (4 * i + e) 0 + r0 → msM ν' = msM ν + r0 := fun r0 hr0 => by
    refine ms_step he ?_ (fun e' he' hne => tm 27 0 _ (by unfold WV WM; omega))
    rw [show tN ν' (560 + 35 * e + 29) = μ'.1 21 (4 * i + e) 0 from tE.2.2.2.1 0 (by decide), show tN ν (560 + 35 * e + 29) = μ.1 21 (4 * i + e) 0 from E.2.2.2.1 0 (by decide)]
    exact hr0
  have cst : tN ν' (560 + 35 * e + 29) = tN ν4 (560 + 35 * e + 29) ∨ tN ν' (560 + 35 * e + 29) = tN ν4 (560 + 35 * e + 29) + 1 := by
    rw [show tN ν' (560 + 35 * e + 29) = μ'.1 21 (4 * i + e) 0 from tE.2.2.2.1 0 (by decide), show tN ν4 (560 + 35 * e + 29) = μ.1 21 (4 * i + e) 0 from (hm 27 0 _ (by unfold WVs; omega)).symm.trans (E.2.2.2.1 0 (by decide))]
    exact tn.imp (fun z => z.2) (fun z => z.2)
  have newK : okM i μ' := by
    refine ⟨fun t ht => ?_, fun t ht => ?_⟩
    · by_cases hh : t = 2 * e ∨ t = 2 * e + 1
      · rcases hh with rfl | rfl
        · obtain ⟨s, hh, r, b1, b2, b3, b4, b5, b6, _⟩ := tE.2.2.2.2.2.2.2.2.1
          rw [show 8 * i + 2 * e = 2 * (4 * i + e) by omega]
          exact ⟨s, hh, r, by omega, b3, b2, b4, b5, b6⟩
        · obtain ⟨s, hh, r, b1, b2, b3, b4, b5, b6, _⟩ := tE.2.2.2.2.2.2.2.2.2
          rw [show 8 * i + (2 * e + 1) = 2 * (4 * i + e) + 1 by omega]
          exact ⟨s, hh, r, by omega, b3, b2, b4, b5, b6⟩
      · obtain ⟨s, hh', r, b1, b2, b3, b4, b5, b6⟩ := hk.1 t ht
        have w : ∀ k, μ'.1 19 (8 * i + t) k = μ.1 19 (8 * i + t) k := fun k => tc _ _ _ (by unfold WT; omega)
        exact ⟨s, hh', r, b1, b2, b3, (w 0).trans b4, (w 1).trans b5, (w 2).trans b6⟩
    · by_cases hh : t = e
      · subst hh
        have := tE.2.1
        rw [tE.1] at this
        exact this
      · rw [tc _ _ _ (by unfold WT; omega)]; exact hk.2 t ht
  have fin : ∀ d', d' ≤ e + 1 → msM ν' = msM ν4 + nI d' → P5 p i cnt μ4 ν4 (e + 1) d' μ' ν' := fun d' hd' hms => by
    refine ⟨⟨t1.trans h1, t1'.trans h1'⟩, fun κ n k q => ?_, fun κ n k q => ?_, fun e' he' hx' => ?_, ta, ⟨tr1, tr2⟩, fun q hq => ?_, fun e' he' => ?_, ⟨hd', hms⟩, newK⟩
    · rw [tc κ n k (fun z => q (wt_wts z))]; exact hc κ n k (fun z => q (wts_s z))
    · rw [tm κ n k (fun z => q (wv_wvs z))]; exact hm κ n k (fun z => q (wvs_s z))
    · by_cases hh : e' = e
      · subst hh; exact newE
      · exact keepE e' he' hh hx'
    · rw [tp q hq]
      show _ = apF ν' e (fun q => (pnA ν' e _ _ q).1) (fun q => (pnA ν' e _ _ q).2) q
      have hpq := hp q hq
      rw [← pnA_congr e h28 hS' (by omega)] at hpq
      exact apF_fun (congrArg Prod.fst hpq) (congrArg Prod.snd hpq)
    · by_cases hh : e' = e
      · subst hh; exact ⟨tw, Or.inr hx, cst⟩
      · rw [h28 e' (by omega) 6 (by decide), show tN ν' (560 + 35 * e' + 29) = tN ν (560 + 35 * e' + 29) from tm 27 0 _ (by unfold WV WM; omega)]
        exact ⟨wok_congr (fun n hn => h28 e' (by omega) n (by omega)) (hw e' (by omega)).1, (hw e' (by omega)).2⟩
  refine ⟨r, μ', ν', e1, e2, ?_⟩
  rcases tn with ⟨rfl, hn⟩ | ⟨rfl, hn⟩
  · refine Or.inl ⟨rfl, fin d (by omega) ?_⟩
    rw [ms 0 (by rw [hn]; simp), hs]; simp
  · refine Or.inr ⟨rfl, fin (d + 1) (by omega) ?_⟩
    rw [ms 1 hn, hs, nI_succ]; grind
end
