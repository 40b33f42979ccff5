/-! TOKENS: all of the class's tokens -/
/-- where the t-th token begins -/
def tkP (c : Nat → Int32) (N : Nat) : Nat → Nat
  | 0 => tkS c N 0
  | t + 1 => tkS c N (tkE c N (tkP c N t))
/-- the class's tables hold the first t tokens; all else is as in μ -/
def TI (N t : Nat) (μ μ' : Mem) : Prop :=
  μ'.1 2 0 5 = nI t ∧ (∀ q, q < t → tkP (μ.1 1 0) N q < N ∧ μ'.1 4 0 q = nI (tkP (μ.1 1 0) N q) ∧ μ'.1 4 1 q = nI (tkE (μ.1 1 0) N (tkP (μ.1 1 0) N q)) ∧ μ'.1 4 2 q = tkV (μ.1 1 0) N (tkP (μ.1 1 0) N q) ∧ μ'.2.1 3 0 q = tkY (μ.1 1 0) N (tkP (μ.1 1 0) N q)) ∧
  (∀ κ n k, κ ≠ 2 → κ ≠ 4 → μ'.1 κ n k = μ.1 κ n k) ∧ (∀ n k, ¬ (n = 0 ∧ (k = 5 ∨ k = 6)) → μ'.1 2 n k = μ.1 2 n k) ∧ (∀ κ n k, κ ≠ 3 → μ'.2.1 κ n k = μ.2.1 κ n k) ∧ (∀ k, k ≤ 1000 → μ.2.1 3 0 k < 74 → μ'.2.1 3 0 k < 74) ∧ μ'.2.2 = μ.2.2
theorem ti_next {N t : Nat} {μ μ' : Mem} (h : TI N t μ μ') (hx : tkP (μ.1 1 0) N t < N) : TI N (t + 1) μ (tokM μ' t (tkP (μ.1 1 0) N t) (tkE (μ.1 1 0) N (tkP (μ.1 1 0) N t)) (tkV (μ.1 1 0) N (tkP (μ.1 1 0) N t)) (tkY (μ.1 1 0) N (tkP (μ.1 1 0) N t))) := by
  obtain ⟨a, b, c, d, e, f, g⟩ := h
  have r : ∀ {z κ n k}, (tokM μ' t z (tkE (μ.1 1 0) N z) (tkV (μ.1 1 0) N z) (tkY (μ.1 1 0) N z)).2.1 κ n k = if κ = 3 ∧ n = 0 ∧ k = t then tkY (μ.1 1 0) N z else μ'.2.1 κ n k := rfl
  refine ⟨wI_same, fun q hq => ?_, fun κ n k x y => ?_, fun n k x => ?_, fun κ n k x => ?_, fun k hk x => ?_, g⟩
  · rw [r]
    unfold tokM
    by_cases hqt : q = t
    · subst hqt
      refine ⟨hx, ?_, ?_, ?_, if_pos ⟨rfl, rfl, rfl⟩⟩
      · rw [wI_o (by omega), wI_o (by omega), wI_o (by omega), wI_same]
      · rw [wI_o (by omega), wI_o (by omega), wI_same]
      · rw [wI_o (by omega), wI_same]
    · obtain ⟨b1, b2, b3, b4, b5⟩ := b q (by omega)
      refine ⟨b1, ?_, ?_, ?_, (if_neg (fun z => hqt z.2.2)).trans b5⟩
      · rw [wI_o (by omega), wI_o (by omega), wI_o (by omega), wI_o (by omega)]; exact b2
      · rw [wI_o (by omega), wI_o (by omega), wI_o (by omega), wI_o (by omega)]; exact b3
      · rw [wI_o (by omega), wI_o (by omega), wI_o (by omega), wI_o (by omega)]; exact b4
  · unfold tokM
    rw [wI_o (by omega), wI_o (by omega), wI_o (by omega), wI_o (by omega)]; exact c κ n k x y
  · unfold tokM
    rw [wI_o (by omega), wI_o (by omega), wI_o (by omega), wI_o (by omega)]; exact d n k x
  · rw [r, if_neg (fun z => x z.1)]; exact e κ n k x
  · rw [r]
    split
    · exact tkY_lt
    · exact f k hk x
/-- after the scan: n tokens, then the end -/
def TZ (N n : Nat) (μ μ' : Mem) : Prop := TI N n μ μ' ∧ n ≤ N ∧ tkP (μ.1 1 0) N n = N ∧ μ'.1 4 0 n = nI N ∧ μ'.1 4 1 n = nI N ∧ μ'.2.1 3 0 n = 1 ∧ μ'.1 2 0 6 = 0
def sc0 (μ : Mem) : Mem := wI (wI (wI μ 2 0 5 0) 2 0 7 0) 2 0 8 (-1)
theorem tkS_stop {c : Nat → Int32} {N y : Nat} (h : ¬ (y < N ∧ tkB (c y) = true)) : tkS c N y = y := by unfold tkS; rw [tk_unf, if_neg h]
theorem tkS_step {c : Nat → Int32} {N y : Nat} (h : y < N ∧ tkB (c y) = true) : tkS c N y = tkS c N (y + 1) := by unfold tkS; rw [tk_unf, if_pos h]
theorem ti_end {N t : Nat} {μ μ' : Mem} (h : TI N t μ μ') (ht : t ≤ N) (hs : tkP (μ.1 1 0) N t = N) : TZ N t μ (wI (wI (wI (wR μ' 3 0 t 1) 4 0 t (nI N)) 4 1 t (nI N)) 2 0 6 0) := by
  obtain ⟨a, b, c, d, e, f, g⟩ := h
  have r : ∀ {κ n k}, (wI (wI (wI (wR μ' 3 0 t 1) 4 0 t (nI N)) 4 1 t (nI N)) 2 0 6 0).2.1 κ n k = if κ = 3 ∧ n = 0 ∧ k = t then 1 else μ'.2.1 κ n k := rfl
  refine ⟨⟨?_, fun q hq => ?_, fun κ n k x y => ?_, fun n k x => ?_, fun κ n k x => ?_, fun k hk x => ?_, g⟩, ht, hs, ?_, ?_, if_pos ⟨rfl, rfl, rfl⟩, wI_same⟩
  · rw [wI_o (by omega), wI_o (by omega), wI_o (by omega)]; exact a
  · obtain ⟨b1, b2, b3, b4, b5⟩ := b q hq
    refine ⟨b1, ?_, ?_, ?_, ?_⟩
    · rw [wI_o (by omega), wI_o (by omega), wI_o (by omega)]; exact b2
    · rw [wI_o (by omega), wI_o (by omega), wI_o (by omega)]; exact b3
    · rw [wI_o (by omega), wI_o (by omega), wI_o (by omega)]; exact b4
    · rw [r, if_neg (fun z => absurd z.2.2 (by omega))]; exact b5
  · rw [wI_o (by omega), wI_o (by omega), wI_o (by omega)]; exact c κ n k x y
  · rw [wI_o (by omega), wI_o (by omega), wI_o (by omega)]; exact d n k x
  · rw [r, if_neg (fun z => x z.1)]; exact e κ n k x
  · rw [r]
    split
    · decide
    · exact f k hk x
  · rw [wI_o (by omega), wI_o (by omega)]; exact wI_same
  · rw [wI_o (by omega)]; exact wI_same
theorem c_scan {μ : Mem} {N : Nat} (hN : N ≤ 1000) (fu : Nat) : ∃ n μ', fX11_scan (fu + 1001) 0 (nI N) μ = some ((), μ') ∧ TZ N n (sc0 μ) μ' := by
  unfold fX11_scan
  simp only [jn_eq, nm_eq]
  have e1 : (if (if (1000 : Int32) < Int32.ofNat 1000 then (1000 : Int32) else Int32.ofNat 1000) < nI N then (if (1000 : Int32) < Int32.ofNat 1000 then (1000 : Int32) else Int32.ofNat 1000) else nI N) = nI N := by
    have e : (if (1000 : Int32) < Int32.ofNat 1000 then (1000 : Int32) else Int32.ofNat 1000) = nI 1000 := by decide
    rw [e, if_neg (fun z => absurd ((nI_ltI (by omega) (by omega)).1 z) (by omega))]
  rw [e1]
  have e0 : wI (wI (wI μ 2 0 5 0) 2 0 7 0) 2 0 8 (-1) = sc0 μ := rfl
  rw [e0]
  have s5 : (sc0 μ).1 2 0 5 = nI 0 := by unfold sc0; rw [wI_o (by omega), wI_o (by omega)]; exact wI_same
  generalize sc0 μ = μ0 at s5 ⊢
  generalize hc : μ0.1 1 0 = c
  have fin : ∀ (x t : Nat) (μ' : Mem) (rest : Option (Unit × Mem)), x ≤ N → t ≤ N → tkP c N t = tkS c N x → (N ≤ x ∨ tkS c N x = tkS c N N) → TI N t μ0 μ' → ∃ n μ'', (if nI N ≤ nI N then
      (ckI (μ'.1 2 0 5) 1001 <| ckI ((wR μ' 3 0 (μ'.1 2 0 5).toNatClampNeg 1).1 2 0 5) 1001 <|
        ckI ((wI (wR μ' 3 0 (μ'.1 2 0 5).toNatClampNeg 1) 4 0 ((wR μ' 3 0 (μ'.1 2 0 5).toNatClampNeg 1).1 2 0 5).toNatClampNeg (nI N)).1 2 0 5) 1001 <|
        bnd (fX11_rewind 0 (wI (wI (wR μ' 3 0 (μ'.1 2 0 5).toNatClampNeg 1) 4 0 ((wR μ' 3 0 (μ'.1 2 0 5).toNatClampNeg 1).1 2 0 5).toNatClampNeg (nI N)) 4 1 ((wI (wR μ' 3 0 (μ'.1 2 0 5).toNatClampNeg 1) 4 0 ((wR μ' 3 0 (μ'.1 2 0 5).toNatClampNeg 1).1 2 0 5).toNatClampNeg (nI N)).1 2 0 5).toNatClampNeg (nI N))) fun _ μ9 => some ((), μ9))
      else rest) = some ((), μ'') ∧ TZ N n μ0 μ'' := fun x t μ' rest hx ht hs hor hT => by
    have h5 : μ'.1 2 0 5 = nI t := hT.1
    have w4 : ∀ (μ : Mem) n k v, (wI μ 4 n k v).1 2 0 5 = μ.1 2 0 5 := fun μ n k v => wI_o (by omega)
    have eK : ∀ {α : Type} (o : Option α), ckI (nI t) 1001 o = o := fun o => ckI_nI (by omega) (by decide)
    have eT : (nI t).toNatClampNeg = t := nI_clamp (by omega)
    rw [if_pos (show nI N ≤ nI N from (nI_leI (by omega) (by omega)).2 (Nat.le_refl _))]
    simp only [h5, eK, w4, wR_f, eT]
    have sN : tkS c N N = N := tkS_stop (fun z => absurd z.1 (by omega))
    refine ⟨t, _, rfl, ti_end hT ht ?_⟩
    rw [hc, hs]
    exact hor.elim (fun z => by rw [show x = N by omega]; exact sN) (fun z => z.trans sN)
  refine lp_ind (P := fun d (f : Mem → Int32 → Int32 → Int32 → Option (Unit × Mem)) => ∀ y x t μ', y ≤ N → N - y ≤ d → x ≤ N → t ≤ y → tkP c N t = tkS c N x → (y ≤ x ∨ tkS c N x = tkS c N y) → TI N t μ0 μ' → ∃ n μ'', f μ' (nI N) (nI x) (nI y) = some ((), μ'') ∧ TZ N n μ0 μ'') ?_ ?_ 1000 fu 0 0 0 μ0 (by omega) (by omega) (by omega) (by omega) rfl (Or.inl (by omega)) ⟨s5, fun q hq => absurd hq (by omega), fun _ _ _ _ _ => rfl, fun _ _ _ => rfl, fun _ _ _ _ => rfl, fun _ _ h => h, rfl⟩
  · intro f y x t μ' hy hd hx ht hs hor hT
    have hyN : y = N := by omega
    subst hyN
    exact fin x t μ' _ hx ht hs hor hT
  · intro d f ih y x t μ' hy hd hx ht hs hor hT
    by_cases hyN : y = N
    · subst hyN
      exact fin x t μ' _ hx ht hs hor hT
    · have g : y < N := by omega
      have hb : ∀ k, μ'.1 1 0 k = c k := fun k => (hT.2.2.1 1 0 k (by decide) (by decide)).trans (by rw [hc])
      rw [if_neg (show ¬ nI N ≤ nI y from fun z => absurd ((nI_leI (by omega) (by omega)).1 z) (by omega))]
      by_cases h1 : y < x
      · rw [if_pos (show nI y < nI x from nI_lt h1 (by omega)), nI_1]
        exact ih (y + 1) x t μ' (by omega) (by omega) hx (by omega) hs (Or.inl (by omega)) hT
      · have exy : tkS c N x = tkS c N y := hor.elim (fun z => by rw [show x = y by omega]) id
        rw [if_neg (show ¬ nI y < nI x from fun z => absurd ((nI_ltI (by omega) (by omega)).1 z) (by omega)), ckI_nI (show y < 1000 by omega) (by decide), ckI_nI (show y < 1000 by omega) (by decide), nI_clamp (n := y) (by omega), hb]
        by_cases q : tkB (c y) = true
        · have es := tkS_step (c := c) (N := N) ⟨g, q⟩
          by_cases h3 : c y = 32
          · rw [if_pos h3, nI_1]
            exact ih (y + 1) x t μ' (by omega) (by omega) hx (by omega) hs (Or.inr (exy.trans es)) hT
          · rw [if_neg h3, if_pos ((of_decide_eq_true q).resolve_left h3), nI_1]
            exact ih (y + 1) x t μ' (by omega) (by omega) hx (by omega) hs (Or.inr (exy.trans es)) hT
        · have es := tkS_stop (c := c) (N := N) (y := y) (fun z => q z.2)
          have ep : tkP c N t = y := hs.trans (exy.trans es)
          have h5 : μ'.1 2 0 5 = nI t := hT.1
          have bc : μ'.1 1 0 = c := funext hb
          have eT : fX11_scanToken (fu + 1001) 0 (nI y) (nI N) μ' = _ := c_scanToken hN g (by omega) h5 fu
          have gt := tk_gt (c := c) g
          have nx := ti_next hT (by rw [hc, ep]; exact g)
          rw [hc, ep] at nx
          rw [if_neg (fun z => q (decide_eq_true (Or.inl z))), if_neg (fun z => q (decide_eq_true (Or.inr z))), eT, bnd_some, bc, nI_1]
          exact ih (y + 1) (tkE c N y) (t + 1) _ (by omega) (by omega) gt.2 (by omega) (by show tkS c N (tkE c N (tkP c N t)) = _; rw [ep]) (Or.inl (by omega)) nx
