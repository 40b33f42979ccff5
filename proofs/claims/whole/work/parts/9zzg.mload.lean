/-! LOAD: the model's call in pieces -/
theorem m_clear {ν : Mem} (fu : Nat) : ∃ ν', fX13_clear (fu + 701) 1 ν = some ((), ν') ∧ (∀ κ a q, ¬ (κ = 27 ∧ a = 1) → ν'.1 κ a q = ν.1 κ a q) ∧ ν'.2 = ν.2 ∧ ∀ k, k < 700 → ν'.1 27 1 k = if k = 2 then -1 else 0 := by
  unfold fX13_clear
  simp only [jn_eq, nm_eq]
  refine (lp_ind (P := fun d (f : Mem → Int32 → Option (Unit × Mem)) => ∀ y ν1, y + d = 700 → (∀ κ a q, ¬ (κ = 27 ∧ a = 1) → ν1.1 κ a q = ν.1 κ a q) → ν1.2 = ν.2 → (∀ k, k < y → ν1.1 27 1 k = 0) → ∃ ν', f ν1 (nI y) = some ((), ν') ∧ (∀ κ a q, ¬ (κ = 27 ∧ a = 1) → ν'.1 κ a q = ν.1 κ a q) ∧ ν'.2 = ν.2 ∧ ∀ k, k < 700 → ν'.1 27 1 k = if k = 2 then -1 else 0) (fun f y ν1 hy h1 h2 h3 => ?_) (fun d f ih y ν1 hy h1 h2 h3 => ?_) 700 fu) 0 ν rfl (fun _ _ _ _ => rfl) rfl (fun k hk => absurd hk (by omega))
  · rw [if_pos (show (700 : Int32) ≤ nI y from (nI_leI (a := 700) (by decide) (by omega)).2 (by omega)), show ∀ {α : Type} (o : Option α), ckI (2 : Int32) (if 1 = 4 then 7000 else 700) o = o from fun o => ckI_nI (j := 2) (by decide) (by decide)]
    refine ⟨_, rfl, fun κ a q z => ?_, h2, fun k hk => ?_⟩
    · rw [wI_o (by omega)]; exact h1 κ a q z
    · show (wI ν1 27 1 2 (-1)).1 27 1 k = _
      by_cases g : k = 2
      · subst g; rw [if_pos rfl]; exact wI_same
      · rw [if_neg g, wI_o (by omega)]; exact h3 k (by omega)
  · rw [if_neg (show ¬ (700 : Int32) ≤ nI y from fun w => absurd ((nI_leI (a := 700) (by decide) (by omega)).1 w) (by omega)), show ∀ {α : Type} (o : Option α), ckI (nI y) (if 1 = 4 then 7000 else 700) o = o from fun o => ckI_nI (show y < 700 by omega) (by decide), nI_clamp (n := y) (by omega), nI_1]
    refine ih (y + 1) _ (by omega) (fun κ a q z => by rw [wI_o (by omega)]; exact h1 κ a q z) h2 (fun k hk => ?_)
    by_cases g : k = y
    · subst g; exact wI_same
    · rw [wI_o (by omega)]; exact h3 k (by omega)
theorem m_finish {ν : Mem} : fX13_finish 0 ν = some (ν.1 26 0 26, wI (wI ν 26 0 21 0) 26 0 28 (if ν.1 26 0 26 = 0 then -1 else ν.1 26 0 27)) := by
  unfold fX13_finish
  simp only [jn_eq, nm_eq]
  rw [wI_o (by omega), wI_o (by omega)]
  by_cases h : ν.1 26 0 26 = 0
  · rw [if_neg (fun z => z h), if_pos h, wI_o (by omega), wI_o (by omega)]
  · rw [if_pos h, if_neg h, wI_o (by omega), wI_o (by omega)]
def mK (F : Nat) (μ6 : Mem) : Option (Int32 × Mem) := bnd (fX13_layNames F 0 μ6) fun _ μ7 => bnd (fX13_finish 0 μ7) fun x9 μ8 => if x9 = 0 then bnd (fX13_copy F 1 (0 : Int32) 0 (0 : Int32) μ8) fun _ μ31 => lp (fun _ _ => none) F (mPi F) μ31 (0 : Int32) else some (((-10 : Int32) - (μ8.1 26 0 26)), μ8)
theorem m_loadEq {F : Nat} {L : Int32} {ν : Mem} (h : (0 : Int32) ≤ L ∧ L ≤ ν.1 26 0 21) : fX13_load F 0 L ν = bnd (fX13_clear F 1 (wI ν 26 0 6 0)) fun _ μ35 => bnd (fX13_startText F 0 L (wI μ35 26 0 39 0)) fun _ μ37 => lp (fun _ => none) F (mCl F (mK F)) μ37 := by
  unfold fX13_load mCl mK mPi mEn
  simp only [jn_eq, nm_eq]
  have e : (wI ν 26 0 6 0).1 26 0 21 = ν.1 26 0 21 := wI_o (by omega)
  rw [r_inRange, bnd_some, e, if_pos h, if_pos (show ¬ (1 : Int32) = 0 by decide)]
theorem m_loadNo {F : Nat} {L : Int32} {ν : Mem} (h : ¬ ((0 : Int32) ≤ L ∧ L ≤ ν.1 26 0 21)) : fX13_load F 0 L ν = some (0, wI ν 26 0 6 1) := by
  unfold fX13_load
  simp only [jn_eq, nm_eq]
  have e : (wI ν 26 0 6 0).1 26 0 21 = ν.1 26 0 21 := wI_o (by omega)
  rw [r_inRange, bnd_some, e, if_neg h, if_neg (fun z => z rfl), m_raise, bnd_some, wI_wI]
/-- the class's call, behind its reading -/
def cSwap (p : Nat) (μ9 : Mem) : Mem := wR (wR (wR μ9 0 0 4 (1 - p)) 0 0 5 p) 22 0 0 (1 - p)
theorem c_loadBad {F N p : Nat} {μ μ5 μ8 : Mem} (hN : N ≤ 1000) (hl : nI N ≤ μ.1 0 0 1) (hp : p < 2) (sc : fX11_scan F 0 (nI N) (wI μ 0 0 1 0) = some ((), μ5)) (r5 : μ5.2.1 0 0 5 = 1 - p) (rp : fX5_readProgram F 0 (1 - p) μ5 = some ((), μ8)) (g : ¬ μ8.1 2 0 7 = 0) :
    fX12_load F 0 (nI N) μ = some (.inr ((-10 : Int32) - μ8.1 2 0 7), wI μ8 0 0 2 (μ8.1 2 0 8)) := by
  unfold fX12_load
  simp only [jn_eq, nm_eq]
  have e7 : (wI μ8 0 0 2 (μ8.1 2 0 8)).1 2 0 7 = μ8.1 2 0 7 := wI_o (by omega)
  rw [if_neg (nI_pos (by omega)), if_pos hl, sc, bnd_some, r5, ckB_ok (by omega), rp, bnd_some, e7, if_neg g]
theorem c_loadGood {F N p : Nat} {μ μ5 μ8 μ22 : Mem} (hN : N ≤ 1000) (hl : nI N ≤ μ.1 0 0 1) (hp : p < 2) (sc : fX11_scan F 0 (nI N) (wI μ 0 0 1 0) = some ((), μ5)) (r5 : μ5.2.1 0 0 5 = 1 - p) (rp : fX5_readProgram F 0 (1 - p) μ5 = some ((), μ8)) (r84 : μ8.2.1 0 0 4 = p) (r85 : μ8.2.1 0 0 5 = 1 - p) (g : μ8.1 2 0 7 = 0)
    (bg : fX3_begin F 0 (1 - p) (cSwap p (wI μ8 0 0 2 (μ8.1 2 0 8))) = some ((), μ22)) (b2 : μ22.2 = (cSwap p (wI μ8 0 0 2 (μ8.1 2 0 8))).2) :
    fX12_load F 0 (nI N) μ = some (.inr (μ22.1 5 (1 - p) 0), wI (wI μ22 0 0 15 0) 0 0 12 0) := by
  have e7 : (wI μ8 0 0 2 (μ8.1 2 0 8)).1 2 0 7 = μ8.1 2 0 7 := wI_o (by omega)
  have e4 : (wI μ8 0 0 2 (μ8.1 2 0 8)).2.1 0 0 4 = p := r84
  have e5 : (wI μ8 0 0 2 (μ8.1 2 0 8)).2.1 0 0 5 = 1 - p := r85
  have e44 : (wR (wR (wI μ8 0 0 2 (μ8.1 2 0 8)) 0 0 4 (1 - p)) 0 0 5 p).2.1 0 0 4 = 1 - p := (wR_o (by omega)).trans wR_same
  have e444 : (cSwap p (wI μ8 0 0 2 (μ8.1 2 0 8))).2.1 0 0 4 = 1 - p := (wR_o (by omega)).trans e44
  have e22 : (wI (wI μ22 0 0 15 0) 0 0 12 0).2.1 0 0 4 = 1 - p := by show μ22.2.1 0 0 4 = _; rw [b2]; exact e444
  unfold fX12_load
  simp only [jn_eq, nm_eq]
  rw [if_neg (nI_pos (by omega)), if_pos hl, sc, bnd_some, r5, ckB_ok (by omega), rp, bnd_some, e7, if_pos g, e4, ckB_ok hp, e5, ckB_ok (by omega), e44, ckB_ok (by omega)]
  unfold cSwap at bg e444
  rw [e444, ckB_ok (by omega), bg, bnd_some, ckZ_ok (Or.inl rfl), e22, ckB_ok (by omega), wI_o (by omega), wI_o (by omega)]
theorem c_loadNo {F : Nat} {L : Int32} {μ : Mem} (h : ¬ ((0 : Int32) ≤ L ∧ L ≤ μ.1 0 0 1)) : fX12_load F 0 L μ = some (.inl 2, μ) := by
  unfold fX12_load
  simp only [jn_eq]
  by_cases g : L < 0
  · rw [if_pos g]
  · rw [if_neg g, if_neg (fun z => h ⟨Int32.not_lt.1 g, z⟩)]
