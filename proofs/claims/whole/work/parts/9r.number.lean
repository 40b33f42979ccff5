/-! PARSING in pairs: a number between two bounds -/
theorem m_value {ν : Mem} {s e : Nat} (he : e ≤ 1000) (hs : s ≤ e) (h24 : ν.1 26 0 24 = nI s) (h23 : ν.1 26 0 23 = nI e) (fu : Nat) :
    fX13_value (fu + 1001) 0 ν = some (if ν.1 26 0 25 = 2 then vaM (ν.1 28 7) (e - s) s 0 else 0, ν) := by
  unfold fX13_value
  simp only [jn_eq, nm_eq]
  rw [h24]
  refine lp_ind (P := fun d (f : Mem → Int32 → Int32 → Option (Int32 × Mem)) => ∀ y v, y ≤ e → e - y ≤ d → f ν v (nI y) = some (if ν.1 26 0 25 = 2 then vaM (ν.1 28 7) (e - y) y v else v, ν)) (fun f y v hy hd => ?_) (fun d f ih y v hy hd => ?_) 1000 fu s 0 hs (by omega)
  · rw [h23, if_pos (show nI e ≤ nI y from (nI_leI (by omega) (by omega)).2 (by omega)), show e - y = 0 by omega]
    show _ = some (if _ then v else v, ν)
    rw [ite_self]
  · rw [h23]
    by_cases g : y < e
    · rw [if_neg (show ¬ nI e ≤ nI y from fun z => absurd ((nI_leI (by omega) (by omega)).1 z) (by omega))]
      by_cases k2 : ν.1 26 0 25 = 2
      · rw [if_neg (fun z => z k2), if_pos k2, ckI_nI (show y < mil.getD 7 0 from (show y < 1000 by omega)) (by decide), nI_clamp (n := y) (by omega), nI_1, ih (y + 1) _ (by omega) (by omega), if_pos k2, show e - y = (e - (y + 1)) + 1 by omega]
        rfl
      · rw [if_pos k2, if_neg k2]
    · rw [if_pos (show nI e ≤ nI y from (nI_leI (by omega) (by omega)).2 (by omega)), show e - y = 0 by omega]
      show _ = some (if _ then v else v, ν)
      rw [ite_self]
theorem tw_value {N n t : Nat} {c : Nat → Int32} {ν : Mem} (hT : TP N n c) (h : TW N n c t ν) (fu : Nat) : ∃ v, fX13_value (fu + 1001) 0 ν = some (v, ν) ∧ (t < n → ν.1 26 0 25 = 2 → v = vaM (ν.1 28 7) (tkE c N (tkP c N t) - tkP c N t) (tkP c N t) 0) := by
  have hN := hT.2.1
  obtain ⟨h1, h2, h3⟩ := h
  by_cases g : t < n
  · rw [if_pos g] at h3
    have gt := tk_gt (c := c) (hT.2.2.1 t g)
    exact ⟨_, m_value (by omega) (by omega) h3.1 h3.2.1 fu, fun _ k => if_pos k⟩
  · rw [if_neg g] at h3
    exact ⟨_, m_value hN (Nat.le_refl N) h3.1 h3.2.1 fu, fun k => absurd k g⟩
/-- in the bad state, a number changes nothing -/
theorem b_number {N n : Nat} {c : Nat → Int32} {μ ν : Mem} {lo hi : Int32} (h : PB N n c μ ν) (fu : Nat) : fX11_takeNumber 0 lo hi μ = some (lo, μ) ∧ fX13_number (fu + 1001) 0 lo hi ν = some (lo, ν) := by
  obtain ⟨t, hw⟩ := h.2.2.2.2.2.2
  obtain ⟨v, ev, _⟩ := tw_value h.1 hw fu
  constructor
  · unfold fX11_takeNumber
    simp only [jn_eq, nm_eq]
    rw [b_at h (by decide), bnd_some, if_neg (show ¬ ¬ (0 : Int32) = 0 from fun z => z rfl), b_cfail h, bnd_some]
  · unfold fX13_number
    simp only [jn_eq]
    rw [if_pos (b_err h), b_check h, bnd_some, ev, bnd_some, if_pos (b_err h), b_check h, bnd_some, b_advance h, bnd_some, if_pos (b_err h)]
/-- the class goes on by one, but not past the end: before it, that is by one -/
theorem c_min {N n t : Nat} {c : Nat → Int32} {μ : Mem} (hn : n ≤ 1000) (h : CT N n c μ) (ht : t < n) : (if (μ.1 2 0 5) < (nI t + (1 : Int32)) then (μ.1 2 0 5) else (nI t + (1 : Int32))) = nI (t + 1) := by
  rw [h.1, nI_1, if_neg (show ¬ nI n < nI (t + 1) from fun z => absurd ((nI_ltI (by omega) (by omega)).1 z) (by omega))]
