/-! TOKENS: the class's scan -/
/-- the class's value of the digits from x on, d of them, v before -/
def vaC (c : Nat → Int32) : Nat → Nat → Int32 → Int32
  | 0, _, v => v
  | d + 1, x, v => vaC c d (x + 1) (if (100000 : Int32) < (v * 10 + c x) - 48 then 100000 else (v * 10 + c x) - 48)
def tkY (c : Nat → Int32) (N x : Nat) : Nat := if tkD (c x) then 3 else if tkL (c x) then spG c x (tkE c N x) 2 74 0 else spG c x (x + 1) 4 74 0
def tkV (c : Nat → Int32) (N x : Nat) : Int32 := if tkD (c x) then vaC c (tkE c N x - (x + 1)) (x + 1) (c x - 48) else 0
def tokM (μ : Mem) (t x e : Nat) (v : Int32) (a : Nat) : Mem := wI (wI (wI (wI (wR μ 3 0 t a) 4 0 t (nI x)) 4 1 t (nI e)) 4 2 t v) 2 0 5 (nI (t + 1))
theorem wR_f {μ : Mem} {κ n k a : Nat} : (wR μ κ n k a).1 = μ.1 := rfl
theorem tk_gt {c : Nat → Int32} {N x : Nat} (h : x < N) : x < tkE c N x ∧ tkE c N x ≤ N := by
  unfold tkE
  split
  · rename_i g
    rw [tk_unf, if_pos ⟨h, g⟩]
    exact ⟨tk_ge _ _, Nat.le_trans (tk_le _ _) (by omega)⟩
  · split
    · rename_i g
      rw [tk_unf, if_pos ⟨h, g⟩]
      exact ⟨tk_ge _ _, Nat.le_trans (tk_le _ _) (by omega)⟩
    · omega
theorem tk_LD {c : Int32} (h : tkD c = true) : ¬ tkL c = true := fun z => absurd (Int32.le_trans (of_decide_eq_true z).1 (of_decide_eq_true h).2) (by decide)
theorem sp_lt {c : Nat → Int32} {x e n : Nat} (hn : n < 74) : ∀ d s, s + d = 74 → spG c x e n d s < 74 := by
  intro d
  induction d with
  | zero => intro s _; exact hn
  | succ d ih =>
    intro s hs
    show (if wdE c x e (syT.getD s 0) = true then s else spG c x e n d (s + 1)) < 74
    split
    · omega
    · exact ih (s + 1) (by omega)
theorem tkY_lt {c : Nat → Int32} {N x : Nat} : tkY c N x < 74 := by
  unfold tkY
  split
  · decide
  · split
    · exact sp_lt (by decide) _ _ rfl
    · exact sp_lt (by decide) _ _ rfl
theorem c_scanToken {μ : Mem} {N x t : Nat} (hN : N ≤ 1000) (hx : x < N) (ht : t < 1001) (h5 : μ.1 2 0 5 = nI t) (fu : Nat) :
    fX11_scanToken (fu + 1001) 0 (nI x) (nI N) μ = some (nI (tkE (μ.1 1 0) N x), tokM μ t x (tkE (μ.1 1 0) N x) (tkV (μ.1 1 0) N x) (tkY (μ.1 1 0) N x)) := by
  have eK : ∀ {α : Type} (o : Option α), ckI (nI t) 1001 o = o := fun o => ckI_nI ht (by decide)
  have w4 : ∀ (μ : Mem) n k v, (wI μ 4 n k v).1 2 0 5 = μ.1 2 0 5 := fun μ n k v => wI_o (by omega)
  have eB : ∀ {α : Type} {a : Nat} (o : Option α), a < 74 → ckB a 74 o = o := fun o h => if_pos h
  have eX : ∀ {α : Type} (y : Nat) (o : Option α), y < N → ckI (nI y) 1000 o = o := fun y o h => ckI_nI (show y < 1000 by omega) (by decide)
  have eC : ∀ y, y < N → (nI y).toNatClampNeg = y := fun y h => nI_clamp (by omega)
  have eT : (nI t).toNatClampNeg = t := nI_clamp (by omega)
  unfold fX11_scanToken
  simp only [jn_eq, nm_eq]
  simp only [h5, eK, w4, wR_f, eT, nI_1, eX x _ hx, eC x hx, c_isDigit, bnd_some, c_isLetter]
  generalize hc : μ.1 1 0 = c
  by_cases hd : tkD (c x) = true
  · have v1 : (if tkD (c x) = true then (1 : Int32) else 0) = 1 := if_pos hd
    have eE : tkE c N x = tkF tkD c (N - (x + 1)) (x + 1) := by unfold tkE; rw [if_neg (tk_LD hd), if_pos hd, tk_unf, if_pos ⟨hx, hd⟩]
    have eV : tkV c N x = vaC c (tkE c N x - (x + 1)) (x + 1) (c x - 48) := by unfold tkV; rw [if_pos hd]
    have eY : tkY c N x = 3 := by unfold tkY; rw [if_pos hd]
    rw [v1, if_neg (show ¬ (1 : Int32) = 0 by decide), eV, eY, eE]
    refine lp_ind (P := fun d (f : Mem → Int32 → Int32 → Option (Int32 × Mem)) => ∀ y v, y ≤ N → N - y ≤ d → f μ (nI y) v = some (nI (tkF tkD c (N - y) y), tokM μ t x (tkF tkD c (N - y) y) (vaC c (tkF tkD c (N - y) y - y) y v) 3)) (fun f y v hy hd => ?_) (fun d f ih y v hy hd => ?_) 1000 fu (x + 1) _ (by omega) (by omega)
    · have : y = N := by omega
      subst this
      rw [if_pos (show nI y ≤ nI y from (nI_leI (by omega) (by omega)).2 (Nat.le_refl _)), tk_unf, if_neg (fun q => absurd q.1 (by omega)), Nat.sub_self]
      simp only [h5, eK, w4, wR_f, eT, nI_1]
      rfl
    · by_cases g : y < N
      · rw [if_neg (show ¬ nI N ≤ nI y from fun z => absurd ((nI_leI (by omega) (by omega)).1 z) (by omega)), eX y _ g, eC y g, hc]
        by_cases q : tkD (c y) = true
        · have v3 : (if tkD (c y) = true then (1 : Int32) else 0) = 1 := if_pos q
          have e2 : tkF tkD c (N - y) y = tkF tkD c (N - (y + 1)) (y + 1) := by rw [tk_unf, if_pos ⟨g, q⟩]
          have g2 : y + 1 ≤ tkF tkD c (N - (y + 1)) (y + 1) := tk_ge _ _
          rw [v3, if_neg (show ¬ (1 : Int32) = 0 by decide), eX y _ g, nI_1, e2, show tkF tkD c (N - (y + 1)) (y + 1) - y = (tkF tkD c (N - (y + 1)) (y + 1) - (y + 1)) + 1 by omega]
          exact ih (y + 1) _ (by omega) (by omega)
        · have v3 : (if tkD (c y) = true then (1 : Int32) else 0) = 0 := if_neg q
          rw [v3, if_pos (show (0 : Int32) = 0 from rfl), tk_unf, if_neg (fun z => q z.2), Nat.sub_self]
          simp only [h5, eK, w4, wR_f, eT, nI_1]
          rfl
      · have : y = N := by omega
        subst this
        rw [if_pos (show nI y ≤ nI y from (nI_leI (by omega) (by omega)).2 (Nat.le_refl _)), tk_unf, if_neg (fun q => absurd q.1 (by omega)), Nat.sub_self]
        simp only [h5, eK, w4, wR_f, eT, nI_1]
        rfl
  · have v1 : (if tkD (c x) = true then (1 : Int32) else 0) = 0 := if_neg hd
    have eV : tkV c N x = 0 := by unfold tkV; rw [if_neg hd]
    rw [v1, if_pos (show (0 : Int32) = 0 from rfl), eV]
    by_cases hl : tkL (c x) = true
    · have v2 : (if tkL (c x) = true then (1 : Int32) else 0) = 1 := if_pos hl
      have eE : tkE c N x = tkF tkL c (N - (x + 1)) (x + 1) := by unfold tkE; rw [if_pos hl, tk_unf, if_pos ⟨hx, hl⟩]
      have eY : tkY c N x = spG c x (tkE c N x) 2 74 0 := by unfold tkY; rw [if_neg hd, if_pos hl]
      rw [v2, if_neg (show ¬ (1 : Int32) = 0 by decide), eY, eE]
      have eS : ∀ y, x ≤ y → y ≤ N → fX10_spelled (fu + 1001) 0 (nI x) (nI y) 2 μ = some (spG c x y 2 74 0, μ) := fun y h1 h2 => by
        have e : fX10_spelled (fu + 1001) 0 (nI x) (nI y) 2 μ = _ := c_spelled (n := 2) h1 (by omega) (fu + 926)
        rw [e, hc]
      refine lp_ind (P := fun d (f : Mem → Int32 → Option (Int32 × Mem)) => ∀ y, x ≤ y → y ≤ N → N - y ≤ d → f μ (nI y) = some (nI (tkF tkL c (N - y) y), tokM μ t x (tkF tkL c (N - y) y) 0 (spG c x (tkF tkL c (N - y) y) 2 74 0))) (fun f y hy0 hy hd => ?_) (fun d f ih y hy0 hy hd => ?_) 1000 fu (x + 1) (by omega) (by omega) (by omega)
      · have : y = N := by omega
        subst this
        rw [if_pos (show nI y ≤ nI y from (nI_leI (by omega) (by omega)).2 (Nat.le_refl _)), tk_unf, if_neg (fun q => absurd q.1 (by omega)), eS y hy0 hy, bnd_some, eB _ (sp_lt (by decide) _ _ rfl)]
        simp only [h5, eK, w4, wR_f, eT, nI_1]
        rfl
      · by_cases g : y < N
        · rw [if_neg (show ¬ nI N ≤ nI y from fun z => absurd ((nI_leI (by omega) (by omega)).1 z) (by omega)), eX y _ g, eC y g, hc]
          by_cases q : tkL (c y) = true
          · have v3 : (if tkL (c y) = true then (1 : Int32) else 0) = 1 := if_pos q
            have e2 : tkF tkL c (N - y) y = tkF tkL c (N - (y + 1)) (y + 1) := by rw [tk_unf, if_pos ⟨g, q⟩]
            rw [v3, if_neg (show ¬ (1 : Int32) = 0 by decide), nI_1, e2]
            exact ih (y + 1) (by omega) (by omega) (by omega)
          · have v3 : (if tkL (c y) = true then (1 : Int32) else 0) = 0 := if_neg q
            rw [v3, if_pos (show (0 : Int32) = 0 from rfl), tk_unf, if_neg (fun z => q z.2), eS y hy0 hy, bnd_some, eB _ (sp_lt (by decide) _ _ rfl)]
            simp only [h5, eK, w4, wR_f, eT, nI_1]
            rfl
        · have : y = N := by omega
          subst this
          rw [if_pos (show nI y ≤ nI y from (nI_leI (by omega) (by omega)).2 (Nat.le_refl _)), tk_unf, if_neg (fun q => absurd q.1 (by omega)), eS y hy0 hy, bnd_some, eB _ (sp_lt (by decide) _ _ rfl)]
          simp only [h5, eK, w4, wR_f, eT, nI_1]
          rfl
    · have v2 : (if tkL (c x) = true then (1 : Int32) else 0) = 0 := if_neg hl
      have eE : tkE c N x = x + 1 := by unfold tkE; rw [if_neg hl, if_neg hd]
      have eY : tkY c N x = spG c x (x + 1) 4 74 0 := by unfold tkY; rw [if_neg hd, if_neg hl]
      have e : fX10_spelled (fu + 1001) 0 (nI x) (nI (x + 1)) 4 μ = _ := c_spelled (n := 4) (by omega) (by omega) (fu + 926)
      rw [v2, if_pos (show (0 : Int32) = 0 from rfl), eE, eY, e, bnd_some, eB _ (sp_lt (by decide) _ _ rfl), hc]
      simp only [h5, eK, w4, wR_f, eT, nI_1]
      rfl
