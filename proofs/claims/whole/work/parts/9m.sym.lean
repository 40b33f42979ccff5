/-! TOKENS: which symbol a token is; the class's at and skip, the model's isSymbol; fail -/
theorem wd_first {c : Nat → Int32} {x e i : Nat} (h0 : 0 < txN.getD i 0) (h : wdE c x e i = true) : txC i 0 = c x := by
  unfold wdE at h
  rw [Bool.and_eq_true] at h
  exact wd_ch _ _ h.2 0 (Nat.le_refl _) (by omega)
theorem tkY_word {c : Nat → Int32} {N x r : Nat} (hr : r < 74) (h0 : 0 < txN.getD (syT.getD r 0) 0) (hL : tkL (txC (syT.getD r 0) 0) = true) : tkY c N x = r ↔ (tkL (c x) = true ∧ wdE c x (tkE c N x) (syT.getD r 0) = true) := by
  have nr : ∀ k, txN.getD (syT.getD k 0) 0 = 0 → r ≠ k := fun k hk e => by rw [e] at h0; omega
  unfold tkY
  by_cases hd : tkD (c x) = true
  · rw [if_pos hd]
    exact ⟨fun z => absurd z.symm (nr 3 (by decide)), fun z => absurd z.1 (tk_LD hd)⟩
  · rw [if_neg hd]
    by_cases hl : tkL (c x) = true
    · rw [if_pos hl, sp_iff hr h0 (nr 2 (by decide))]
      exact ⟨fun z => ⟨hl, z⟩, fun z => z.2⟩
    · rw [if_neg hl, sp_iff hr h0 (nr 4 (by decide))]
      exact ⟨fun z => absurd (by rw [← wd_first h0 z]; exact hL) hl, fun z => absurd z.1 hl⟩
theorem tkY_sign {c : Nat → Int32} {N x r : Nat} (hr : r < 74) (h1 : txN.getD (syT.getD r 0) 0 = 1) (hL : tkL (txC (syT.getD r 0) 0) = false) (hD : tkD (txC (syT.getD r 0) 0) = false) : tkY c N x = r ↔ c x = txC (syT.getD r 0) 0 := by
  have nr : ∀ k, txN.getD (syT.getD k 0) 0 = 0 → r ≠ k := fun k hk e => by rw [e] at h1; omega
  unfold tkY
  by_cases hd : tkD (c x) = true
  · rw [if_pos hd]
    exact ⟨fun z => absurd z.symm (nr 3 (by decide)), fun z => by rw [z, hD] at hd; exact absurd hd (by decide)⟩
  · rw [if_neg hd]
    by_cases hl : tkL (c x) = true
    · rw [if_pos hl, sp_iff hr (by omega) (nr 2 (by decide))]
      exact ⟨fun z => (wd_first (by omega) z).symm, fun z => by rw [z, hL] at hl; exact absurd hl (by decide)⟩
    · rw [if_neg hl, sp_iff hr (by omega) (nr 4 (by decide))]
      refine ⟨fun z => (wd_first (by omega) z).symm, fun z => ?_⟩
      unfold wdE
      rw [h1, decide_eq_true rfl, Bool.true_and]
      show (decide (txC (syT.getD r 0) 0 = c (x + 0)) && true) = true
      rw [Bool.and_true]
      exact decide_eq_true z.symm
theorem tkK_1 {c : Nat → Int32} {x : Nat} : nI (tkK c x) = 1 ↔ tkL (c x) = true := by
  unfold tkK
  by_cases h : tkL (c x) = true
  · rw [if_pos h]; exact ⟨fun _ => h, fun _ => rfl⟩
  · rw [if_neg h]
    refine ⟨fun z => ?_, fun z => absurd z h⟩
    split at z <;> exact absurd z (by decide)
theorem tkK_2 {c : Nat → Int32} {x : Nat} : nI (tkK c x) = 2 ↔ tkD (c x) = true := by
  unfold tkK
  by_cases h : tkD (c x) = true
  · rw [if_neg (tk_LD h), if_pos h]; exact ⟨fun _ => h, fun _ => rfl⟩
  · refine ⟨fun z => ?_, fun z => absurd z h⟩
    rw [if_neg h] at z
    split at z <;> exact absurd z (by decide)
theorem tkK_3 {c : Nat → Int32} {x : Nat} : nI (tkK c x) = 3 ↔ ¬ tkL (c x) = true ∧ ¬ tkD (c x) = true := by
  unfold tkK
  by_cases h : tkL (c x) = true
  · rw [if_pos h]; exact ⟨fun z => absurd z (by decide), fun z => absurd h z.1⟩
  · rw [if_neg h]
    by_cases g : tkD (c x) = true
    · rw [if_pos g]; exact ⟨fun z => absurd z (by decide), fun z => absurd g z.2⟩
    · rw [if_neg g]; exact ⟨fun _ => ⟨h, g⟩, fun _ => rfl⟩
/-- the class's tables stand as scanned -/
def CT (N n : Nat) (c : Nat → Int32) (μ : Mem) : Prop :=
  μ.1 2 0 5 = nI n ∧ (∀ q, q < n → μ.1 4 0 q = nI (tkP c N q) ∧ μ.1 4 1 q = nI (tkE c N (tkP c N q)) ∧ μ.1 4 2 q = tkV c N (tkP c N q) ∧ μ.2.1 3 0 q = tkY c N (tkP c N q)) ∧
  μ.1 4 0 n = nI N ∧ μ.1 4 1 n = nI N ∧ μ.2.1 3 0 n = 1 ∧ μ.1 1 0 = c ∧ (μ.1 2 0 7 = 0 → μ.1 2 0 8 = -1)
/-- the symbol of the t-th token -/
def syA (N n : Nat) (c : Nat → Int32) (t : Nat) : Nat := if t < n then tkY c N (tkP c N t) else 1
theorem syA_lt {N n t : Nat} {c : Nat → Int32} : syA N n c t < 74 := by
  unfold syA
  split
  · exact tkY_lt
  · decide
theorem ct_sy {N n t : Nat} {c : Nat → Int32} {μ : Mem} (h : CT N n c μ) (ht : t ≤ n) : μ.2.1 3 0 t = syA N n c t := by
  unfold syA
  by_cases g : t < n
  · rw [if_pos g]; exact (h.2.1 t g).2.2.2
  · rw [if_neg g, show t = n by omega]; exact h.2.2.2.2.1
theorem c_at {N n t a : Nat} {c : Nat → Int32} {μ : Mem} (hn : n ≤ 1000) (h : CT N n c μ) (ht : t ≤ n) (h6 : μ.1 2 0 6 = nI t) : fX11_at 0 a μ = some (if syA N n c t = a then 1 else 0, μ) := by
  unfold fX11_at
  simp only [jn_eq, nm_eq]
  rw [h6, ckI_nI (show t < 1001 by omega) (by decide), nI_clamp (n := t) (by omega), ct_sy h ht, show ∀ {α : Type} (o : Option α), ckB (syA N n c t) 74 o = o from fun o => if_pos syA_lt]
  by_cases g : syA N n c t = a
  · rw [if_neg (fun z => z g), if_pos g, ckZ_ok (Or.inr rfl)]
  · rw [if_pos g, if_neg g, ckZ_ok (Or.inl rfl)]
theorem c_skip {N n t a : Nat} {c : Nat → Int32} {μ : Mem} (hn : n ≤ 1000) (h : CT N n c μ) (ht : t ≤ n) (h6 : μ.1 2 0 6 = nI t) : fX11_skip 0 a μ = some (if t < n ∧ syA N n c t = a then 1 else 0, if t < n ∧ syA N n c t = a then wI μ 2 0 6 (nI (t + 1)) else μ) := by
  unfold fX11_skip
  simp only [jn_eq, nm_eq]
  rw [c_at hn h ht h6, bnd_some, h6, h.1]
  by_cases g : syA N n c t = a
  · rw [if_pos g, if_neg (show ¬ (1 : Int32) = 0 by decide)]
    by_cases q : t < n
    · rw [if_pos (nI_lt q (by omega)), if_pos ⟨q, g⟩, if_pos ⟨q, g⟩, nI_1, ckZ_ok (Or.inr rfl)]
    · rw [if_neg (show ¬ nI t < nI n from fun z => q ((nI_ltI (by omega) (by omega)).1 z)), if_neg (fun z => q z.1), if_neg (fun z => q z.1), ckZ_ok (Or.inl rfl)]
  · rw [if_neg g, if_pos (show (0 : Int32) = 0 from rfl), if_neg (fun z => g z.2), if_neg (fun z => g z.2), ckZ_ok (Or.inl rfl)]
theorem m_fail {ν : Mem} {k : Int32} : fX13_fail 0 k ν = some ((), if ν.1 26 0 26 = 0 then wI (wI ν 26 0 26 k) 26 0 27 (ν.1 26 0 24) else ν) := by
  unfold fX13_fail
  simp only [jn_eq, nm_eq]
  by_cases g : ν.1 26 0 26 = 0
  · rw [if_neg (fun z => z g), if_pos g, wI_o (by decide)]
  · rw [if_pos g, if_neg g]
theorem c_fail {N n t : Nat} {c : Nat → Int32} {μ : Mem} {k : Int32} (hn : n ≤ 1000) (h : CT N n c μ) (ht : t ≤ n) (h6 : μ.1 2 0 6 = nI t) (h7 : μ.1 2 0 7 = 0) : fX11_fail 0 k μ = some ((), wI (wI (wI μ 2 0 7 k) 2 0 8 (μ.1 4 0 t)) 2 0 6 (nI n)) := by
  unfold fX11_fail
  simp only [jn_eq, nm_eq]
  have e6 : (wI μ 2 0 7 k).1 2 0 6 = nI t := (wI_o (by omega)).trans h6
  have e4 : (wI μ 2 0 7 k).1 4 0 t = μ.1 4 0 t := wI_o (by omega)
  have e5 : ∀ v, (wI (wI μ 2 0 7 k) 2 0 8 v).1 2 0 5 = nI n := fun v => (wI_o (by omega)).trans ((wI_o (by omega)).trans h.1)
  rw [if_neg (fun z => z h7), e6, ckI_nI (show t < 1001 by omega) (by decide), nI_clamp (n := t) (by omega), e4, e5]
