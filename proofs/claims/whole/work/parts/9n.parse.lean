/-! PARSING in pairs: without an error the two stand at the same token; with one, both hold its code and its place -/
def PG (N n : Nat) (c : Nat → Int32) (t : Nat) (μ ν : Mem) : Prop :=
  TP N n c ∧ CT N n c μ ∧ μ.1 2 0 6 = nI t ∧ μ.1 2 0 7 = 0 ∧ ν.1 26 0 26 = 0 ∧ TW N n c t ν ∧ BY N (ν.1 28 7) c
def PB (N n : Nat) (c : Nat → Int32) (μ ν : Mem) : Prop :=
  TP N n c ∧ CT N n c μ ∧ μ.1 2 0 6 = nI n ∧ μ.1 2 0 7 ≠ 0 ∧ ν.1 26 0 26 = μ.1 2 0 7 ∧ μ.1 2 0 8 = ν.1 26 0 27 ∧ ∃ t, TW N n c t ν
theorem tw_congr {N n t : Nat} {c : Nat → Int32} {ν ν' : Mem} (e : ∀ k, 22 ≤ k → k ≤ 25 → ν'.1 26 0 k = ν.1 26 0 k) (h : TW N n c t ν) : TW N n c t ν' := by
  unfold TW at h ⊢
  rw [e 22 (by decide) (by decide), e 23 (by decide) (by decide), e 24 (by decide) (by decide), e 25 (by decide) (by decide)]
  exact h
theorem syA_1 {N n t r : Nat} {c : Nat → Int32} (h0 : 0 < txN.getD (syT.getD r 0) 0) (h : ¬ t < n) : ¬ syA N n c t = r := fun e => by
  unfold syA at e
  rw [if_neg h] at e
  rw [← e] at h0
  exact absurd h0 (by decide)
/-- a word of the language: the model asks by its text, the class by its symbol -/
theorem p_word {N n t r : Nat} {c : Nat → Int32} {μ ν : Mem} (h : PG N n c t μ ν) (hr : r < 74) (h0 : 0 < txN.getD (syT.getD r 0) 0) (hL : tkL (txC (syT.getD r 0) 0) = true) (fu : Nat) :
    fX13_isWord (fu + 14) 0 (syT.getD r 0) ν = some (if syA N n c t = r then 1 else 0, ν) := by
  obtain ⟨hT, hC, h6, h7, h26, ⟨hw1, hw2, hw3⟩, hB⟩ := h
  have hN := hT.2.1
  by_cases g : t < n
  · rw [if_pos g] at hw3
    have l := hT.2.2.1 t g
    have gt := tk_gt (c := c) l
    rw [m_isWord (by omega) (by omega) hw3.1 hw3.2.1 fu, hw3.2.2, by_W hB gt.2]
    have e : syA N n c t = r ↔ (tkL (c (tkP c N t)) = true ∧ wdE c (tkP c N t) (tkE c N (tkP c N t)) (syT.getD r 0) = true) := by
      unfold syA; rw [if_pos g]; exact tkY_word hr h0 hL
    by_cases q : syA N n c t = r
    · rw [if_pos q, if_pos ⟨h26, tkK_1.2 (e.1 q).1, (e.1 q).2⟩]
    · rw [if_neg q, if_neg (fun z => q (e.2 ⟨tkK_1.1 z.2.1, z.2.2⟩))]
  · rw [if_neg g] at hw3
    have q : ¬ syA N n c t = r := syA_1 h0 g
    rw [m_isWord hN (Nat.le_refl N) hw3.1 hw3.2.1 fu, if_neg q, hw3.2.2, if_neg (fun z => absurd z.2.1 (by decide))]
/-- a sign of the language -/
theorem p_sign {N n t r : Nat} {c : Nat → Int32} {μ ν : Mem} {p : Int32} (h : PG N n c t μ ν) (hr : r < 74) (h1 : txN.getD (syT.getD r 0) 0 = 1) (hL : tkL p = false) (hD : tkD p = false) (hp : txC (syT.getD r 0) 0 = p) :
    fX13_isSymbol 0 p ν = some (if syA N n c t = r then 1 else 0, ν) := by
  obtain ⟨hT, hC, h6, h7, h26, ⟨hw1, hw2, hw3⟩, hB⟩ := h
  have hN := hT.2.1
  unfold fX13_isSymbol
  simp only [jn_eq]
  rw [if_neg (fun z => z h26)]
  by_cases g : t < n
  · rw [if_pos g] at hw3
    have l := hT.2.2.1 t g
    have bb := hB _ l
    have rg := tx_rng (i := syT.getD r 0) (j := 0) (by omega)
    rw [hp] at rg
    have e : syA N n c t = r ↔ c (tkP c N t) = p := by
      unfold syA; rw [if_pos g, tkY_sign hr h1 (by rw [hp]; exact hL) (by rw [hp]; exact hD), hp]
    rw [hw3.2.2]
    by_cases k3 : nI (tkK c (tkP c N t)) = 3
    · rw [if_neg (fun z => z k3), hw3.1, ckI_nI (show tkP c N t < mil.getD 7 0 from (show tkP c N t < 1000 by omega)) (by decide), nI_clamp (n := tkP c N t) (by omega), bb.1]
      by_cases q : syA N n c t = r
      · rw [if_pos q, if_neg (fun z => z ((byte_eq bb.2 rg.1 rg.2).2 (e.1 q).symm).symm), ckZ_ok (Or.inr rfl)]
      · rw [if_neg q, if_pos (fun z => q (e.2 ((byte_eq bb.2 rg.1 rg.2).1 z.symm).symm)), ckZ_ok (Or.inl rfl)]
    · have q : ¬ syA N n c t = r := fun z => k3 (tkK_3.2 ⟨by rw [e.1 z, hL]; decide, by rw [e.1 z, hD]; decide⟩)
      rw [if_pos k3, if_neg q, ckZ_ok (Or.inl rfl)]
  · rw [if_neg g] at hw3
    rw [hw3.2.2, if_pos (show ¬ (0 : Int32) = 3 by decide), if_neg (syA_1 (by omega) g), ckZ_ok (Or.inl rfl)]
/-- both go to the next token -/
theorem p_next {N n t : Nat} {c : Nat → Int32} {μ ν : Mem} (h : PG N n c t μ ν) (ht : t < n) (fu : Nat) :
    ∃ ν', fX13_scan (fu + 1001) 0 ν = some ((), ν') ∧ PG N n c (t + 1) (wI μ 2 0 6 (nI (t + 1))) ν' ∧ FW ν ν' := by
  obtain ⟨hT, ⟨c1, c2, c3, c4, c5, c6⟩, h6, h7, h26, hw, hB⟩ := h
  obtain ⟨ν', s1, s2, s3⟩ := tw_next hT hB hw ht fu
  refine ⟨ν', s1, ⟨hT, ⟨(wI_o (by omega)).trans c1, fun q hq => ?_, (wI_o (by omega)).trans c3, (wI_o (by omega)).trans c4, c5, ?_⟩, wI_same, (wI_o (by omega)).trans h7, (s3.1 26 0 26 (by omega)).trans h26, s2, ?_⟩, s3⟩
  · obtain ⟨a1, a2, a3, a4⟩ := c2 q hq
    exact ⟨(wI_o (by omega)).trans a1, (wI_o (by omega)).trans a2, (wI_o (by omega)).trans a3, a4⟩
  · exact ⟨(funext fun k => wI_o (by omega)).trans c6.1, fun w => (wI_o (by omega)).trans (c6.2 ((wI_o (by omega)).symm.trans w))⟩
  · have e : ν'.1 28 7 = ν.1 28 7 := funext fun k => s3.1 28 7 k (by omega)
    rw [e]; exact hB
/-- both fail with the code k -/
theorem p_fail {N n t : Nat} {c : Nat → Int32} {μ ν : Mem} {k : Int32} (h : PG N n c t μ ν) (hk : k ≠ 0) : ∃ μ' ν', fX11_fail 0 k μ = some ((), μ') ∧ fX13_fail 0 k ν = some ((), ν') ∧ PB N n c μ' ν' ∧
    (∀ κ a q, ¬ (κ = 2 ∧ a = 0 ∧ (q = 6 ∨ q = 7 ∨ q = 8)) → μ'.1 κ a q = μ.1 κ a q) ∧ μ'.2 = μ.2 ∧ (∀ κ a q, ¬ (κ = 26 ∧ a = 0 ∧ (q = 26 ∨ q = 27)) → ν'.1 κ a q = ν.1 κ a q) ∧ ν'.2 = ν.2 := by
  obtain ⟨hT, hC, h6, h7, h26, hw, hB⟩ := h
  have hC' := hC
  obtain ⟨c1, c2, c3, c4, c5, c6⟩ := hC'
  have hn : n ≤ 1000 := Nat.le_trans hT.1 hT.2.1
  have fr : ∀ κ a q, ¬ (κ = 2 ∧ a = 0 ∧ (q = 6 ∨ q = 7 ∨ q = 8)) → (wI (wI (wI μ 2 0 7 k) 2 0 8 (μ.1 4 0 t)) 2 0 6 (nI n)).1 κ a q = μ.1 κ a q := fun κ a q z => by rw [wI_o (by omega), wI_o (by omega), wI_o (by omega)]
  have e24 : μ.1 4 0 t = ν.1 26 0 24 := by
    by_cases g : t < n
    · have := hw.2.2; rw [if_pos g] at this; rw [this.1, (c2 t g).1]
    · have := hw.2.2; rw [if_neg g] at this; rw [this.1, show t = n by have := hw.2.1; omega, c3]
  refine ⟨_, _, c_fail hn hC hw.2.1 h6 h7, m_fail, ⟨hT, ⟨(fr _ _ _ (by omega)).trans c1, fun q hq => ?_, (fr _ _ _ (by omega)).trans c3, (fr _ _ _ (by omega)).trans c4, c5, (funext fun q => fr _ _ _ (by omega)).trans c6.1, fun w => absurd w (by rw [wI_o (by omega), wI_o (by omega), wI_same]; exact hk)⟩, wI_same, ?_, ?_, ?_, t, tw_congr (fun q x y => ?_) hw⟩, fr, rfl, fun κ a q z => ?_, ?_⟩
  · obtain ⟨a1, a2, a3, a4⟩ := c2 q hq
    exact ⟨(fr _ _ _ (by omega)).trans a1, (fr _ _ _ (by omega)).trans a2, (fr _ _ _ (by omega)).trans a3, a4⟩
  · rw [wI_o (by omega), wI_o (by omega), wI_same]; exact hk
  · rw [if_pos h26, wI_o (by omega), wI_same, wI_o (by omega), wI_o (by omega), wI_same]
  · rw [if_pos h26, wI_same, wI_o (by omega), wI_same]; exact e24
  · rw [if_pos h26, wI_o (by omega), wI_o (by omega)]
  · rw [if_pos h26, wI_o (by omega), wI_o (by omega)]
  · rw [if_pos h26]; rfl
