/-! THE EASY QUESTIONS IN PAIRS. A question changes nothing but the model's thrown number -/
def Ans (x : Nat ⊕ Int32) (y t : Int32) : Prop := match x with
  | .inl k => t = nI k
  | .inr v => t = 0 ∧ y = v
/-- class and model answer alike, and but for thrown all stays -/
def Ask (p : Nat) (μ : Mem) (fc : Option (RX Int32)) (fr : Option (Int32 × Mem)) : Prop :=
  ∃ x y t, fc = some (x, μ) ∧ fr = some (y, wI μ 26 0 6 t) ∧ Ans x y t ∧ Rel p (wI μ 26 0 6 t)
/-- as Ask, where the class can't throw -/
def AskN (p : Nat) (μ : Mem) (fc fr : Option (Int32 × Mem)) : Prop :=
  ∃ x, fc = some (x, μ) ∧ fr = some (x, wI μ 26 0 6 0) ∧ Rel p (wI μ 26 0 6 0)
theorem wI_wI {μ : Mem} {κ n k : Nat} {v w : Int32} : wI (wI μ κ n k v) κ n k w = wI μ κ n k w := by
  refine Prod.ext (funext fun a => funext fun b => funext fun c => ?_) rfl
  show (if _ then w else if _ then v else _) = (if _ then w else _)
  by_cases h : a = κ ∧ b = n ∧ c = k
  · rw [if_pos h, if_pos h]
  · rw [if_neg h, if_neg h, if_neg h]
/-- a number below n, or not -/
theorem ix_cases (x : Int32) {n : Nat} (hn : n < 2 ^ 31) : (x < 0 ∨ nI n ≤ x) ∨ ∃ j : Nat, j < n ∧ x = nI j := by
  rcases pk_ix x hn with h | h | h
  · exact Or.inl (Or.inl h)
  · exact Or.inl (Or.inr h)
  · exact Or.inr h
theorem bad_pin {μ : Mem} {x : Int32} (h : x < 0 ∨ nI 16 ≤ x) : fX12_checkPin x μ = some (.inl 1, μ) := c_checkPin.trans (if_pos h)
theorem ok_lt {j n : Nat} (h : j < n) (hn : n < 2 ^ 31) : ¬ (nI j < 0 ∨ nI n ≤ nI j) := fun q => q.elim (nI_pos (by omega)) (nI_ge h hn)
theorem ok_pin {μ : Mem} {q : Nat} (h : q < 16) : fX12_checkPin (nI q) μ = some (.inr (), μ) := c_checkPin.trans (if_neg (ok_lt h (by decide)))
theorem in_ok {j n : Nat} (h : j ≤ n) (hn : n < 2 ^ 31) : (0 : Int32) ≤ nI j ∧ nI j ≤ nI n := ⟨nI_pos' (by omega), nI_le h hn⟩
theorem in_bad {x : Int32} {n : Nat} (hn : n + 1 < 2 ^ 31) (h : x < 0 ∨ nI (n + 1) ≤ x) : ¬ ((0 : Int32) ≤ x ∧ x ≤ nI n) := by
  rintro ⟨h0, h1⟩
  rw [Int32.le_iff_toInt_le] at h0 h1
  rw [nI_toInt (by omega)] at h1
  rcases h with h | h
  · rw [Int32.lt_iff_toInt_lt] at h
    omega
  · rw [Int32.le_iff_toInt_le, nI_toInt hn] at h
    omega
theorem r_bad {μ : Mem} {x : Int32} {n : Nat} (hn : n + 1 < 2 ^ 31) (h : x < 0 ∨ nI (n + 1) ≤ x) : fX13_inRange x 0 (nI n) μ = some (0, μ) := r_inRange.trans (by rw [if_neg (in_bad hn h)])
theorem r_ok {μ : Mem} {j n : Nat} (h : j ≤ n) (hn : n < 2 ^ 31) : fX13_inRange (nI j) 0 (nI n) μ = some (1, μ) := r_inRange.trans (by rw [if_pos (in_ok h hn)])
theorem m_isPin_bad {μ : Mem} {x : Int32} (h : x < 0 ∨ nI 16 ≤ x) : fX13_isPin x μ = some (0, μ) := by
  unfold fX13_isPin
  rw [show (15 : Int32) = nI 15 from rfl, r_bad (by decide) h, bnd_some]
  exact ckZ_ok (Or.inl rfl)
theorem m_isPin_ok {μ : Mem} {q : Nat} (h : q < 16) : fX13_isPin (nI q) μ = some (1, μ) := by
  unfold fX13_isPin
  rw [show (15 : Int32) = nI 15 from rfl, r_ok (by omega) (by decide), bnd_some]
  exact ckZ_ok (Or.inr rfl)
theorem m_raise {μ : Mem} {v : Int32} : fX13_raise 0 v μ = some (0, wI μ 26 0 6 v) := rfl
theorem nn0 : ¬ ¬ (0 : Int32) = 0 := fun q => q rfl
theorem ne10 : ¬ (1 : Int32) = 0 := by decide
theorem m_tellPin_bad {μ : Mem} {x f : Int32} (h : x < 0 ∨ nI 16 ≤ x) : fX13_tellPin 0 x f μ = some (0, wI μ 26 0 6 1) := by
  unfold fX13_tellPin
  rw [nm_eq, m_isPin_bad h, bnd_some, if_neg nn0, m_raise, bnd_some, wI_wI]
theorem m_tellPin_ok {μ : Mem} {q f : Nat} (h : q < 16) (hf : f < 6) : fX13_tellPin 0 (nI q) (nI f) μ = some (tN μ (4 + 6 * q + f), wI μ 26 0 6 0) := by
  unfold fX13_tellPin
  rw [nm_eq, m_isPin_ok h, bnd_some, if_pos ne10, r_ofPin (by omega), bnd_some]
  rfl
/-! what Rel says of the machine that is now -/
theorem rel_pin {p : Nat} {μ : Mem} (h : Rel p μ) {q : Nat} (hq : q < 16) : relPin μ 0 q (fun k => tN μ (4 + 6 * q + k)) := h.2.2.1.2.2.1 q hq
theorem rel_flag {p : Nat} {μ : Mem} (h : Rel p μ) {f : Nat} (hf : f < 8) : tN μ (100 + f) = b2 (bt (μ.1 12 0 4) f) := h.2.2.1.2.2.2.1 f hf
theorem rel_memory {p : Nat} {μ : Mem} (h : Rel p μ) {a : Nat} (ha : a < 16) : tN μ (108 + a) = μ.1 13 0 a := h.2.2.1.2.2.2.2.1 a ha
theorem rel_port {p : Nat} {μ : Mem} (h : Rel p μ) : tN μ 2 = μ.1 12 0 5 := h.2.2.1.2.1.1
theorem rel_clock {p : Nat} {μ : Mem} (h : Rel p μ) : tN μ 1 = μ.1 12 0 0 := by
  obtain ⟨c, _, h1, h2, _⟩ := h.2.2.1.1
  exact h1.trans h2.symm
theorem rel_count {p : Nat} {μ : Mem} (h : Rel p μ) : tN μ 0 = μ.1 5 p 0 := by
  obtain ⟨c, _, h1, h2, _⟩ := h.2.1
  exact h1.trans h2.symm
/-! promises 5, 7, 13, 4, 42 -/
theorem ask_clock {p : Nat} {μ : Mem} (h : Rel p μ) : AskN p μ (fX12_clock 0 μ) (fX13_clock 0 μ) :=
  ⟨μ.1 12 0 0, rfl, m_clock.trans (by rw [show μ.1 27 0 1 = _ from rel_clock h]), rel_thrown h⟩
theorem ask_portOwner {p : Nat} {μ : Mem} (h : Rel p μ) : AskN p μ (fX12_portOwner 0 μ) (fX13_portOwner 0 μ) := by
  refine ⟨μ.1 12 0 5, rfl, ?_, rel_thrown h⟩
  rw [← rel_port h]
  simp only [fX13_portOwner, lit32, nm_eq]
  rw [ckI_nI (by decide) (by decide)]
  rfl
theorem ask_instructionCount {p : Nat} {μ : Mem} (h : Rel p μ) : AskN p μ (fX12_instructionCount 0 μ) (fX13_instructionCount 0 μ) := by
  refine ⟨μ.1 5 p 0, ?_, ?_, rel_thrown h⟩
  · unfold fX12_instructionCount
    rw [nm_eq, h.1.2.1, ckB_ok h.1.1]
  · rw [← rel_count h]
    simp only [fX13_instructionCount, lit32, nm_eq]
    rw [ckI_nI (by decide) (by decide)]
    rfl
theorem ask_errorPosition {p : Nat} {μ : Mem} (h : Rel p μ) : AskN p μ (fX12_errorPosition 0 μ) (fX13_errorPosition 0 μ) :=
  ⟨μ.1 0 0 2, rfl, by rw [h.2.2.2.2.1]; rfl, rel_thrown h⟩
/-! promises 8 to 12, 25, 26 -/
theorem ask_latch {p : Nat} {μ : Mem} (h : Rel p μ) (x : Int32) : Ask p μ (fX12_latch 0 x μ) (fX13_latch 0 x μ) := by
  unfold fX12_latch fX13_latch
  rcases ix_cases x (n := 16) (by decide) with hx | ⟨q, hq, rfl⟩
  · rw [bad_pin hx, bndX_inl, m_tellPin_bad hx, bnd_some]
    exact ⟨_, _, _, rfl, rfl, rfl, rel_thrown h⟩
  · rw [ok_pin hq, bndX_inr, show (0 : Int32) = nI 0 from rfl, m_tellPin_ok hq (by decide), bnd_some, bit_at (by omega)]
    exact ⟨_, _, _, rfl, rfl, ⟨rfl, (rel_pin h hq).1⟩, rel_thrown h⟩
theorem ask_edges {p : Nat} {μ : Mem} (h : Rel p μ) (x : Int32) : Ask p μ (fX12_edges 0 x μ) (fX13_edges 0 x μ) := by
  unfold fX12_edges fX13_edges
  rcases ix_cases x (n := 16) (by decide) with hx | ⟨q, hq, rfl⟩
  · rw [bad_pin hx, bndX_inl, m_tellPin_bad hx, bnd_some]
    exact ⟨_, _, _, rfl, rfl, rfl, rel_thrown h⟩
  · rw [ok_pin hq, bndX_inr, show (4 : Int32) = nI 4 from rfl, m_tellPin_ok hq (by decide), bnd_some, ckI_nI hq (by decide), nI_clamp (by omega)]
    exact ⟨_, _, _, rfl, rfl, ⟨rfl, (rel_pin h hq).2.2.2.2.1⟩, rel_thrown h⟩
theorem ask_flag {p : Nat} {μ : Mem} (h : Rel p μ) (x : Int32) : Ask p μ (fX12_flag 0 x μ) (fX13_flag 0 x μ) := by
  unfold fX12_flag fX13_flag
  simp only [jn_eq, nm_eq]
  rcases ix_cases x (n := 8) (by decide) with hx | ⟨q, hq, rfl⟩
  · rw [show (7 : Int32) = nI 7 from rfl, r_bad (by decide) hx, bnd_some, if_neg nn0, m_raise, bnd_some, wI_wI]
    refine ⟨.inl 1, _, _, ?_, rfl, rfl, rel_thrown h⟩
    by_cases h1 : x < 0
    · rw [if_pos h1]
    · rw [if_neg h1]
      have h2 := hx.resolve_left h1
      rw [if_neg (show ¬ x < 8 from Int32.not_lt.2 h2)]
  · rw [show (7 : Int32) = nI 7 from rfl, r_ok (by omega) (by decide), bnd_some, if_pos ne10, if_neg (nI_pos (by omega)), show (8 : Int32) = nI 8 from rfl, if_pos (nI_lt hq (by decide)), bit_at (by omega), show (100 : Int32) = nI 100 from rfl, nI_add, ckI_nI (by simp; omega) (by decide), nI_clamp (by omega)]
    exact ⟨_, _, _, rfl, rfl, ⟨rfl, rel_flag h hq⟩, rel_thrown h⟩
theorem ask_memory {p : Nat} {μ : Mem} (h : Rel p μ) (x : Int32) : Ask p μ (fX12_memory 0 x μ) (fX13_memory 0 x μ) := by
  unfold fX12_memory fX13_memory fX12_checkMemory
  simp only [jn_eq, nm_eq]
  rcases ix_cases x (n := 16) (by decide) with hx | ⟨q, hq, rfl⟩
  · rw [show (15 : Int32) = nI 15 from rfl, r_bad (by decide) hx, bnd_some, if_neg nn0, m_raise, bnd_some, wI_wI]
    refine ⟨.inl 1, _, _, ?_, rfl, rfl, rel_thrown h⟩
    by_cases h1 : x < 0
    · rw [if_pos h1, bndX_inl]
    · rw [if_neg h1]
      have h2 := hx.resolve_left h1
      rw [if_neg (show ¬ x < 16 from Int32.not_lt.2 h2), bndX_inl]
  · rw [show (15 : Int32) = nI 15 from rfl, r_ok (by omega) (by decide), bnd_some, if_pos ne10, if_neg (nI_pos (by omega)), show (16 : Int32) = nI 16 from rfl, if_pos (nI_lt hq (by decide)), bndX_inr, ckI_nI hq (by decide), nI_clamp (by omega), show (108 : Int32) = nI 108 from rfl, nI_add, ckI_nI (by simp; omega) (by decide), nI_clamp (by omega)]
    exact ⟨_, _, _, rfl, rfl, ⟨rfl, rel_memory h hq⟩, rel_thrown h⟩
theorem b2_c (b : Bool) : b2 b = 0 ∨ b2 b = 1 := by cases b <;> decide
theorem b2_if (b : Bool) {α : Type} {x y : α} : (if ¬ b2 b = 1 then x else y) = (if b then y else x) := by cases b <;> rfl
theorem ask_isOutput {p : Nat} {μ : Mem} (h : Rel p μ) (x : Int32) : Ask p μ (fX12_isOutput 0 x μ) (fX13_isOutput 0 x μ) := by
  unfold fX12_isOutput fX13_isOutput
  simp only [jn_eq]
  rcases ix_cases x (n := 16) (by decide) with hx | ⟨q, hq, rfl⟩
  · rw [bad_pin hx, bndX_inl, m_tellPin_bad hx, bnd_some]
    exact ⟨_, _, _, rfl, if_pos (by decide), rfl, rel_thrown h⟩
  · rw [ok_pin hq, bndX_inr]
    have e : fX13_tellPin 0 (nI q) 1 μ = _ := m_tellPin_ok (f := 1) hq (by decide)
    rw [e, bnd_some, bit_at (by omega), show tN μ (4 + 6 * q + 1) = _ from (rel_pin h hq).2.1]
    refine ⟨.inr (b2 (bt (μ.1 12 0 2) q)), b2 (bt (μ.1 12 0 2) q), 0, ?_, ?_, ⟨rfl, rfl⟩, rel_thrown h⟩
    · cases bt (μ.1 12 0 2) q <;> rfl
    · cases bt (μ.1 12 0 2) q <;> rfl
