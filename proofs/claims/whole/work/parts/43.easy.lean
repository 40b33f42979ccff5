/-! the easy questions, one by one: what the class answers, what the model answers -/
theorem c_clock {μ : Mem} : fX12_clock 0 μ = some (μ.1 12 0 0, μ) := rfl
theorem m_clock {μ : Mem} : fX13_clock 0 μ = some (μ.1 27 0 1, wI μ 26 0 6 0) := by
  simp only [fX13_clock, lit32, nm_eq]
  rw [ckI_nI (by decide) (by decide)]
  rfl
theorem c_levels {μ : Mem} {i : Nat} : fX3_levels i μ = some (((μ.1 12 i 1 &&& μ.1 12 i 2) ||| (μ.1 12 i 3 &&& (μ.1 12 i 2 ^^^ (-1)))), μ) := rfl
/-- the level of a pin -/
def lvl (μ : Mem) (i q : Nat) : Bool := if bt (μ.1 12 i 2) q then bt (μ.1 12 i 1) q else bt (μ.1 12 i 3) q
theorem bt_lvl {μ : Mem} {i q : Nat} (h : q < 32) : bt (((μ.1 12 i 1 &&& μ.1 12 i 2) ||| (μ.1 12 i 3 &&& (μ.1 12 i 2 ^^^ (-1))))) q = lvl μ i q := by
  rw [bt_or, bt_and, bt_and, bt_not h]
  unfold lvl
  cases bt (μ.1 12 i 1) q <;> cases bt (μ.1 12 i 2) q <;> cases bt (μ.1 12 i 3) q <;> rfl
theorem c_checkPin {μ : Mem} {x : Int32} : fX12_checkPin x μ = (if x < 0 ∨ 16 ≤ x then some (.inl 1, μ) else some (.inr (), μ)) := by
  unfold fX12_checkPin
  simp only [jn_eq]
  by_cases h1 : x < 0
  · rw [if_pos h1, if_pos (Or.inl h1)]
  · rw [if_neg h1]
    by_cases h2 : x < 16
    · rw [if_pos h2, if_neg (fun q => q.elim h1 (fun q => absurd h2 (by simpa using q)))]
    · rw [if_neg h2, if_pos (Or.inr (by simpa using h2))]
