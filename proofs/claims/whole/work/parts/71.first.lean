/-- the words of an engine's queue (base B) moved down by one, x so far -/
def shQ (e B x : Nat) (ν : Mem) : Mem := (fun κ n k => if κ = 27 ∧ n = 0 ∧ 560 + 35 * e + B ≤ k ∧ k < 560 + 35 * e + B + x then ν.1 27 0 (k + 1) else ν.1 κ n k, ν.2)
theorem shQ_0 {e B : Nat} {ν : Mem} : shQ e B 0 ν = ν := by
  refine Prod.ext (funext fun κ => funext fun n => funext fun k => ?_) rfl
  exact if_neg (by omega)
theorem shQ_step {e B x : Nat} {ν : Mem} : wI (shQ e B x ν) 27 0 (560 + 35 * e + (B + x)) ((shQ e B x ν).1 27 0 (560 + 35 * e + (B + x + 1))) = shQ e B (x + 1) ν := by
  refine Prod.ext (funext fun κ => funext fun n => funext fun k => ?_) rfl
  show (if κ = 27 ∧ n = 0 ∧ k = 560 + 35 * e + (B + x) then (if 27 = 27 ∧ 0 = 0 ∧ 560 + 35 * e + B ≤ 560 + 35 * e + (B + x + 1) ∧ 560 + 35 * e + (B + x + 1) < 560 + 35 * e + B + x then _ else _) else (if κ = 27 ∧ n = 0 ∧ 560 + 35 * e + B ≤ k ∧ k < 560 + 35 * e + B + x then _ else _)) = (if κ = 27 ∧ n = 0 ∧ 560 + 35 * e + B ≤ k ∧ k < 560 + 35 * e + B + (x + 1) then _ else _)
  by_cases h1 : κ = 27 ∧ n = 0 ∧ k = 560 + 35 * e + (B + x)
  · obtain ⟨rfl, rfl, rfl⟩ := h1
    rw [if_pos ⟨rfl, rfl, rfl⟩, if_neg (by omega), if_pos ⟨rfl, rfl, by omega, by omega⟩]
    rfl
  · rw [if_neg h1]
    by_cases h2 : κ = 27 ∧ n = 0 ∧ 560 + 35 * e + B ≤ k ∧ k < 560 + 35 * e + B + x
    · rw [if_pos h2, if_pos ⟨h2.1, h2.2.1, h2.2.2.1, by omega⟩]
    · rw [if_neg h2, if_neg (by omega)]
