/-! the model's rows: a row copied, x of its 700 numbers so far -/
def rwP (a r b s x : Nat) (μ : Mem) : Mem := (fun κ n k => if κ = 27 ∧ n = b ∧ 700 * s ≤ k ∧ k < 700 * s + x then μ.1 27 a (700 * r + (k - 700 * s)) else μ.1 κ n k, μ.2)
def rwL (a : Nat) : Nat := if a = 4 then 7000 else 700
theorem rw_0 {a r b s : Nat} {μ : Mem} : rwP a r b s 0 μ = μ := by
  refine Prod.ext (funext fun κ => funext fun n => funext fun k => ?_) rfl
  exact if_neg (by omega)
theorem rw_step {a r b s x : Nat} {μ : Mem} (hd : a ≠ b ∨ r ≠ s) (hx : x < 700) : wI (rwP a r b s x μ) 27 b (700 * s + x) ((rwP a r b s x μ).1 27 a (700 * r + x)) = rwP a r b s (x + 1) μ := by
  refine Prod.ext (funext fun κ => funext fun n => funext fun k => ?_) rfl
  show (if κ = 27 ∧ n = b ∧ k = 700 * s + x then (if 27 = 27 ∧ a = b ∧ 700 * s ≤ 700 * r + x ∧ 700 * r + x < 700 * s + x then _ else _) else (if κ = 27 ∧ n = b ∧ 700 * s ≤ k ∧ k < 700 * s + x then _ else _)) = (if κ = 27 ∧ n = b ∧ 700 * s ≤ k ∧ k < 700 * s + (x + 1) then _ else _)
  by_cases h1 : κ = 27 ∧ n = b ∧ k = 700 * s + x
  · obtain ⟨rfl, rfl, rfl⟩ := h1
    rw [if_pos ⟨rfl, rfl, rfl⟩, if_neg (by omega), if_pos ⟨rfl, rfl, by omega, by omega⟩, show 700 * s + x - 700 * s = x by omega]
  · rw [if_neg h1]
    by_cases h2 : κ = 27 ∧ n = b ∧ 700 * s ≤ k ∧ k < 700 * s + x
    · rw [if_pos h2, if_pos ⟨h2.1, h2.2.1, h2.2.2.1, by omega⟩]
    · rw [if_neg h2, if_neg (by omega)]
theorem m_copy {a r b s : Nat} {μ : Mem} (hd : a ≠ b ∨ r ≠ s) (ha : 700 * r + 700 ≤ rwL a) (hb : 700 * s + 700 ≤ rwL b) (fu : Nat) : fX13_copy (fu + 701) a (nI r) b (nI s) μ = some ((), rwP a r b s 700 μ) := by
  unfold fX13_copy
  rw [jn_eq]
  have l7 : ∀ a, rwL a ≤ 7000 := fun a => by unfold rwL; split <;> omega
  have la := l7 a
  have lb := l7 b
  have ha' : 700 * r + 700 ≤ (if a = 4 then 7000 else 700) := ha
  have hb' : 700 * s + 700 ≤ (if b = 4 then 7000 else 700) := hb
  have la' : (if a = 4 then 7000 else 700) ≤ 7000 := la
  have lb' : (if b = 4 then 7000 else 700) ≤ 7000 := lb
  conv => lhs; rw [← rw_0 (a := a) (r := r) (b := b) (s := s) (μ := μ)]
  refine lp_ind (P := fun n (f : Mem → Int32 → Option (Unit × Mem)) => ∀ x : Nat, x + n = 700 → f (rwP a r b s x μ) (nI x) = some ((), rwP a r b s 700 μ)) (fun f x hx => ?_) (fun n f ih x hx => ?_) 700 fu 0 rfl
  · have : x = 700 := by omega
    subst this
    exact if_pos (by decide)
  · simp only [lit32, nm_eq, pk_mul, nI_add]
    rw [if_neg (nI_ge (b := 700) (by omega) (by decide)), ckI_nI (by omega) (by omega), ckI_nI (by omega) (by omega), nI_clamp (by omega), nI_clamp (by omega), rw_step hd (by omega)]
    exact ih (x + 1) (by omega)
