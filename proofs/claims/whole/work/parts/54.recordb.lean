/-- the history moved down by a row, x rows so far -/
def shP (x : Nat) (μ : Mem) : Mem := (fun κ n k => if κ = 27 ∧ n = 4 ∧ k < 700 * x then μ.1 27 4 (k + 700) else μ.1 κ n k, μ.2)
theorem sh_0 {μ : Mem} : shP 0 μ = μ := by
  refine Prod.ext (funext fun κ => funext fun n => funext fun k => ?_) rfl
  exact if_neg (by omega)
theorem sh_step {x : Nat} {μ : Mem} : rwP 4 (x + 1) 4 x 700 (shP x μ) = shP (x + 1) μ := by
  refine Prod.ext (funext fun κ => funext fun n => funext fun k => ?_) rfl
  show (if κ = 27 ∧ n = 4 ∧ 700 * x ≤ k ∧ k < 700 * x + 700 then (if 27 = 27 ∧ 4 = 4 ∧ 700 * (x + 1) + (k - 700 * x) < 700 * x then _ else _) else (if κ = 27 ∧ n = 4 ∧ k < 700 * x then _ else _)) = (if κ = 27 ∧ n = 4 ∧ k < 700 * (x + 1) then _ else _)
  by_cases h1 : κ = 27 ∧ n = 4 ∧ 700 * x ≤ k ∧ k < 700 * x + 700
  · rw [if_pos h1, if_neg (by omega), if_pos ⟨h1.1, h1.2.1, by omega⟩, show 700 * (x + 1) + (k - 700 * x) = k + 700 by omega]
  · rw [if_neg h1]
    by_cases h2 : κ = 27 ∧ n = 4 ∧ k < 700 * x
    · rw [if_pos h2, if_pos ⟨h2.1, h2.2.1, by omega⟩]
    · rw [if_neg h2, if_neg (by omega)]
def recM (u : Nat) (ν : Mem) : Mem := if u = 10 then wI (rwP 0 0 4 9 700 (wI (shP 9 ν) 26 0 5 (nI 9))) 26 0 5 (nI 10) else wI (rwP 0 0 4 u 700 ν) 26 0 5 (nI (u + 1))
theorem m_record {ν : Mem} {u : Nat} (hu : ν.1 26 0 5 = nI u) (h10 : u ≤ 10) (fu : Nat) : fX13_record (fu + 701) 0 ν = some ((), recM u ν) := by
  have fin : ∀ {ν : Mem} {u : Nat}, ν.1 26 0 5 = nI u → u < 10 → (bnd (fX13_copy (fu + 701) 0 (0 : Int32) 4 (ν.1 26 0 5) ν) fun _ μ2 => nm (wI μ2 26 0 5 ((μ2.1 26 0 5) + (1 : Int32))) fun μ3 => some ((), μ3)) = some ((), wI (rwP 0 0 4 u 700 ν) 26 0 5 (nI (u + 1))) := by
    intro ν u hu h
    have e : fX13_copy (fu + 701) 0 (0 : Int32) 4 (nI u) ν = _ := m_copy (a := 0) (r := 0) (b := 4) (s := u) (Or.inl (by decide)) (by decide) (show 700 * u + 700 ≤ 7000 by omega) fu
    rw [hu, e, bnd_some, nm_eq, show (rwP 0 0 4 u 700 ν).1 26 0 5 = nI u from hu, nI_1]
  unfold fX13_record
  rw [jn_eq, hu]
  by_cases h : u = 10
  · subst h
    rw [if_neg (fun q => q rfl), jn_eq]
    unfold recM
    rw [if_pos rfl]
    conv => lhs; rw [← sh_0 (μ := ν)]
    refine lp_ind (P := fun n (f : Mem → Int32 → Option (Unit × Mem)) => ∀ x : Nat, x + n = 9 → f (shP x ν) (nI (x + 1)) = some ((), wI (rwP 0 0 4 9 700 (wI (shP 9 ν) 26 0 5 (nI 9))) 26 0 5 (nI 10))) (fun f x hx => ?_) (fun n f ih x hx => ?_) 9 (fu + 691) 0 rfl
    · have : x = 9 := by omega
      subst this
      rw [if_pos (by decide), nm_eq, show (shP 9 ν).1 26 0 5 = nI 10 from hu, show nI 10 - 1 = nI 9 from rfl]
      exact fin (ν := wI (shP 9 ν) 26 0 5 (nI 9)) (u := 9) rfl (by decide)
    · rw [if_neg (show ¬ (10 : Int32) ≤ nI (x + 1) from nI_ge (b := 10) (by omega) (by decide)), nI_pred, m_copy (a := 4) (r := x + 1) (b := 4) (s := x) (Or.inr (by omega)) (show 700 * (x + 1) + 700 ≤ 7000 by omega) (show 700 * x + 700 ≤ 7000 by omega) fu, bnd_some, nm_eq, nI_1, sh_step]
      exact ih (x + 1) (by omega)
  · have h1 : ¬ nI u = (10 : Int32) := fun q => h ((nI_eq (a := u) (b := 10) (by omega) (by decide)).mp q)
    rw [if_pos h1]
    unfold recM
    rw [if_neg h]
    exact fin hu (by omega)
