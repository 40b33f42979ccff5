/-! A COPY OF A MACHINE. What has been copied so far: the cells S, each from τ -/
def cpS (τ : Nat → Nat → Nat) (S : Nat → Nat → Nat → Bool) (μ : Mem) : Mem := (fun a b c => if S a b c then μ.1 a (τ a b) c else μ.1 a b c, μ.2)
def adI (S : Nat → Nat → Nat → Bool) (κ n k : Nat) : Nat → Nat → Nat → Bool := fun a b c => S a b c || (decide (a = κ) && decide (b = n) && decide (c = k))
def adC (S : Nat → Nat → Nat → Bool) (κ n len : Nat) : Nat → Nat → Nat → Bool := fun a b c => S a b c || (decide (a = κ) && decide (b = n) && decide (c < len))
theorem cp_0 {τ : Nat → Nat → Nat} {μ : Mem} : cpS τ (fun _ _ _ => false) μ = μ := rfl
theorem cp_wI {τ : Nat → Nat → Nat} {S : Nat → Nat → Nat → Bool} {μ : Mem} {κ n n1 k : Nat} (h : S κ n1 k = false) (ht : τ κ n = n1) : wI (cpS τ S μ) κ n k ((cpS τ S μ).1 κ n1 k) = cpS τ (adI S κ n k) μ := by
  refine Prod.ext (funext fun a => funext fun b => funext fun c => ?_) rfl
  show (if a = κ ∧ b = n ∧ c = k then (if S κ n1 k then _ else _) else (if S a b c then _ else _)) = (if adI S κ n k a b c then _ else _)
  by_cases hq : a = κ ∧ b = n ∧ c = k
  · obtain ⟨rfl, rfl, rfl⟩ := hq
    rw [if_pos ⟨rfl, rfl, rfl⟩, h, if_pos (show adI S a b c a b c = true by simp [adI]), ht]
    rfl
  · rw [if_neg hq, show adI S κ n k a b c = S a b c by
      unfold adI
      by_cases h1 : a = κ <;> by_cases h2 : b = n <;> by_cases h3 : c = k <;> simp_all]
theorem ckC_ok {α : Type} {n : Nat} {o : Option α} (h : n < 2 ^ 31) : ckC 0 0 (nI n) n n o = o := by
  unfold ckC
  refine if_pos ⟨by decide, by decide, nI_pos h, ?_, ?_⟩ <;> rw [nI_clamp h] <;> exact Nat.le_of_eq (Nat.zero_add n)
theorem cp_wC {τ : Nat → Nat → Nat} {S : Nat → Nat → Nat → Bool} {μ : Mem} {κ n n1 len : Nat} (hl : len < 2 ^ 31) (h : ∀ k, S κ n1 k = false) (ht : τ κ n = n1) : wC (cpS τ S μ) κ n1 0 κ n 0 (nI len) = cpS τ (adC S κ n len) μ := by
  refine Prod.ext (funext fun a => funext fun b => funext fun c => ?_) rfl
  show (if a = κ ∧ b = n then va_cpy _ _ (0 : Int32).toNatClampNeg (0 : Int32).toNatClampNeg (nI len).toNatClampNeg c else (if S a b c then _ else _)) = (if adC S κ n len a b c then _ else _)
  rw [nI_clamp hl, show (0 : Int32).toNatClampNeg = 0 from rfl]
  by_cases hq : a = κ ∧ b = n
  · obtain ⟨rfl, rfl⟩ := hq
    rw [if_pos ⟨rfl, rfl⟩]
    by_cases hc : c < len
    · rw [pk_cpy_in (by omega) (by omega), if_pos (show adC S a b len a b c = true by simp [adC, hc]), ht]
      show (if S a n1 (0 + (c - 0)) then _ else _) = _
      rw [h, show 0 + (c - 0) = c by omega]
      rfl
    · rw [pk_cpy_out (by omega), show adC S a b len a b c = S a b c by simp [adC, hc]]
      rfl
  · rw [if_neg hq, show adC S κ n len a b c = S a b c by
      unfold adC
      by_cases h1 : a = κ <;> by_cases h2 : b = n <;> simp_all]
