/-! WHAT THE MODEL KEEPS: the fields of its properties (28 14) -/
def K8 (F : Nat → Int32) {α : Type} (o : Option (α × Mem)) : Prop := ∀ r μ', o = some (r, μ') → μ'.1 28 14 = F
theorem k8_none {F : Nat → Int32} {α : Type} : K8 F (none : Option (α × Mem)) := fun _ _ h => nomatch h
theorem k8_some {F : Nat → Int32} {α : Type} {r : α} {μ : Mem} (h : μ.1 28 14 = F) : K8 F (some (r, μ)) := fun r' μ' e => by
  obtain ⟨-, rfl⟩ := Prod.mk.inj (Option.some.inj e)
  exact h
theorem k8_bnd {F : Nat → Int32} {α β : Type} {a : Option (α × Mem)} {f : α → Mem → Option (β × Mem)} (h : K8 F a) (g : ∀ x μ, μ.1 28 14 = F → K8 F (f x μ)) : K8 F (bnd a f) := by
  cases a with
  | none => exact k8_none
  | some r => rw [show (some r : Option (α × Mem)) = some (r.1, r.2) from rfl, bnd_some]; exact g _ _ (h _ _ rfl)
theorem k8_ite {F : Nat → Int32} {α : Type} {c : Prop} [Decidable c] {a b : Option (α × Mem)} (h : K8 F a) (g : K8 F b) : K8 F (if c then a else b) := by
  split
  · exact h
  · exact g
theorem k8_wI {F : Nat → Int32} {μ : Mem} {κ n k : Nat} {v : Int32} (h : μ.1 28 14 = F) (g : ¬ (κ = 28 ∧ n = 14)) : (wI μ κ n k v).1 28 14 = F := by
  rw [← h]
  exact funext fun q => wI_o (by omega)
theorem k8_lp0 {F : Nat → Int32} {α : Type} {b : (Mem → Option (α × Mem)) → Mem → Option (α × Mem)} (h : ∀ f : Mem → Option (α × Mem), (∀ μ, μ.1 28 14 = F → K8 F (f μ)) → ∀ μ, μ.1 28 14 = F → K8 F (b f μ)) : ∀ fu μ, μ.1 28 14 = F → K8 F (lp (fun _ => none) fu b μ) := by
  intro fu
  induction fu with
  | zero => intro μ _; exact k8_none
  | succ fu ih => intro μ hm; rw [lp_succ]; exact h _ ih μ hm
theorem k8_lp1 {F : Nat → Int32} {α A : Type} {b : (Mem → A → Option (α × Mem)) → Mem → A → Option (α × Mem)} (h : ∀ f : Mem → A → Option (α × Mem), (∀ μ a, μ.1 28 14 = F → K8 F (f μ a)) → ∀ μ a, μ.1 28 14 = F → K8 F (b f μ a)) : ∀ fu μ a, μ.1 28 14 = F → K8 F (lp (fun _ _ => none) fu b μ a) := by
  intro fu
  induction fu with
  | zero => intro μ a _; exact k8_none
  | succ fu ih => intro μ a hm; rw [lp_succ]; exact h _ ih μ a hm
