/-! the joining: the class's call, then the model's, on one memory -/
def cutC (μ : Mem) : Mem := (fun κ n k => if κ < 26 then μ.1 κ n k else 0, fun κ n k => if κ < 26 then μ.2.1 κ n k else 0, fun _ _ _ => 0)
def cutM (ν : Mem) : Mem := (fun κ n k => if 26 ≤ κ ∧ κ < 31 then ν.1 κ n k else 0, fun _ _ _ => 0, fun _ _ _ => 0)
theorem cutC_eq {μ μ' : Mem} (h1 : ∀ κ n k, κ < 26 → μ'.1 κ n k = μ.1 κ n k) (h2 : ∀ κ n k, κ < 26 → μ'.2.1 κ n k = μ.2.1 κ n k) : cutC μ' = cutC μ := by
  unfold cutC
  refine Prod.ext (funext fun κ => funext fun n => funext fun k => ?_) (Prod.ext (funext fun κ => funext fun n => funext fun k => ?_) rfl)
  · show (if κ < 26 then _ else _) = (if κ < 26 then _ else _)
    by_cases h : κ < 26
    · rw [if_pos h, if_pos h, h1 _ _ _ h]
    · rw [if_neg h, if_neg h]
  · show (if κ < 26 then _ else _) = (if κ < 26 then _ else _)
    by_cases h : κ < 26
    · rw [if_pos h, if_pos h, h2 _ _ _ h]
    · rw [if_neg h, if_neg h]
theorem cutM_eq {ν ν' : Mem} (h1 : KR ν ν') : cutM ν' = cutM ν := by
  unfold cutM
  refine Prod.ext (funext fun κ => funext fun n => funext fun k => ?_) rfl
  show (if 26 ≤ κ ∧ κ < 31 then _ else _) = (if 26 ≤ κ ∧ κ < 31 then _ else _)
  by_cases h : 26 ≤ κ ∧ κ < 31
  · rw [if_pos h, if_pos h, h1.1 _ _ _ h.1 (by omega)]
  · rw [if_neg h, if_neg h]
theorem rel2_cut {p : Nat} {μ ν : Mem} : Rel2 p μ ν = Rel2 p (cutC μ) (cutM ν) := rfl
theorem rel2_eq {p : Nat} {μ μ' ν ν' : Mem} (hC : KC μ μ') (hR : KR ν ν') (h : Rel2 p μ ν) : Rel2 p μ' ν' := by
  rw [rel2_cut] at h ⊢
  rw [cutC_eq (fun κ n k h => hC.1 κ n k (Or.inl h)) (fun κ n k h => hC.2 κ n k (Or.inl h)), cutM_eq hR]
  exact h
theorem kc_rfl {μ : Mem} : KC μ μ := ⟨fun _ _ _ _ => rfl, fun _ _ _ _ => rfl⟩
theorem kr_rfl {μ : Mem} : KR μ μ := kr_nil
theorem join_op {p : Nat} {μ : Mem} (h : Rel p μ) {F : Option (RX Int32)} {G : Mem → Option (Int32 × Mem)} (op : ∀ ν, Rel2 p μ ν → Op p μ ν F (G ν)) :
    ∃ x μ' y ν', F = some (x, μ') ∧ G μ' = some (y, ν') ∧ Ans x y (ν'.1 26 0 6) ∧ Rel p ν' := by
  obtain ⟨x, μ', _, _, e, _, _, _, k, _⟩ := op μ h
  obtain ⟨x2, μ2, y, ν', e1, e2, e3, e4, _, k2⟩ := op μ' (rel2_eq kc_rfl k h)
  obtain ⟨rfl, rfl⟩ := Prod.mk.inj (Option.some.inj (e.symm.trans e1))
  exact ⟨x, μ', y, ν', e, e2, e3, rel2_eq k2 kr_rfl e4⟩
theorem join_opI {p : Nat} {μ : Mem} (h : Rel p μ) {F : Option (RX Int32)} {G : Mem → Option (Int32 × Mem)} (op : ∀ ν, Rel2 p μ ν → OpI p μ ν F (G ν)) :
    ∃ x μ' y ν', F = some (x, μ') ∧ G μ' = some (y, ν') ∧ AnsI x y (ν'.1 26 0 6) ∧ Rel p ν' := by
  obtain ⟨x, μ', _, _, e, _, _, _, k, _⟩ := op μ h
  obtain ⟨x2, μ2, y, ν', e1, e2, e3, e4, _, k2⟩ := op μ' (rel2_eq kc_rfl k h)
  obtain ⟨rfl, rfl⟩ := Prod.mk.inj (Option.some.inj (e.symm.trans e1))
  exact ⟨x, μ', y, ν', e, e2, e3, rel2_eq k2 kr_rfl e4⟩
theorem join_opN {p : Nat} {μ : Mem} (h : Rel p μ) {F : Option (Int32 × Mem)} {G : Mem → Option (Int32 × Mem)} (op : ∀ ν, Rel2 p μ ν → OpN p μ ν F (G ν)) :
    ∃ v μ' ν', F = some (v, μ') ∧ G μ' = some (v, ν') ∧ ν'.1 26 0 6 = 0 ∧ Rel p ν' := by
  obtain ⟨x, μ', _, e, _, _, _, k, _⟩ := op μ h
  obtain ⟨x2, μ2, ν', e1, e2, e3, e4, _, k2⟩ := op μ' (rel2_eq kc_rfl k h)
  obtain ⟨rfl, rfl⟩ := Prod.mk.inj (Option.some.inj (e.symm.trans e1))
  exact ⟨x, μ', ν', e, e2, e3, rel2_eq k2 kr_rfl e4⟩
