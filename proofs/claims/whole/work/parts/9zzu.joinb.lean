/-! JOINING, load and query -/
theorem join_opLd {p : Nat} {μ : Mem} (h : Rel p μ) {F : Option (RX Int32)} {G : Mem → Option (Int32 × Mem)} (op : ∀ ν, Rel2 p μ ν → OpLd μ ν F (G ν)) :
    ∃ x μ' y ν' p', F = some (x, μ') ∧ G μ' = some (y, ν') ∧ AnsI x y (ν'.1 26 0 6) ∧ Rel p' ν' := by
  obtain ⟨x, μ', _, _, _, e, _, _, _, k, _⟩ := op μ h
  obtain ⟨x2, μ2, y, ν', p', e1, e2, e3, e4, _, k2⟩ := op μ' (rel2_eq kc_rfl k h)
  obtain ⟨rfl, rfl⟩ := Prod.mk.inj (Option.some.inj (e.symm.trans e1))
  exact ⟨x, μ', y, ν', p', e, e2, e3, rel2_eq k2 kr_rfl e4⟩
theorem fld_kr {μ μ' : Mem} (h : FLD μ) (k : KR μ μ') : FLD μ' := fun i a b => (k.1 28 14 i (by decide) (by decide)).trans (h i a b)
theorem join_opF {p : Nat} {μ : Mem} (h : Rel p μ) (hF : FLD μ) {F : Option (RX Int32)} {G : Mem → Option (Int32 × Mem)} (op : ∀ ν, Rel2 p μ ν → FLD ν → OpI p μ ν F (G ν)) :
    ∃ x μ' y ν', F = some (x, μ') ∧ G μ' = some (y, ν') ∧ AnsI x y (ν'.1 26 0 6) ∧ Rel p ν' := by
  obtain ⟨x, μ', _, _, e, _, _, _, k, _⟩ := op μ h hF
  obtain ⟨x2, μ2, y, ν', e1, e2, e3, e4, _, k2⟩ := op μ' (rel2_eq kc_rfl k h) (fld_kr hF k)
  obtain ⟨rfl, rfl⟩ := Prod.mk.inj (Option.some.inj (e.symm.trans e1))
  exact ⟨x, μ', y, ν', e, e2, e3, rel2_eq k2 kr_rfl e4⟩
theorem join_load {p : Nat} {μ : Mem} (h : Rel p μ) (L : Int32) (fu : Nat) : ∃ x μ' y ν' p', fX12_load (fu + 2001) 0 L μ = some (x, μ') ∧ fX13_load (fu + 2001) 0 L μ' = some (y, ν') ∧ AnsI x y (ν'.1 26 0 6) ∧ Rel p' ν' := join_opLd h fun _ h2 => op_load h2 L fu
theorem join_query {p : Nat} {μ : Mem} (h : Rel p μ) (hF : FLD μ) (L : Int32) (fu : Nat) : ∃ x μ' y ν', fX12_query (fu + 2001) 0 L μ = some (x, μ') ∧ fX13_query (fu + 2001) 0 L μ' = some (y, ν') ∧ AnsI x y (ν'.1 26 0 6) ∧ Rel p ν' := join_opF h hF fun _ h2 h3 => op_query h2 h3 L fu
