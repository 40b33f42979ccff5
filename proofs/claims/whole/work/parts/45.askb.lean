/-! questions of an engine: there is none, or it is e -/
theorem m_exists_bad {μ : Mem} {x : Int32} (h : x < 0 ∨ nI 4 ≤ x) : fX13_exists 0 x μ = some (0, μ) := by
  unfold fX13_exists
  simp only [jn_eq]
  rw [show (3 : Int32) = nI 3 from rfl, r_bad (by decide) h, bnd_some, if_pos rfl]
  exact ckZ_ok (Or.inl rfl)
theorem m_exists_at {μ : Mem} {e : Nat} (h : e < 4) : fX13_exists 0 (nI e) μ = (if tN μ (476 + 21 * e) = 1 then some (1, μ) else some (0, μ)) := by
  unfold fX13_exists
  simp only [jn_eq]
  have e2 : fX13_setting 0 (nI e) 0 μ = _ := r_setting (f := 0) (by omega)
  rw [show (3 : Int32) = nI 3 from rfl, r_ok (by omega) (by decide), bnd_some, if_neg ne10, e2, bnd_some]
  show (if ¬ tN μ (476 + 21 * e) = 1 then _ else _) = _
  by_cases h1 : tN μ (476 + 21 * e) = 1
  · rw [if_neg (fun q => q h1), if_pos h1]
    exact ckZ_ok (Or.inr rfl)
  · rw [if_pos h1, if_neg h1]
    exact ckZ_ok (Or.inl rfl)
theorem c_has_bad {μ : Mem} {p : Nat} {x : Int32} (h : x < 0 ∨ nI 4 ≤ x) : fX4_hasEngine p x μ = some (0, μ) := by
  unfold fX4_hasEngine
  simp only [jn_eq]
  by_cases h1 : x < 0
  · rw [if_pos h1]; exact ckZ_ok (Or.inl rfl)
  · rw [if_neg h1, if_pos (show (4 : Int32) ≤ x from h.resolve_left h1)]; exact ckZ_ok (Or.inl rfl)
theorem c_has_at {μ : Mem} {p e : Nat} (h : e < 4) : fX4_hasEngine p (nI e) μ = (if μ.1 8 (4 * p + e) 0 = 0 then some (0, μ) else some (1, μ)) := by
  unfold fX4_hasEngine
  simp only [jn_eq]
  rw [if_neg (nI_pos (by omega)), if_neg (show ¬ (4 : Int32) ≤ nI e from nI_ge h (by decide)), ckI_nI h (by decide), nI_clamp (by omega)]
  by_cases h1 : μ.1 8 (4 * p + e) 0 = 0
  · rw [if_pos h1, if_pos h1]; exact ckZ_ok (Or.inl rfl)
  · rw [if_neg h1, if_neg h1]; exact ckZ_ok (Or.inr rfl)
/-- setups of the program that is now -/
theorem rel_setup {p : Nat} {μ : Mem} (h : Rel p μ) {e : Nat} (he : e < 4) : (μ.1 8 (4 * p + e) 0 = 0 ∧ tN μ (476 + 21 * e) = 0) ∨ (μ.1 8 (4 * p + e) 0 = 1 ∧ tN μ (476 + 21 * e) = 1) := by
  obtain ⟨_, _, _, _, _, h5⟩ := h.2.1
  rcases h5 e he with ⟨a, b⟩ | ⟨a, b, _⟩
  · exact Or.inl ⟨a, b⟩
  · exact Or.inr ⟨a, b⟩
theorem rel_engine {p : Nat} {μ : Mem} (h : Rel p μ) {e : Nat} (he : e < 4) (h1 : μ.1 8 (4 * p + e) 0 = 1) : relE μ e (tN μ (476 + 21 * e + 19)) (tN μ (476 + 21 * e + 20)) (fun k => tN μ (560 + 35 * e + k)) := by
  have := (h.2.2.1.2.2.2.2.2.2 e he h1).1
  rwa [show 4 * 0 + e = e by omega] at this
theorem c_engine {μ : Mem} {p : Nat} {x : Int32} (hp : μ.2.1 0 0 4 = p) (h2 : p < 2) : fX12_existingEngine 0 x μ = bnd (fX4_hasEngine p x μ) (fun x4 μ3 => if ¬ x4 = 0 then ckI x 4 (some (.inr (4 * 0 + x.toNatClampNeg), μ3)) else some (.inl 1, μ3)) := by
  unfold fX12_existingEngine
  rw [nm_eq, hp, ckB_ok h2]
theorem eng_cases {p : Nat} {μ : Mem} (h : Rel p μ) (x : Int32) :
    (fX12_existingEngine 0 x μ = some (.inl 1, μ) ∧ fX13_exists 0 x (wI μ 26 0 6 0) = some (0, wI μ 26 0 6 0)) ∨
    (∃ e : Nat, e < 4 ∧ x = nI e ∧ fX12_existingEngine 0 x μ = some (.inr e, μ) ∧ fX13_exists 0 x (wI μ 26 0 6 0) = some (1, wI μ 26 0 6 0) ∧ relE μ e (tN μ (476 + 21 * e + 19)) (tN μ (476 + 21 * e + 20)) (fun k => tN μ (560 + 35 * e + k))) := by
  rw [c_engine h.1.2.1 h.1.1]
  rcases ix_cases x (n := 4) (by decide) with hx | ⟨e, he, rfl⟩
  · refine Or.inl ⟨?_, m_exists_bad hx⟩
    rw [c_has_bad hx, bnd_some, if_neg nn0]
  · rw [c_has_at he, m_exists_at he]
    rcases rel_setup h he with ⟨a, b⟩ | ⟨a, b⟩
    · refine Or.inl ⟨?_, ?_⟩
      · rw [if_pos a, bnd_some, if_neg nn0]
      · rw [show tN (wI μ 26 0 6 0) (476 + 21 * e) = 0 from b, if_neg (by decide)]
    · refine Or.inr ⟨e, he, rfl, ?_, ?_, rel_engine h he a⟩
      · rw [if_neg (by rw [a]; decide), bnd_some, if_pos ne10, ckI_nI he (by decide), nI_clamp (by omega), show 4 * 0 + e = e by omega]
      · rw [show tN (wI μ 26 0 6 0) (476 + 21 * e) = 1 from b, if_pos rfl]
/-- a number of an engine -/
theorem ask_tell {p : Nat} {μ : Mem} (h : Rel p μ) (x : Int32) {f : Nat} (hf : f < 35) {g : Nat → Mem → Int32}
    (hg : ∀ e, e < 4 → relE μ e (tN μ (476 + 21 * e + 19)) (tN μ (476 + 21 * e + 20)) (fun k => tN μ (560 + 35 * e + k)) → tN μ (560 + 35 * e + f) = g e μ) :
    Ask p μ (bndX (fX12_existingEngine 0 x μ) fun a2 μ1 => ckB a2 52 <| some (.inr (g a2 μ1), μ1)) (fX13_tell 0 x (nI f) μ) := by
  unfold fX13_tell
  rw [nm_eq]
  rcases eng_cases h x with ⟨a, b⟩ | ⟨e, he, rfl, a, b, c⟩
  · rw [a, b, bndX_inl, bnd_some, if_neg nn0, m_raise, bnd_some, wI_wI]
    exact ⟨_, _, _, rfl, rfl, rfl, rel_thrown h⟩
  · rw [a, b, bndX_inr, bnd_some, if_pos ne10, r_of (by omega), bnd_some, ckB_ok (by omega)]
    exact ⟨_, _, _, rfl, rfl, ⟨rfl, hg e he c⟩, rel_thrown h⟩
theorem bnd_eta {α : Type} {o : Option (α × Mem)} : bnd o (fun x μ => some (x, μ)) = o := by
  rcases o with _ | ⟨x, μ⟩ <;> rfl
/-! promises 14, 16 to 19 -/
theorem ask_pc {p : Nat} {μ : Mem} (h : Rel p μ) (x : Int32) : Ask p μ (fX12_pc 0 x μ) (fX13_pc 0 x μ) := by
  unfold fX12_pc fX13_pc
  rw [bnd_eta]
  exact ask_tell h x (f := 1) (g := fun a m => m.1 18 a 0) (by decide) (fun e _ c => c.2.2.1 0 (by decide))
theorem ask_fill {p : Nat} {μ : Mem} (h : Rel p μ) (x : Int32) : Ask p μ (fX12_fill 0 x μ) (fX13_fill 0 x μ) := by
  unfold fX12_fill fX13_fill
  rw [bnd_eta]
  exact ask_tell h x (f := 6) (g := fun a m => m.1 18 a 5) (by decide) (fun e _ c => c.2.2.1 5 (by decide))
theorem ask_spent {p : Nat} {μ : Mem} (h : Rel p μ) (x : Int32) : Ask p μ (fX12_spent 0 x μ) (fX13_spent 0 x μ) := by
  unfold fX12_spent fX13_spent
  rw [bnd_eta]
  exact ask_tell h x (f := 7) (g := fun a m => m.1 18 a 6) (by decide) (fun e _ c => c.2.2.1 6 (by decide))
theorem ask_delayLeft {p : Nat} {μ : Mem} (h : Rel p μ) (x : Int32) : Ask p μ (fX12_delayLeft 0 x μ) (fX13_delayLeft 0 x μ) := by
  unfold fX12_delayLeft fX13_delayLeft
  rw [bnd_eta]
  exact ask_tell h x (f := 8) (g := fun a m => m.1 18 a 7) (by decide) (fun e _ c => c.2.2.1 7 (by decide))
theorem ask_stall {p : Nat} {μ : Mem} (h : Rel p μ) (x : Int32) : Ask p μ (fX12_stall 0 x μ) (fX13_stall 0 x μ) := by
  unfold fX12_stall fX13_stall
  rw [bnd_eta]
  exact ask_tell h x (f := 9) (g := fun a m => m.1 18 a 8) (by decide) (fun e _ c => c.2.2.1 8 (by decide))
