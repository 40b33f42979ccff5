/-! promises 20 (isEnabled), 15 (register), 23 (count), 21, 22 (queues), 8, 24 to 26 (levels), 6, 42 -/
theorem bool_if {v : Int32} (h : v = 0 ∨ v = 1) {μ : Mem} : (if ¬ v = 1 then ckZ (0 : Int32) (some ((0 : Int32), μ)) else ckZ (1 : Int32) (some ((1 : Int32), μ))) = some (v, μ) := by
  rcases h with h | h <;> subst h <;> rfl
theorem ask_isEnabled {p : Nat} {μ : Mem} (h : Rel p μ) (x : Int32) : Ask p μ (fX12_isEnabled 0 x μ) (fX13_isEnabled 0 x μ) := by
  unfold fX12_isEnabled fX13_isEnabled
  simp only [jn_eq]
  unfold fX13_tell
  rw [nm_eq]
  rcases eng_cases h x with ⟨a, b⟩ | ⟨e, he, rfl, a, b, c⟩
  · rw [a, b, bndX_inl, bnd_some, if_neg nn0, m_raise, bnd_some, bnd_some, wI_wI]
    exact ⟨_, _, _, rfl, rfl, rfl, rel_thrown h⟩
  · have e2 : fX13_of 0 (nI e) 0 (wI μ 26 0 6 0) = _ := r_of (f := 0) (by omega)
    have e3 : tN (wI μ 26 0 6 0) (560 + 35 * e + 0) = tN μ (560 + 35 * e + 0) := rfl
    rw [a, b, bndX_inr, bnd_some, if_pos ne10, e2, e3, bnd_some, bnd_some, ckB_ok (by omega), bool_if c.2.1, ← c.1]
    exact ⟨_, _, _, ckZ_ok c.2.1, rfl, ⟨rfl, rfl⟩, rel_thrown h⟩
theorem ask_count {p : Nat} {μ : Mem} (h : Rel p μ) (x y : Int32) : Ask p μ (fX12_count 0 x y μ) (fX13_count 0 x y μ) := by
  unfold fX12_count fX13_count
  simp only [jn_eq, nm_eq]
  rcases eng_cases h x with ⟨a, b⟩ | ⟨e, he, rfl, a, b, c⟩
  · rw [a, b, bndX_inl, bnd_some, if_pos rfl, m_raise, bnd_some, wI_wI]
    exact ⟨_, _, _, rfl, rfl, rfl, rel_thrown h⟩
  · rw [a, b, bndX_inr, bnd_some, if_neg ne10, ckB_ok (by omega)]
    rcases ix_cases y (n := 6) (by decide) with hy | ⟨k, hk, rfl⟩
    · rw [show (5 : Int32) = nI 5 from rfl, r_bad (by decide) hy, bnd_some, if_neg nn0, m_raise, bnd_some, wI_wI]
      refine ⟨.inl 1, _, _, ?_, rfl, rfl, rel_thrown h⟩
      by_cases h1 : y < 0
      · rw [if_pos h1]
      · rw [if_neg h1, if_neg (show ¬ y < 6 from Int32.not_lt.2 (hy.resolve_left h1))]
    · rw [show (5 : Int32) = nI 5 from rfl, r_ok (by omega) (by decide), bnd_some, if_pos ne10, show (29 : Int32) = nI 29 from rfl, nI_add, r_of (by omega), bnd_some, if_neg (nI_pos (by omega)), show (6 : Int32) = nI 6 from rfl, if_pos (nI_lt hk (by decide)), ckI_nI hk (by decide), nI_clamp (by omega)]
      exact ⟨_, _, _, rfl, rfl, ⟨rfl, c.2.2.2.1 k hk⟩, rel_thrown h⟩
theorem ask_register {p : Nat} {μ : Mem} (h : Rel p μ) (x y : Int32) : Ask p μ (fX12_register 0 x y μ) (fX13_register 0 x y μ) := by
  unfold fX12_register fX13_register
  simp only [jn_eq, nm_eq]
  rcases eng_cases h x with ⟨a, b⟩ | ⟨e, he, rfl, a, b, c⟩
  · rw [a, b, bndX_inl, bnd_some, if_pos rfl, m_raise, bnd_some, wI_wI]
    exact ⟨_, _, _, rfl, rfl, rfl, rel_thrown h⟩
  · rw [a, b, bndX_inr, bnd_some, if_neg ne10, ckB_ok (by omega)]
    rcases ix_cases y (n := 4) (by decide) with hy | ⟨k, hk, rfl⟩
    · rw [show (3 : Int32) = nI 3 from rfl, r_bad (by decide) hy, bnd_some, if_neg nn0, m_raise, bnd_some, wI_wI]
      refine ⟨.inl 1, _, _, ?_, rfl, rfl, rel_thrown h⟩
      by_cases h1 : y < 0
      · rw [if_pos h1]
      · rw [if_neg h1, if_neg (show ¬ y < 4 from Int32.not_lt.2 (hy.resolve_left h1))]
    · have hc := c.2.2.1 (k + 1) (by omega)
      rw [show (3 : Int32) = nI 3 from rfl, r_ok (by omega) (by decide), bnd_some, if_pos ne10, show (2 : Int32) = nI 2 from rfl, nI_add, r_of (by omega), bnd_some, if_neg (nI_pos (by omega)), show (4 : Int32) = nI 4 from rfl, if_pos (nI_lt hk (by decide))]
      refine ⟨.inr (μ.1 18 e (k + 1)), _, _, ?_, rfl, ⟨rfl, ?_⟩, rel_thrown h⟩
      · have : k = 0 ∨ k = 1 ∨ k = 2 ∨ k = 3 := by omega
        rcases this with h | h | h | h <;> subst h <;> rfl
      · rw [← hc]
        show tN μ (560 + 35 * e + (2 + k)) = tN μ (560 + 35 * e + (k + 1 + 1))
        rw [show 2 + k = k + 1 + 1 by omega]
theorem ask_undoCount {p : Nat} {μ : Mem} (h : Rel p μ) : AskN p μ (fX12_undoCount 0 μ) (fX13_undoCount 0 μ) := by
  obtain ⟨u, e, _, _, h1, h2, _⟩ := h.2.2.2.2.2.1
  refine ⟨μ.1 0 0 15, rfl, ?_, rel_thrown h⟩
  rw [h1, ← h2]
  rfl
