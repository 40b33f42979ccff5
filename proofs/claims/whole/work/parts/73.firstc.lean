/-- the class takes a queue's first word -/
def remQ (j s hh : Nat) (μ : Mem) : Mem := wI (wI μ 19 j 2 (nI ((hh + 1) % 8))) 19 j 0 (nI (s - 1))
theorem c_first {μ : Mem} {j s hh : Nat} (h1 : μ.1 19 j 0 = nI s) (h3 : μ.1 19 j 2 = nI hh) (h0 : 0 < s) (hs : s ≤ 8) (h8 : hh < 8) : fX7_removeFirst j μ = some (μ.1 20 j hh, remQ j s hh μ) := by
  unfold fX7_removeFirst
  simp only [nm_eq]
  rw [if_pos (by rw [h1]; exact nI_ne0 h0 (by omega)), h3, ckI_nI h8 (by decide), nI_clamp (by omega), ckD_ok (by decide), nI_1, show (8 : Int32) = nI 8 from rfl, remN (by omega) (by decide) (by decide)]
  have e : (wI μ 19 j 2 (nI ((hh + 1) % 8))).1 19 j 0 = nI s := by rw [wI_at, if_neg (by omega)]; exact h1
  rw [e, show nI s - 1 = nI (s - 1) from by obtain ⟨r, rfl⟩ : ∃ r, s = r + 1 := ⟨s - 1, by omega⟩; exact nI_pred r]
  rfl
