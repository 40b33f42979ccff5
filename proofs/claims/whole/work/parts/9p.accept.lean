/-! PARSING in pairs: accept, expectWord -/
theorem b_isWord {N n i : Nat} {c : Nat → Int32} {μ ν : Mem} (h : PB N n c μ ν) (fu : Nat) : fX13_isWord (fu + 1) 0 i ν = some (0, ν) := by
  unfold fX13_isWord
  simp only [jn_eq, nm_eq]
  rw [if_pos (b_err h), lp_succ, if_pos (show (0 : Int32) = 0 from rfl), ckZ_ok (Or.inl rfl)]
theorem b_accept {N n i : Nat} {c : Nat → Int32} {μ ν : Mem} (h : PB N n c μ ν) (fu : Nat) : fX13_accept (fu + 1) 0 i ν = some (0, ν) := by
  unfold fX13_accept
  simp only [jn_eq]
  rw [b_isWord h, bnd_some, if_pos (show (0 : Int32) = 0 from rfl), ckZ_ok (Or.inl rfl)]
theorem b_expectWord {N n i : Nat} {c : Nat → Int32} {μ ν : Mem} (h : PB N n c μ ν) (fu : Nat) : fX13_expectWord (fu + 1) 0 i ν = some ((), ν) := by
  unfold fX13_expectWord
  rw [b_isWord h, bnd_some, b_check h, bnd_some, b_advance h, bnd_some]
/-- a word is taken where it stands -/
theorem p_accept {N n t r : Nat} {c : Nat → Int32} {μ ν : Mem} (h : PG N n c t μ ν) (hr : r < 74) (h0 : 0 < txN.getD (syT.getD r 0) 0) (hL : tkL (txC (syT.getD r 0) 0) = true) (fu : Nat) :
    ∃ μ' ν' v, fX11_skip 0 r μ = some (v, μ') ∧ fX13_accept (fu + 1001) 0 (syT.getD r 0) ν = some (v, ν') ∧ ((syA N n c t = r ∧ t < n ∧ v = 1 ∧ PG N n c (t + 1) μ' ν') ∨ (syA N n c t ≠ r ∧ v = 0 ∧ μ' = μ ∧ ν' = ν)) ∧ FPc μ μ' ∧ FPm ν ν' := by
  have hn : n ≤ 1000 := Nat.le_trans h.1.1 h.1.2.1
  have ht : t ≤ n := h.2.2.2.2.2.1.2.1
  have ew : fX13_isWord (fu + 1001) 0 (syT.getD r 0) ν = _ := p_word h hr h0 hL (fu + 987)
  unfold fX13_accept
  simp only [jn_eq]
  rw [c_skip hn h.2.1 ht h.2.2.1, ew, bnd_some]
  by_cases q : syA N n c t = r
  · have g : t < n := Classical.byContradiction fun z => syA_1 h0 z q
    have gq : t < n ∧ syA N n c t = r := ⟨g, q⟩
    obtain ⟨ν', s1, s2, s3⟩ := p_next h g fu
    simp only [if_pos gq, if_pos q]
    rw [if_neg (show ¬ (1 : Int32) = 0 by decide), s1, bnd_some, ckZ_ok (Or.inr rfl)]
    exact ⟨_, ν', 1, rfl, rfl, Or.inl ⟨q, g, rfl, s2⟩, fpc_6, fpm_fw s3⟩
  · have gq : ¬ (t < n ∧ syA N n c t = r) := fun z => q z.2
    simp only [if_neg gq, if_neg q]
    rw [ckZ_ok (Or.inl rfl)]
    exact ⟨μ, ν, 0, rfl, rfl, Or.inr ⟨q, rfl, rfl, rfl⟩, fpc_rfl, fpm_rfl⟩
/-- a word is expected -/
theorem p_expectWord {N n t r : Nat} {c : Nat → Int32} {μ ν : Mem} (h : PG N n c t μ ν) (hr : r < 74) (h0 : 0 < txN.getD (syT.getD r 0) 0) (hL : tkL (txC (syT.getD r 0) 0) = true) (fu : Nat) :
    ∃ μ' ν', fX11_expect 0 r μ = some ((), μ') ∧ fX13_expectWord (fu + 1001) 0 (syT.getD r 0) ν = some ((), ν') ∧ ((syA N n c t = r ∧ t < n ∧ PG N n c (t + 1) μ' ν') ∨ (syA N n c t ≠ r ∧ PB N n c μ' ν')) ∧ FPc μ μ' ∧ FPm ν ν' := by
  have hn : n ≤ 1000 := Nat.le_trans h.1.1 h.1.2.1
  have ht : t ≤ n := h.2.2.2.2.2.1.2.1
  have ew : fX13_isWord (fu + 1001) 0 (syT.getD r 0) ν = _ := p_word h hr h0 hL (fu + 987)
  unfold fX11_expect fX13_expectWord fX13_check fX13_advance
  simp only [jn_eq]
  rw [c_skip hn h.2.1 ht h.2.2.1, bnd_some, ew, bnd_some]
  by_cases q : syA N n c t = r
  · have g : t < n := Classical.byContradiction fun z => syA_1 h0 z q
    have gq : t < n ∧ syA N n c t = r := ⟨g, q⟩
    obtain ⟨ν', s1, s2, s3⟩ := p_next h g fu
    simp only [if_pos gq, if_pos q]
    rw [if_pos (show ¬ (1 : Int32) = 0 by decide), if_pos (show ¬ (1 : Int32) = 0 by decide), bnd_some, if_neg (show ¬ ¬ ν.1 26 0 26 = 0 from fun z => z h.2.2.2.2.1), s1, bnd_some, bnd_some]
    exact ⟨_, ν', rfl, rfl, Or.inl ⟨q, g, s2⟩, fpc_6, fpm_fw s3⟩
  · obtain ⟨μ', ν', s1, s2, s3, s4, s5⟩ := p_fail2 (k := 1) h (by decide)
    have gq : ¬ (t < n ∧ syA N n c t = r) := fun z => q z.2
    simp only [if_neg gq, if_neg q]
    rw [if_neg (show ¬ ¬ True from fun z => z trivial), if_neg (show ¬ ¬ True from fun z => z trivial), s1, bnd_some, s2, bnd_some, bnd_some, if_pos (b_err s3), bnd_some]
    exact ⟨μ', ν', rfl, rfl, Or.inr ⟨q, s3⟩, s4, s5⟩
