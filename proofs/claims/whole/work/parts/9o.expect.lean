/-! PARSING in pairs: expect -/
def FPc (μ μ' : Mem) : Prop := (∀ κ a q, ¬ (κ = 2 ∧ a = 0 ∧ (q = 6 ∨ q = 7 ∨ q = 8)) → μ'.1 κ a q = μ.1 κ a q) ∧ μ'.2 = μ.2
def FPm (ν ν' : Mem) : Prop := (∀ κ a q, ¬ (κ = 26 ∧ a = 0 ∧ 23 ≤ q ∧ q ≤ 27) → ν'.1 κ a q = ν.1 κ a q) ∧ ν'.2 = ν.2
theorem fpc_rfl {μ : Mem} : FPc μ μ := ⟨fun _ _ _ _ => rfl, rfl⟩
theorem fpm_rfl {μ : Mem} : FPm μ μ := ⟨fun _ _ _ _ => rfl, rfl⟩
theorem fpc_trans {a b c : Mem} (h : FPc a b) (g : FPc b c) : FPc a c := ⟨fun κ n k z => (g.1 κ n k z).trans (h.1 κ n k z), g.2.trans h.2⟩
theorem fpm_trans {a b c : Mem} (h : FPm a b) (g : FPm b c) : FPm a c := ⟨fun κ n k z => (g.1 κ n k z).trans (h.1 κ n k z), g.2.trans h.2⟩
theorem fpm_fw {a b : Mem} (h : FW a b) : FPm a b := ⟨fun κ n k z => h.1 κ n k (by omega), h.2⟩
theorem fpc_6 {μ : Mem} {v : Int32} : FPc μ (wI μ 2 0 6 v) := ⟨fun κ n k z => wI_o (by omega), rfl⟩
theorem p_fail2 {N n t : Nat} {c : Nat → Int32} {μ ν : Mem} {k : Int32} (h : PG N n c t μ ν) (hk : k ≠ 0) : ∃ μ' ν', fX11_fail 0 k μ = some ((), μ') ∧ fX13_fail 0 k ν = some ((), ν') ∧ PB N n c μ' ν' ∧ FPc μ μ' ∧ FPm ν ν' := by
  obtain ⟨μ', ν', a, b, d, e, f, g, i⟩ := p_fail h hk
  exact ⟨μ', ν', a, b, d, ⟨e, f⟩, ⟨fun κ a q z => g κ a q (by omega), i⟩⟩
/-- where an error stands, failing again changes nothing -/
theorem b_cfail {N n : Nat} {c : Nat → Int32} {μ ν : Mem} {k : Int32} (h : PB N n c μ ν) : fX11_fail 0 k μ = some ((), μ) := by
  obtain ⟨hT, hC, h6, h7, _⟩ := h
  unfold fX11_fail
  simp only [jn_eq, nm_eq]
  rw [if_pos h7, hC.1, ← h6, wI_id]
theorem b_err {N n : Nat} {c : Nat → Int32} {μ ν : Mem} (h : PB N n c μ ν) : ¬ ν.1 26 0 26 = 0 := by rw [h.2.2.2.2.1]; exact h.2.2.2.1
theorem b_mfail {N n : Nat} {c : Nat → Int32} {μ ν : Mem} {k : Int32} (h : PB N n c μ ν) : fX13_fail 0 k ν = some ((), ν) := by
  rw [m_fail, if_neg (b_err h)]
theorem b_check {N n : Nat} {c : Nat → Int32} {μ ν : Mem} {x k : Int32} (h : PB N n c μ ν) : fX13_check 0 x k ν = some ((), ν) := by
  unfold fX13_check
  simp only [jn_eq]
  rw [b_mfail h, bnd_some, ite_self]
theorem b_advance {N n : Nat} {c : Nat → Int32} {μ ν : Mem} (h : PB N n c μ ν) (fu : Nat) : fX13_advance fu 0 ν = some ((), ν) := by
  unfold fX13_advance
  simp only [jn_eq]
  rw [if_pos (b_err h)]
theorem b_isSymbol {N n : Nat} {c : Nat → Int32} {μ ν : Mem} {x : Int32} (h : PB N n c μ ν) : fX13_isSymbol 0 x ν = some (0, ν) := by
  unfold fX13_isSymbol
  simp only [jn_eq]
  rw [if_pos (b_err h), ckZ_ok (Or.inl rfl)]
theorem b_at {N n a : Nat} {c : Nat → Int32} {μ ν : Mem} (h : PB N n c μ ν) (ha : a ≠ 1) : fX11_at 0 a μ = some (0, μ) := by
  have hn : n ≤ 1000 := Nat.le_trans h.1.1 h.1.2.1
  rw [c_at hn h.2.1 (Nat.le_refl n) h.2.2.1, if_neg]
  unfold syA
  rw [if_neg (by omega)]
  exact fun z => ha z.symm
theorem b_skip {N n a : Nat} {c : Nat → Int32} {μ ν : Mem} (h : PB N n c μ ν) : fX11_skip 0 a μ = some (0, μ) := by
  have hn : n ≤ 1000 := Nat.le_trans h.1.1 h.1.2.1
  have f : ¬ (n < n ∧ syA N n c n = a) := fun z => absurd z.1 (by omega)
  rw [c_skip hn h.2.1 (Nat.le_refl n) h.2.2.1, if_neg f, if_neg f]
theorem b_expect {N n a : Nat} {c : Nat → Int32} {μ ν : Mem} {x : Int32} (h : PB N n c μ ν) (fu : Nat) : fX11_expect 0 a μ = some ((), μ) ∧ fX13_expect fu 0 x ν = some ((), ν) := by
  unfold fX11_expect fX13_expect
  simp only [jn_eq]
  rw [b_skip h, bnd_some, if_neg (show ¬ ¬ (0 : Int32) = 0 from fun z => z rfl), b_cfail h, bnd_some, b_isSymbol h, bnd_some, b_check h, bnd_some, b_advance h, bnd_some]
  exact ⟨rfl, rfl⟩
/-- a sign is expected -/
theorem p_expect {N n t r : Nat} {c : Nat → Int32} {μ ν : Mem} {p : Int32} (h : PG N n c t μ ν) (hr : r < 74) (h1 : txN.getD (syT.getD r 0) 0 = 1) (hL : tkL p = false) (hD : tkD p = false) (hp : txC (syT.getD r 0) 0 = p) (fu : Nat) :
    ∃ μ' ν', fX11_expect 0 r μ = some ((), μ') ∧ fX13_expect (fu + 1001) 0 p ν = some ((), ν') ∧ ((syA N n c t = r ∧ t < n ∧ PG N n c (t + 1) μ' ν') ∨ (syA N n c t ≠ r ∧ PB N n c μ' ν')) ∧ FPc μ μ' ∧ FPm ν ν' := by
  have hn : n ≤ 1000 := Nat.le_trans h.1.1 h.1.2.1
  have ht : t ≤ n := h.2.2.2.2.2.1.2.1
  unfold fX11_expect fX13_expect fX13_check fX13_advance
  simp only [jn_eq]
  rw [c_skip hn h.2.1 ht h.2.2.1, bnd_some, p_sign h hr h1 hL hD hp, bnd_some]
  by_cases q : syA N n c t = r
  · have g : t < n := Classical.byContradiction fun z => syA_1 (by omega) z q
    obtain ⟨ν', s1, s2, s3⟩ := p_next h g fu
    have gq : t < n ∧ syA N n c t = r := ⟨g, q⟩
    simp only [if_pos gq, if_pos q]
    rw [if_pos (show ¬ (1 : Int32) = 0 by decide), if_pos (show ¬ (1 : Int32) = 0 by decide), bnd_some, if_neg (show ¬ ¬ ν.1 26 0 26 = 0 from fun z => z h.2.2.2.2.1), s1, bnd_some, bnd_some]
    exact ⟨_, ν', rfl, rfl, Or.inl ⟨q, g, s2⟩, fpc_6, fpm_fw s3⟩
  · obtain ⟨μ', ν', s1, s2, s3, s4, s5⟩ := p_fail2 (k := 1) h (by decide)
    have gq : ¬ (t < n ∧ syA N n c t = r) := fun z => q z.2
    simp only [if_neg gq, if_neg q]
    rw [if_neg (show ¬ ¬ True from fun z => z trivial), if_neg (show ¬ ¬ True from fun z => z trivial), s1, bnd_some, s2, bnd_some, bnd_some, if_pos (b_err s3), bnd_some]
    exact ⟨μ', ν', rfl, rfl, Or.inr ⟨q, s3⟩, s4, s5⟩
