/-! PARSING in pairs: a number, good state -/
theorem tkY_3 {c : Nat → Int32} {N x : Nat} (hx : x < N) : tkY c N x = 3 ↔ tkD (c x) = true := by
  have no : ∀ e, x < e → ¬ wdE c x e (syT.getD 3 0) = true := fun e he z => by
    unfold wdE at z
    rw [Bool.and_eq_true] at z
    have := of_decide_eq_true z.1
    have z0 : txN.getD (syT.getD 3 0) 0 = 0 := by decide
    omega
  unfold tkY
  by_cases hd : tkD (c x) = true
  · rw [if_pos hd]; exact ⟨fun _ => hd, fun _ => rfl⟩
  · rw [if_neg hd]
    refine ⟨fun z => ?_, fun z => absurd z hd⟩
    by_cases hl : tkL (c x) = true
    · rw [if_pos hl] at z
      exact absurd (sp_is (by decide) _ _ z) (no _ (tk_gt hx).1)
    · rw [if_neg hl] at z
      exact absurd (sp_is (by decide) _ _ z) (no _ (Nat.lt_succ_self x))
theorem m_chk1 {ν : Mem} {k : Int32} : fX13_check 0 1 k ν = some ((), ν) := by
  unfold fX13_check
  simp only [jn_eq]
  rw [if_pos (show ¬ (1 : Int32) = 0 by decide)]
theorem m_chk0 {ν ν' : Mem} {k : Int32} (h : fX13_fail 0 k ν = some ((), ν')) : fX13_check 0 0 k ν = some ((), ν') := by
  unfold fX13_check
  simp only [jn_eq]
  rw [if_neg (show ¬ ¬ True from fun z => z trivial), h, bnd_some]
theorem p_number {N n t lo hi : Nat} {c : Nat → Int32} {μ ν : Mem} (h : PG N n c t μ ν) (hh : hi < 100000) (hlo : lo ≤ hi) (fu : Nat) :
    ∃ μ' ν' v, fX11_takeNumber 0 (nI lo) (nI hi) μ = some (v, μ') ∧ fX13_number (fu + 1001) 0 (nI lo) (nI hi) ν = some (v, ν') ∧
      ((t < n ∧ (∃ k, lo ≤ k ∧ k ≤ hi ∧ v = nI k) ∧ PG N n c (t + 1) μ' ν') ∨ (v = nI lo ∧ PB N n c μ' ν')) ∧ FPc μ μ' ∧ FPm ν ν' := by
  have hn : n ≤ 1000 := Nat.le_trans h.1.1 h.1.2.1
  have hw := h.2.2.2.2.2.1
  have ht : t ≤ n := hw.2.1
  have h26 := h.2.2.2.2.1
  obtain ⟨v, ev, evv⟩ := tw_value h.1 hw fu
  unfold fX11_takeNumber fX13_number
  simp only [jn_eq, nm_eq]
  rw [c_at hn h.2.1 ht h.2.2.1, bnd_some, if_neg (show ¬ ¬ ν.1 26 0 26 = 0 from fun z => z h26)]
  by_cases q : syA N n c t = 3
  · have g : t < n := Classical.byContradiction fun z => by unfold syA at q; rw [if_neg z] at q; exact absurd q (by decide)
    have l := h.1.2.2.1 t g
    have w3 := hw.2.2
    rw [if_pos g] at w3
    have hd : tkD (c (tkP c N t)) = true := by unfold syA at q; rw [if_pos g] at q; exact (tkY_3 l).1 q
    have k2 : ν.1 26 0 25 = 2 := by rw [w3.2.2]; exact tkK_2.2 hd
    obtain ⟨k, hk, em, ea⟩ := va_tok h.2.2.2.2.2.2 l hd
    have evk : v = nI k := (evv g k2).trans em
    have e4 : μ.1 4 2 t = nI (min k 100000) := (h.2.1.2.1 t g).2.2.1.trans ea
    rw [if_pos q, if_pos (show ¬ (1 : Int32) = 0 by decide), if_neg (show ¬ ¬ ν.1 26 0 25 = 2 from fun z => z k2), m_chk1, bnd_some, ev, bnd_some, if_neg (show ¬ ¬ ν.1 26 0 26 = 0 from fun z => z h26), r_inRange, bnd_some, h.2.2.1, ckI_nI (show t < 1001 by omega) (by decide), nI_clamp (n := t) (by omega), e4, evk]
    by_cases r : lo ≤ k ∧ k ≤ hi
    · obtain ⟨ν', s1, s2, s3⟩ := p_next h g fu
      have rr : nI lo ≤ nI k ∧ nI k ≤ nI hi := ⟨(nI_leI (by omega) (by omega)).2 r.1, (nI_leI (by omega) (by omega)).2 r.2⟩
      have mk : min k 100000 = k := by omega
      rw [mk, if_neg (Int32.not_lt.2 rr.1), if_pos rr.2, c_min hn h.2.1 g, if_pos rr, if_neg (show ¬ (1 : Int32) = 0 by decide), m_chk1, bnd_some]
      unfold fX13_advance
      simp only [jn_eq]
      rw [if_neg (show ¬ ¬ ν.1 26 0 26 = 0 from fun z => z h26), s1, bnd_some, bnd_some, if_neg (show ¬ ¬ ν'.1 26 0 26 = 0 from fun z => z s2.2.2.2.2.1)]
      exact ⟨_, ν', nI k, rfl, rfl, Or.inl ⟨g, ⟨k, r.1, r.2, rfl⟩, s2⟩, fpc_6, fpm_fw s3⟩
    · obtain ⟨μ', ν', s1, s2, s3, s4, s5⟩ := p_fail2 (k := 2) h (by decide)
      have rr : ¬ (nI lo ≤ nI k ∧ nI k ≤ nI hi) := fun z => r ⟨(nI_leI (by omega) (by omega)).1 z.1, (nI_leI (by omega) (by omega)).1 z.2⟩
      rw [if_neg rr, if_pos (show (0 : Int32) = 0 from rfl), m_chk0 s2, bnd_some, b_advance s3, bnd_some, if_pos (b_err s3), s1, bnd_some]
      refine ⟨μ', ν', nI lo, ?_, rfl, Or.inr ⟨rfl, s3⟩, s4, s5⟩
      by_cases a : nI (min k 100000) < nI lo
      · rw [if_pos a]
      · have a' := (nI_leI (by omega) (by omega)).1 (Int32.not_lt.1 a)
        rw [if_neg a, if_neg (show ¬ nI (min k 100000) ≤ nI hi from fun z => by have := (nI_leI (by omega) (by omega)).1 z; exact r ⟨by omega, by omega⟩)]
  · obtain ⟨μ', ν', s1, s2, s3, s4, s5⟩ := p_fail2 (k := 1) h (by decide)
    obtain ⟨t', hw'⟩ := s3.2.2.2.2.2.2
    obtain ⟨v', ev', _⟩ := tw_value s3.1 hw' fu
    have k2 : ¬ ν.1 26 0 25 = 2 := fun z => q (by
      have w3 := hw.2.2
      by_cases g : t < n
      · rw [if_pos g] at w3
        rw [w3.2.2] at z
        unfold syA; rw [if_pos g]; exact (tkY_3 (h.1.2.2.1 t g)).2 (tkK_2.1 z)
      · rw [if_neg g] at w3
        rw [w3.2.2] at z; exact absurd z (by decide))
    rw [if_neg q, if_neg (show ¬ ¬ (0 : Int32) = 0 from fun z => z rfl), s1, bnd_some, if_pos k2, m_chk0 s2, bnd_some, ev', bnd_some, if_pos (b_err s3), m_chk1, bnd_some, b_advance s3, bnd_some, if_pos (b_err s3)]
    exact ⟨μ', ν', nI lo, rfl, rfl, Or.inr ⟨rfl, s3⟩, s4, s5⟩
