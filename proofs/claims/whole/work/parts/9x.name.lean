/-! PARSING in pairs: a name -/
theorem tk_next {N t : Nat} {c : Nat → Int32} : tkE c N (tkP c N t) ≤ tkP c N (t + 1) := tk_ge _ _
/-- what the class's reader takes a name for: 0 as long as the labels are not known, else what its table says -/
def LC (N n : Nat) (c : Nat → Int32) (V : Nat → Option Nat) (μ : Mem) : Prop :=
  (μ.1 10 0 2 = 0 ∧ ∀ x, V x = some 0) ∨ (μ.1 10 0 2 = 1 ∧ ∃ L lt la, LT n L lt la μ ∧ ∀ x, V x = lkG c N lt la x L 0)
theorem p_nameC {N n t : Nat} {c : Nat → Int32} {V : Nat → Option Nat} {μ ν : Mem} (h : PG N n c t μ ν) (hC : LC N n c V μ) (q : syA N n c t = 2) (fu : Nat) :
    (∀ a, V (tkP c N t) = some a → a ≤ 32 → fX5_takeName (fu + 1001) 0 μ = some (nI a, wI μ 2 0 6 (nI (t + 1)))) ∧
    (V (tkP c N t) = none → fX5_takeName (fu + 1001) 0 μ = some (0, wI (wI (wI μ 2 0 7 5) 2 0 8 (nI (tkP c N t))) 2 0 6 (nI n))) := by
  have hn : n ≤ 1000 := Nat.le_trans h.1.1 h.1.2.1
  have ht : t ≤ n := h.2.2.2.2.2.1.2.1
  obtain ⟨g, -⟩ := sy_2 q
  have gq : t < n ∧ syA N n c t = 2 := ⟨g, q⟩
  unfold fX5_takeName
  simp only [jn_eq]
  rw [c_at hn h.2.1 ht h.2.2.1, bnd_some, if_pos q, if_pos (show ¬ (1 : Int32) = 0 by decide)]
  rcases hC with ⟨f, hV⟩ | ⟨f, L, lt, la, hL, hV⟩
  · rw [f, if_pos (show (0 : Int32) = 0 from rfl), if_pos (show ¬ (0 : Int32) = -1 by decide), c_skip hn h.2.1 ht h.2.2.1, if_pos gq, if_pos gq, bnd_some]
    refine ⟨fun a ha _ => ?_, fun z => absurd (z.symm.trans (hV _)) (by simp)⟩
    have : a = 0 := Option.some.inj (ha.symm.trans (hV _))
    rw [this]; rfl
  · rw [f, if_neg (show ¬ (1 : Int32) = 0 by decide), c_labelAddress h.1 h.2.1 g h.2.2.1 hL, bnd_some, ← hV]
    refine ⟨fun a ha hb => ?_, fun z => ?_⟩
    · rw [ha, if_pos (show ¬ opN (some a) = -1 from nI_m1 (by omega)), c_skip hn h.2.1 ht h.2.2.1, if_pos gq, if_pos gq, bnd_some]
      rfl
    · rw [z, if_neg (show ¬ ¬ opN none = -1 from fun z => z rfl), c_fail hn h.2.1 ht h.2.2.1 h.2.2.2.1, bnd_some, (h.2.1.2.1 t g).1]
theorem p_nameNo {N n t : Nat} {c : Nat → Int32} {μ ν : Mem} {p : Int32} (h : PG N n c t μ ν) (q : ¬ syA N n c t = 2) (fx fu : Nat) :
    ∃ μ' ν', fX5_takeName fx 0 μ = some (0, μ') ∧ fX13_readName (fu + 1001) 0 p ν = some ((), ν') ∧ PB N n c μ' ν' ∧ FPc μ μ' ∧ FPm ν ν' := by
  have hn : n ≤ 1000 := Nat.le_trans h.1.1 h.1.2.1
  have ht : t ≤ n := h.2.2.2.2.2.1.2.1
  have h26 := h.2.2.2.2.1
  obtain ⟨μ', ν', s1, s2, s3, s4, s5⟩ := p_fail2 (k := 1) h (by decide)
  have ei : fX13_isName (fu + 1001) 0 ν = _ := p_isName h (fu + 951)
  unfold fX5_takeName fX13_readName
  simp only [jn_eq, nm_eq]
  rw [c_at hn h.2.1 ht h.2.2.1, bnd_some, if_neg q, if_neg (show ¬ ¬ (0 : Int32) = 0 from fun z => z rfl), s1, bnd_some, if_neg (show ¬ ¬ ν.1 26 0 26 = 0 from fun z => z h26), ei, bnd_some, if_neg q, if_pos (show (0 : Int32) = 0 from rfl), m_chk0 s2, bnd_some, if_pos (b_err s3), b_advance s3, bnd_some]
  exact ⟨μ', ν', rfl, rfl, s3, s4, s5⟩
/-- the model notes a name -/
theorem p_nameM {N n t m g : Nat} {c : Nat → Int32} {μ ν : Mem} (h : PG N n c t μ ν) (hm : ν.1 26 0 39 = nI m) (hm' : m < 400) (q : syA N n c t = 2) (hg : g < 700) (fu : Nat) :
    ∃ ν', fX13_readName (fu + 1001) 0 (nI g) ν = some ((), ν') ∧ PG N n c (t + 1) (wI μ 2 0 6 (nI (t + 1))) ν' ∧ FPm (noteM ν m (tkP c N t) (tkE c N (tkP c N t) - tkP c N t) g) ν' := by
  have hn : n ≤ 1000 := Nat.le_trans h.1.1 h.1.2.1
  have ht : t ≤ n := h.2.2.2.2.2.1.2.1
  have h26 := h.2.2.2.2.1
  obtain ⟨l, -⟩ := sy_2 q
  have ei : fX13_isName (fu + 1001) 0 ν = _ := p_isName h (fu + 951)
  have w3 := h.2.2.2.2.2.1.2.2
  rw [if_pos l] at w3
  have gx := tk_gt (c := c) (h.1.2.2.1 t l)
  have h' : PG N n c t μ (noteM ν m (tkP c N t) (tkE c N (tkP c N t) - tkP c N t) g) := pg_m h (fun q a b => by unfold noteM; rw [wI_o (by omega), wI_o (by omega), wI_o (by omega), wI_o (by omega)]) (funext fun k => by unfold noteM; rw [wI_o (by omega), wI_o (by omega), wI_o (by omega), wI_o (by omega)])
  obtain ⟨ν', s1, s2, s3⟩ := p_next h' l fu
  refine ⟨ν', ?_, s2, fpm_fw s3⟩
  unfold fX13_readName
  simp only [jn_eq, nm_eq]
  have e1 : ∀ v, (wI ν 28 10 m v).1 26 0 39 = nI m := fun v => (wI_o (by omega)).trans hm
  have e2 : ∀ v w, (wI (wI ν 28 10 m v) 28 11 m w).1 26 0 39 = nI m := fun v w => (wI_o (by omega)).trans (e1 v)
  have e3 : ∀ v w u, (wI (wI (wI ν 28 10 m v) 28 11 m w) 28 12 m u).1 26 0 39 = nI m := fun v w u => (wI_o (by omega)).trans (e2 v w)
  have e4 : ∀ v, (wI ν 28 10 m v).1 26 0 24 = nI (tkP c N t) := fun v => (wI_o (by omega)).trans w3.1
  have e5 : ∀ v, (wI ν 28 10 m v).1 26 0 23 = nI (tkE c N (tkP c N t)) := fun v => (wI_o (by omega)).trans w3.2.1
  rw [if_neg (show ¬ ¬ ν.1 26 0 26 = 0 from fun z => z h26), ei, bnd_some, if_pos q, if_neg (show ¬ (1 : Int32) = 0 by decide), m_chk1, bnd_some, if_neg (show ¬ ¬ ν.1 26 0 26 = 0 from fun z => z h26), hm, ckI_nI (show m < mil.getD 10 0 from hm') (by decide), nI_clamp (n := m) (by omega), w3.1]
  rw [e1, ckI_nI (show m < mil.getD 11 0 from hm') (by decide), nI_clamp (n := m) (by omega), e4, e5, show nI (tkE c N (tkP c N t)) - nI (tkP c N t) = nI (tkE c N (tkP c N t) - tkP c N t) from pk_sub (by omega)]
  rw [e2, ckI_nI (show m < mil.getD 12 0 from hm') (by decide), nI_clamp (n := m) (by omega), e3, nI_1]
  unfold fX13_advance
  simp only [jn_eq]
  have e6 : (noteM ν m (tkP c N t) (tkE c N (tkP c N t) - tkP c N t) g).1 26 0 26 = 0 := h'.2.2.2.2.1
  show (bnd (if ¬ (noteM ν m (tkP c N t) (tkE c N (tkP c N t) - tkP c N t) g).1 26 0 26 = 0 then some ((), noteM ν m (tkP c N t) (tkE c N (tkP c N t) - tkP c N t) g) else bnd (fX13_scan (fu + 1001) 0 (noteM ν m (tkP c N t) (tkE c N (tkP c N t) - tkP c N t) g)) fun _ μ1 => some ((), μ1)) fun _ μ6 => some ((), μ6)) = _
  rw [if_neg (fun z => z e6), s1, bnd_some, bnd_some]
theorem d_name {N n : Nat} {c : Nat → Int32} {μ : Mem} (h : DD N n c μ) (fu : Nat) : fX5_takeName fu 0 μ = some (0, μ) := by
  unfold fX5_takeName
  rw [d_at h, bnd_some, if_neg (show ¬ (2 : Nat) = 1 by decide), if_neg (show ¬ ¬ (0 : Int32) = 0 from fun z => z rfl), d_fail h, bnd_some]
theorem b_name {N n : Nat} {c : Nat → Int32} {μ ν : Mem} {p : Int32} (h : PB N n c μ ν) (fu : Nat) : fX13_readName (fu + 1) 0 p ν = some ((), ν) := by
  unfold fX13_readName
  simp only [jn_eq, nm_eq]
  rw [if_pos (b_err h), m_chk1, bnd_some, if_pos (b_err h), b_advance h, bnd_some]
