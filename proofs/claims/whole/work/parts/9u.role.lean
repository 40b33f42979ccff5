/-! PARSING in pairs: roles -/
theorem pg_c {N n t : Nat} {c : Nat → Int32} {μ μ' ν : Mem} (h : PG N n c t μ ν) (e : ∀ κ a q, κ = 1 ∨ κ = 2 ∨ κ = 4 → μ'.1 κ a q = μ.1 κ a q) (er : μ'.2.1 3 0 = μ.2.1 3 0) : PG N n c t μ' ν := by
  obtain ⟨hT, ⟨c1, c2, c3, c4, c5, c6⟩, h6, h7, h26, hw, hB⟩ := h
  refine ⟨hT, ⟨(e _ _ _ (by omega)).trans c1, fun q hq => ?_, (e _ _ _ (by omega)).trans c3, (e _ _ _ (by omega)).trans c4, (congrFun er _).trans c5, (funext fun k => e _ _ _ (by omega)).trans c6.1, fun w => (e _ _ _ (by omega)).trans (c6.2 ((e _ _ _ (by omega)).symm.trans w))⟩, (e _ _ _ (by omega)).trans h6, (e _ _ _ (by omega)).trans h7, h26, hw, hB⟩
  obtain ⟨a1, a2, a3, a4⟩ := c2 q hq
  exact ⟨(e _ _ _ (by omega)).trans a1, (e _ _ _ (by omega)).trans a2, (e _ _ _ (by omega)).trans a3, (congrFun er _).trans a4⟩
theorem pg_m {N n t : Nat} {c : Nat → Int32} {μ ν ν' : Mem} (h : PG N n c t μ ν) (e : ∀ q, 22 ≤ q → q ≤ 26 → ν'.1 26 0 q = ν.1 26 0 q) (e7 : ν'.1 28 7 = ν.1 28 7) : PG N n c t μ ν' := by
  obtain ⟨hT, hC, h6, h7, h26, hw, hB⟩ := h
  exact ⟨hT, hC, h6, h7, (e 26 (by decide) (by decide)).trans h26, tw_congr (fun k a b => e k a (by omega)) hw, by rw [e7]; exact hB⟩
theorem pb_c {N n : Nat} {c : Nat → Int32} {μ μ' ν : Mem} (h : PB N n c μ ν) (e : ∀ κ a q, κ = 1 ∨ κ = 2 ∨ κ = 4 → μ'.1 κ a q = μ.1 κ a q) (er : μ'.2.1 3 0 = μ.2.1 3 0) : PB N n c μ' ν := by
  obtain ⟨hT, ⟨c1, c2, c3, c4, c5, c6⟩, h6, h7, h26, h8, hw⟩ := h
  refine ⟨hT, ⟨(e _ _ _ (by omega)).trans c1, fun q hq => ?_, (e _ _ _ (by omega)).trans c3, (e _ _ _ (by omega)).trans c4, (congrFun er _).trans c5, (funext fun k => e _ _ _ (by omega)).trans c6.1, fun w => (e _ _ _ (by omega)).trans (c6.2 ((e _ _ _ (by omega)).symm.trans w))⟩, (e _ _ _ (by omega)).trans h6, by rw [e _ _ _ (by omega)]; exact h7, by rw [e _ _ _ (by omega)]; exact h26, (e _ _ _ (by omega)).trans h8, hw⟩
  obtain ⟨a1, a2, a3, a4⟩ := c2 q hq
  exact ⟨(e _ _ _ (by omega)).trans a1, (e _ _ _ (by omega)).trans a2, (e _ _ _ (by omega)).trans a3, (congrFun er _).trans a4⟩
theorem pb_m {N n : Nat} {c : Nat → Int32} {μ ν ν' : Mem} (h : PB N n c μ ν) (e : ∀ q, 22 ≤ q → q ≤ 27 → ν'.1 26 0 q = ν.1 26 0 q) : PB N n c μ ν' := by
  obtain ⟨hT, hC, h6, h7, h26, h8, t, hw⟩ := h
  exact ⟨hT, hC, h6, h7, (e 26 (by decide) (by decide)).trans h26, h8.trans (e 27 (by decide) (by decide)).symm, t, tw_congr (fun k a b => e k a (by omega)) hw⟩
/-- the class's state where its reading is over: after an error it stands at the end -/
def DD (N n : Nat) (c : Nat → Int32) (μ : Mem) : Prop := n ≤ 1000 ∧ CT N n c μ ∧ μ.1 2 0 6 = nI n ∧ μ.1 2 0 7 ≠ 0
theorem pb_dd {N n : Nat} {c : Nat → Int32} {μ ν : Mem} (h : PB N n c μ ν) : DD N n c μ := ⟨Nat.le_trans h.1.1 h.1.2.1, h.2.1, h.2.2.1, h.2.2.2.1⟩
theorem dd_c {N n : Nat} {c : Nat → Int32} {μ μ' : Mem} (h : DD N n c μ) (e : ∀ κ a q, κ = 1 ∨ κ = 2 ∨ κ = 4 → μ'.1 κ a q = μ.1 κ a q) (er : μ'.2.1 3 0 = μ.2.1 3 0) : DD N n c μ' := by
  obtain ⟨hn, ⟨c1, c2, c3, c4, c5, c6⟩, h6, h7⟩ := h
  refine ⟨hn, ⟨(e _ _ _ (by omega)).trans c1, fun q hq => ?_, (e _ _ _ (by omega)).trans c3, (e _ _ _ (by omega)).trans c4, (congrFun er _).trans c5, (funext fun k => e _ _ _ (by omega)).trans c6.1, fun w => (e _ _ _ (by omega)).trans (c6.2 ((e _ _ _ (by omega)).symm.trans w))⟩, (e _ _ _ (by omega)).trans h6, by rw [e _ _ _ (by omega)]; exact h7⟩
  obtain ⟨a1, a2, a3, a4⟩ := c2 q hq
  exact ⟨(e _ _ _ (by omega)).trans a1, (e _ _ _ (by omega)).trans a2, (e _ _ _ (by omega)).trans a3, (congrFun er _).trans a4⟩
theorem d_fail {N n : Nat} {c : Nat → Int32} {μ : Mem} {k : Int32} (h : DD N n c μ) : fX11_fail 0 k μ = some ((), μ) := by
  obtain ⟨hn, hC, h6, h7⟩ := h
  unfold fX11_fail
  simp only [jn_eq, nm_eq]
  rw [if_pos h7, hC.1, ← h6, wI_id]
theorem d_at {N n a : Nat} {c : Nat → Int32} {μ : Mem} (h : DD N n c μ) : fX11_at 0 a μ = some (if a = 1 then 1 else 0, μ) := by
  have e : syA N n c n = 1 := by unfold syA; rw [if_neg (by omega)]
  rw [c_at h.1 h.2.1 (Nat.le_refl n) h.2.2.1, e]
  by_cases g : a = 1
  · rw [if_pos g, if_pos g.symm]
  · rw [if_neg g, if_neg (fun z => g z.symm)]
theorem d_skip {N n a : Nat} {c : Nat → Int32} {μ : Mem} (h : DD N n c μ) : fX11_skip 0 a μ = some (0, μ) := by
  have f : ¬ (n < n ∧ syA N n c n = a) := fun z => absurd z.1 (by omega)
  rw [c_skip h.1 h.2.1 (Nat.le_refl n) h.2.2.1, if_neg f, if_neg f]
theorem d_expect {N n a : Nat} {c : Nat → Int32} {μ : Mem} (h : DD N n c μ) : fX11_expect 0 a μ = some ((), μ) := by
  unfold fX11_expect
  simp only [jn_eq]
  rw [d_skip h, bnd_some, if_neg (show ¬ ¬ (0 : Int32) = 0 from fun z => z rfl), d_fail h, bnd_some]
theorem d_number {N n : Nat} {c : Nat → Int32} {μ : Mem} {lo hi : Int32} (h : DD N n c μ) : fX11_takeNumber 0 lo hi μ = some (lo, μ) := by
  unfold fX11_takeNumber
  rw [d_at h, bnd_some, if_neg (show ¬ (3 : Nat) = 1 by decide), if_neg (show ¬ ¬ (0 : Int32) = 0 from fun z => z rfl), d_fail h, bnd_some]
theorem c_atRole {N n t : Nat} {c : Nat → Int32} {μ : Mem} {r : Int32} (hn : n ≤ 1000) (h : CT N n c μ) (ht : t ≤ n) (h6 : μ.1 2 0 6 = nI t) : fX11_atRole 0 r μ = some (if syR.getD (syA N n c t) 0 &&& r = 0 then 0 else 1, μ) := by
  unfold fX11_atRole
  simp only [jn_eq, nm_eq]
  rw [h6, ckI_nI (show t < 1001 by omega) (by decide), nI_clamp (n := t) (by omega), ct_sy h ht, ckB_ok syA_lt]
  by_cases g : syR.getD (syA N n c t) 0 &&& r = 0
  · rw [if_pos g, if_pos g, ckZ_ok (Or.inl rfl)]
  · rw [if_neg g, if_neg g, ckZ_ok (Or.inr rfl)]
theorem sy_end {N n t : Nat} {c : Nat → Int32} (g : ¬ t < n) : syA N n c t = 1 := by unfold syA; rw [if_neg g]
theorem c_takeOpt {N n t : Nat} {c : Nat → Int32} {μ : Mem} {r : Int32} (hn : n ≤ 1000) (h : CT N n c μ) (ht : t ≤ n) (h6 : μ.1 2 0 6 = nI t) : fX11_takeOptional 0 r μ = some (if syR.getD (syA N n c t) 0 &&& r = 0 then (0, μ) else (syA N n c t, wI μ 2 0 6 (nI (t + 1)))) := by
  unfold fX11_takeOptional
  simp only [jn_eq, nm_eq]
  rw [c_atRole hn h ht h6, bnd_some, h6, h.1]
  by_cases g : syR.getD (syA N n c t) 0 &&& r = 0
  · rw [if_pos g, if_pos (show (0 : Int32) = 0 from rfl), if_pos g]
  · have l : t < n := Classical.byContradiction fun z => g (by rw [sy_end z]; show (0 : Int32) &&& r = 0; simp)
    rw [if_neg g, if_neg (show ¬ (1 : Int32) = 0 by decide), if_pos (nI_lt l (by omega)), if_neg g, wI_same, nI_1, show nI (t + 1) - 1 = nI t from (pk_sub (a := t + 1) (b := 1) (by omega)), ckI_nI (show t < 1001 by omega) (by decide), nI_clamp (n := t) (by omega)]
    show ckB (μ.2.1 3 0 t) 74 (some (μ.2.1 3 0 t, wI μ 2 0 6 (nI (t + 1)))) = _
    rw [ct_sy h ht, ckB_ok syA_lt]
theorem d_takeOpt {N n : Nat} {c : Nat → Int32} {μ : Mem} {r : Int32} (h : DD N n c μ) : fX11_takeOptional 0 r μ = some (0, μ) := by
  rw [c_takeOpt h.1 h.2.1 (Nat.le_refl n) h.2.2.1, if_pos]
  rw [sy_end (by omega)]; show (0 : Int32) &&& r = 0; simp
theorem d_atRole {N n : Nat} {c : Nat → Int32} {μ : Mem} {r : Int32} (h : DD N n c μ) : fX11_atRole 0 r μ = some (0, μ) := by
  rw [c_atRole h.1 h.2.1 (Nat.le_refl n) h.2.2.1, if_pos]
  rw [sy_end (by omega)]; show (0 : Int32) &&& r = 0; simp
theorem d_takeRole {N n : Nat} {c : Nat → Int32} {μ : Mem} {r : Int32} (h : DD N n c μ) : fX11_takeRole 0 r μ = some (0, μ) := by
  unfold fX11_takeRole
  simp only [jn_eq]
  rw [d_takeOpt h, bnd_some, ckB_ok (by decide), if_neg (show ¬ ¬ (0 : Nat) = 0 from fun z => z rfl), d_fail h, bnd_some]
/-- a token with a role is taken, or both fail -/
theorem c_takeRole {N n t : Nat} {c : Nat → Int32} {μ : Mem} {r : Int32} (hn : n ≤ 1000) (h : CT N n c μ) (ht : t ≤ n) (h6 : μ.1 2 0 6 = nI t) (g : ¬ syR.getD (syA N n c t) 0 &&& r = 0) : fX11_takeRole 0 r μ = some (syA N n c t, wI μ 2 0 6 (nI (t + 1))) := by
  unfold fX11_takeRole
  simp only [jn_eq]
  have z : ¬ syA N n c t = 0 := fun z => g (by rw [z]; show (0 : Int32) &&& r = 0; simp)
  rw [c_takeOpt hn h ht h6, if_neg g, bnd_some, ckB_ok syA_lt, if_pos z]
theorem c_noRole {N n t : Nat} {c : Nat → Int32} {μ μ' : Mem} {r : Int32} (hn : n ≤ 1000) (h : CT N n c μ) (ht : t ≤ n) (h6 : μ.1 2 0 6 = nI t) (g : syR.getD (syA N n c t) 0 &&& r = 0) (f : fX11_fail 0 1 μ = some ((), μ')) : fX11_takeRole 0 r μ = some (0, μ') := by
  unfold fX11_takeRole
  simp only [jn_eq]
  rw [c_takeOpt hn h ht h6, if_pos g, bnd_some, ckB_ok (by decide), if_neg (show ¬ ¬ (0 : Nat) = 0 from fun z => z rfl), f, bnd_some]
theorem role_lt {N n t : Nat} {c : Nat → Int32} {r : Int32} (g : ¬ syR.getD (syA N n c t) 0 &&& r = 0) : t < n := Classical.byContradiction fun z => g (by rw [sy_end z]; show (0 : Int32) &&& r = 0; simp)
/-- a place: the class takes a role, the model a word of its list of places -/
theorem p_place {N n t p : Nat} {c : Nat → Int32} {μ ν : Mem} {r m : Int32} (h : PG N n c t μ ν) (hp : p < 700) (hm : ∀ s, s < 74 → (¬ syR.getD s 0 &&& r = 0 ↔ ¬ ix 2 s = -1 ∧ (m >>> (ix 2 s &&& 31)) &&& 1 = 1)) (fu : Nat) :
    ∃ μ' ν' a, fX11_takeRole 0 r μ = some (a, μ') ∧ fX13_readPlace (fu + 1001) 0 (nI p) m ν = some ((), ν') ∧ ((t < n ∧ a = syA N n c t ∧ ¬ syR.getD a 0 &&& r = 0 ∧ PG N n c (t + 1) μ' ν' ∧ FPm (wI ν 27 1 p (ix 2 a)) ν') ∨ (a = 0 ∧ PB N n c μ' ν' ∧ FPm ν ν')) ∧ FPc μ μ' := by
  have hn : n ≤ 1000 := Nat.le_trans h.1.1 h.1.2.1
  have ht : t ≤ n := h.2.2.2.2.2.1.2.1
  have h26 := h.2.2.2.2.1
  have hm := hm _ (syA_lt (N := N) (n := n) (c := c) (t := t))
  have ei : fX13_indexIn (fu + 1001) 0 2 ν = _ := p_index h (show 2 < 4 by decide) (fu + 951)
  unfold fX13_readPlace
  simp only [jn_eq, nm_eq]
  rw [ei, bnd_some, if_neg (show ¬ ¬ ν.1 26 0 26 = 0 from fun z => z h26)]
  by_cases g : syR.getD (syA N n c t) 0 &&& r = 0
  · have hm' : ¬ (¬ ix 2 (syA N n c t) = -1 ∧ (m >>> (ix 2 (syA N n c t) &&& 31)) &&& 1 = 1) := fun z => hm.2 z g
    obtain ⟨μ', ν', s1, s2, s3, s4, s5⟩ := p_fail2 (k := 1) h (by decide)
    refine ⟨μ', ν', 0, c_noRole hn h.2.1 ht h.2.2.1 g s1, ?_, Or.inr ⟨rfl, s3, s5⟩, s4⟩
    have fin : (bnd (fX13_check 0 0 1 ν) fun _ (μ8 : Mem) => if ¬ μ8.1 26 0 26 = 0 then bnd (fX13_advance (fu + 1001) 0 μ8) fun _ μ7 => some ((), μ7) else ckI (nI p) (if 1 = 4 then 7000 else 700) (bnd (fX13_advance (fu + 1001) 0 (wI μ8 27 1 (nI p).toNatClampNeg (ix 2 (syA N n c t)))) fun _ μ7 => some ((), μ7))) = some ((), ν') := by
      rw [m_chk0 s2, bnd_some, if_pos (b_err s3), b_advance s3, bnd_some]
    by_cases e : ix 2 (syA N n c t) = -1
    · rw [if_pos e]; exact fin
    · rw [if_neg e, if_pos (show ¬ (m >>> (ix 2 (syA N n c t) &&& 31)) &&& 1 = 1 from fun z => hm' ⟨e, z⟩)]; exact fin
  · obtain ⟨m1, m2⟩ := hm.1 g
    have g' := role_lt g
    have h' : PG N n c t μ (wI ν 27 1 p (ix 2 (syA N n c t))) := pg_m h (fun q _ _ => wI_o (by omega)) (funext fun k => wI_o (by omega))
    obtain ⟨ν', s1, s2, s3⟩ := p_next h' g' fu
    rw [if_neg m1, if_neg (fun z => z m2), m_chk1, bnd_some, if_neg (show ¬ ¬ ν.1 26 0 26 = 0 from fun z => z h26), ckI_nI (show p < (if 1 = 4 then 7000 else 700) from hp) (by decide), nI_clamp (n := p) (by omega)]
    unfold fX13_advance
    simp only [jn_eq]
    rw [if_neg (show ¬ ¬ (wI ν 27 1 p (ix 2 (syA N n c t))).1 26 0 26 = 0 from fun z => z ((wI_o (by omega)).trans h26)), s1, bnd_some, bnd_some]
    exact ⟨_, ν', _, c_takeRole hn h.2.1 ht h.2.2.1 g, rfl, Or.inl ⟨g', rfl, g, s2, fpm_fw s3⟩, fpc_6⟩
theorem b_place {N n : Nat} {c : Nat → Int32} {μ ν : Mem} {p m : Int32} (h : PB N n c μ ν) (fu : Nat) : fX13_readPlace (fu + 1001) 0 p m ν = some ((), ν) := by
  have ei : fX13_indexIn (fu + 1001) 0 2 ν = _ := b_index h (show 2 < 4 by decide) (fu + 951)
  unfold fX13_readPlace
  simp only [jn_eq, nm_eq]
  rw [ei, bnd_some, if_pos (b_err h), m_chk1, bnd_some, if_pos (b_err h), b_advance h, bnd_some]
/-- a number that the model lays at p -/
theorem p_put {N n t lo hi p : Nat} {c : Nat → Int32} {μ ν : Mem} (h : PG N n c t μ ν) (hh : hi < 100000) (hlo : lo ≤ hi) (hp : p < 700) (fu : Nat) :
    ∃ μ' ν' v, fX11_takeNumber 0 (nI lo) (nI hi) μ = some (v, μ') ∧ fX13_putNumber (fu + 1001) 0 (nI p) (nI lo) (nI hi) ν = some ((), ν') ∧
      ((t < n ∧ (∃ k, lo ≤ k ∧ k ≤ hi ∧ v = nI k) ∧ PG N n c (t + 1) μ' ν' ∧ FPm (wI ν 27 1 p v) ν') ∨ (v = nI lo ∧ PB N n c μ' ν' ∧ FPm ν ν')) ∧ FPc μ μ' := by
  obtain ⟨μ', ν', v, s1, s2, s3, s4, s5⟩ := p_number h hh hlo fu
  unfold fX13_putNumber
  simp only [jn_eq, nm_eq]
  rw [s2, bnd_some]
  rcases s3 with ⟨a1, a2, a3⟩ | ⟨a1, a2⟩
  · rw [if_neg (show ¬ ¬ ν'.1 26 0 26 = 0 from fun z => z a3.2.2.2.2.1), ckI_nI (show p < (if 1 = 4 then 7000 else 700) from hp) (by decide), nI_clamp (n := p) (by omega)]
    refine ⟨μ', _, v, s1, rfl, Or.inl ⟨a1, a2, pg_m a3 (fun q _ _ => wI_o (by omega)) (funext fun k => wI_o (by omega)), ?_⟩, s4⟩
    refine ⟨fun κ a q z => ?_, s5.2⟩
    rw [wI_at, wI_at]
    by_cases e : κ = 27 ∧ a = 1 ∧ q = p
    · rw [if_pos e, if_pos e]
    · rw [if_neg e, if_neg e]; exact s5.1 κ a q z
  · rw [if_pos (b_err a2)]
    exact ⟨μ', ν', v, s1, rfl, Or.inr ⟨a1, a2, s5⟩, s4⟩
theorem b_put {N n : Nat} {c : Nat → Int32} {μ ν : Mem} {p lo hi : Int32} (h : PB N n c μ ν) (fu : Nat) : fX13_putNumber (fu + 1001) 0 p lo hi ν = some ((), ν) := by
  unfold fX13_putNumber
  simp only [jn_eq, nm_eq]
  rw [(b_number h fu).2, bnd_some, if_pos (b_err h)]
