/-! PARSING in pairs: which word of a list the token is -/
/-- the symbol that word k of list l is -/
def swL (l k : Nat) : Nat := syT.idxOf (strAt l k)
def ixG (l r : Nat) : Nat → Nat → Int32
  | 0, _ => -1
  | d + 1, k => if ¬ (l = 1 ∧ k = 0) ∧ r = swL l k then nI k else ixG l r d (k + 1)
def ix (l r : Nat) : Int32 := ixG l r (stl.getD l 0) 0
def swOk (l k : Nat) : Bool := decide (swL l k < 74) && decide (syT.getD (swL l k) 0 = strAt l k) && decide (0 < txN.getD (syT.getD (swL l k) 0) 0) && tkL (txC (syT.getD (swL l k) 0) 0)
theorem sw_all : ∀ l, l < 4 → ∀ k, k < 33 → k < stl.getD l 0 → (l = 1 ∧ k = 0) ∨ swOk l k = true := by decide +kernel
theorem sw_ok (l : Nat) (hl : l < 4) (k : Nat) (hk : k < 33) (hs : k < stl.getD l 0) (h : ¬ (l = 1 ∧ k = 0)) : swL l k < 74 ∧ syT.getD (swL l k) 0 = strAt l k ∧ 0 < txN.getD (syT.getD (swL l k) 0) 0 ∧ tkL (txC (syT.getD (swL l k) 0) 0) = true := by
  have a := (sw_all l hl k hk hs).resolve_left h
  unfold swOk at a
  rw [Bool.and_eq_true, Bool.and_eq_true, Bool.and_eq_true] at a
  exact ⟨of_decide_eq_true a.1.1.1, of_decide_eq_true a.1.1.2, of_decide_eq_true a.1.2, a.2⟩
theorem stl_le : ∀ l, l < 4 → stl.getD l 0 ≤ 33 := by decide
/-- no token has the empty text -/
theorem p_empty {N n t : Nat} {c : Nat → Int32} {μ ν : Mem} (h : PG N n c t μ ν) (fu : Nat) : fX13_isWord (fu + 14) 0 13 ν = some (0, ν) := by
  obtain ⟨hT, hC, h6, h7, h26, ⟨hw1, hw2, hw3⟩, hB⟩ := h
  have hN := hT.2.1
  by_cases g : t < n
  · rw [if_pos g] at hw3
    have l := hT.2.2.1 t g
    have gt := tk_gt (c := c) l
    have f : ¬ wdE (ν.1 28 7) (tkP c N t) (tkE c N (tkP c N t)) 13 = true := fun z => by
      unfold wdE at z
      rw [Bool.and_eq_true] at z
      have := of_decide_eq_true z.1
      have z0 : txN.getD 13 0 = 0 := by decide
      omega
    rw [m_isWord (by omega) (by omega) hw3.1 hw3.2.1 fu, if_neg (fun z => f z.2.2)]
  · rw [if_neg g] at hw3
    rw [m_isWord hN (Nat.le_refl N) hw3.1 hw3.2.1 fu, hw3.2.2, if_neg (fun z => absurd z.2.1 (by decide))]
theorem p_index {N n t l : Nat} {c : Nat → Int32} {μ ν : Mem} (h : PG N n c t μ ν) (hl : l < 4) (fu : Nat) : fX13_indexIn (fu + 50) 0 l ν = some (ix l (syA N n c t), ν) := by
  unfold fX13_indexIn ix
  simp only [jn_eq, nm_eq]
  have L := stl_le l hl
  refine (lp_ind (P := fun d (f : Mem → Int32 → Option (Int32 × Mem)) => ∀ k q, k + q = stl.getD l 0 → q < d + 1 → f ν (nI k) = some (ixG l (syA N n c t) q k, ν)) (fun f k q hk hq => ?_) (fun d f ih k q hk hq => ?_) 49 fu) 0 _ (by omega) (by omega)
  · obtain rfl : q = 0 := by omega
    rw [if_pos (show Int32.ofNat (stl.getD l 0) ≤ nI k from by rw [show k = stl.getD l 0 by omega]; exact Int32.le_refl _)]
    rfl
  · obtain _ | q := q
    · rw [if_pos (show Int32.ofNat (stl.getD l 0) ≤ nI k from by rw [show k = stl.getD l 0 by omega]; exact Int32.le_refl _)]
      rfl
    · rw [if_neg (show ¬ Int32.ofNat (stl.getD l 0) ≤ nI k from fun z => absurd ((nI_leI (a := stl.getD l 0) (by omega) (by omega)).1 z) (by omega)), ckI_nI (show k < stl.getD l 0 by omega) (by omega), nI_clamp (n := k) (by omega)]
      show _ = some (if ¬ (l = 1 ∧ k = 0) ∧ syA N n c t = swL l k then nI k else ixG l (syA N n c t) q (k + 1), ν)
      by_cases e : l = 1 ∧ k = 0
      · obtain ⟨rfl, rfl⟩ := e
        have ew : fX13_isWord (fu + 50) 0 (strAt 1 0) ν = some (0, ν) := p_empty h (fu + 36)
        rw [ew, bnd_some, if_pos (show (0 : Int32) = 0 from rfl), if_neg (fun z => z.1 ⟨rfl, rfl⟩), nI_1]
        exact ih 1 q (by omega) (by omega)
      · obtain ⟨s1, s2, s3, s4⟩ := sw_ok l hl k (by omega) (by omega) e
        have ew : fX13_isWord (fu + 50) 0 (syT.getD (swL l k) 0) ν = _ := p_word h s1 s3 s4 (fu + 36)
        rw [← s2, ew, bnd_some]
        by_cases g : syA N n c t = swL l k
        · rw [if_pos g, if_neg (show ¬ (1 : Int32) = 0 by decide), if_pos ⟨e, g⟩]
        · rw [if_neg g, if_pos (show (0 : Int32) = 0 from rfl), if_neg (fun z => g z.2), nI_1]
          exact ih (k + 1) q (by omega) (by omega)
theorem b_index {N n l : Nat} {c : Nat → Int32} {μ ν : Mem} (h : PB N n c μ ν) (hl : l < 4) (fu : Nat) : fX13_indexIn (fu + 50) 0 l ν = some (-1, ν) := by
  unfold fX13_indexIn
  simp only [jn_eq, nm_eq]
  have L := stl_le l hl
  refine (lp_ind (P := fun d (f : Mem → Int32 → Option (Int32 × Mem)) => ∀ k q, k + q = stl.getD l 0 → q < d + 1 → f ν (nI k) = some (-1, ν)) (fun f k q hk hq => ?_) (fun d f ih k q hk hq => ?_) 49 fu) 0 _ (Nat.zero_add _) (by omega)
  · obtain rfl : q = 0 := by omega
    rw [if_pos (show Int32.ofNat (stl.getD l 0) ≤ nI k from by rw [show k = stl.getD l 0 by omega]; exact Int32.le_refl _)]
  · obtain _ | q := q
    · rw [if_pos (show Int32.ofNat (stl.getD l 0) ≤ nI k from by rw [show k = stl.getD l 0 by omega]; exact Int32.le_refl _)]
    · rw [if_neg (show ¬ Int32.ofNat (stl.getD l 0) ≤ nI k from fun z => absurd ((nI_leI (a := stl.getD l 0) (by omega) (by omega)).1 z) (by omega)), ckI_nI (show k < stl.getD l 0 by omega) (by omega), nI_clamp (n := k) (by omega)]
      have ew : fX13_isWord (fu + 50) 0 (strAt l k) ν = some (0, ν) := b_isWord h (fu + 49)
      rw [ew, bnd_some, if_pos (show (0 : Int32) = 0 from rfl), nI_1]
      exact ih (k + 1) q (by omega) (by omega)
/-- the symbol of a token of letters -/
theorem sy_word {N n t : Nat} {c : Nat → Int32} (hT : TP N n c) (g : t < n) (hl : tkL (c (tkP c N t)) = true) : syA N n c t = 2 ∨ (0 < txN.getD (syT.getD (syA N n c t) 0) 0 ∧ tkL (txC (syT.getD (syA N n c t) 0) 0) = true) := by
  have l := hT.2.2.1 t g
  have gt := tk_gt (c := c) l
  have hd : ¬ tkD (c (tkP c N t)) = true := fun z => tk_LD z hl
  by_cases q : syA N n c t = 2
  · exact Or.inl q
  · refine Or.inr ?_
    have e : syA N n c t = spG c (tkP c N t) (tkE c N (tkP c N t)) 2 74 0 := by unfold syA tkY; rw [if_pos g, if_neg hd, if_pos hl]
    have w := sp_is q _ _ e.symm
    have h0 : 0 < txN.getD (syT.getD (syA N n c t) 0) 0 := by
      have z := w
      unfold wdE at z
      rw [Bool.and_eq_true] at z
      have := of_decide_eq_true z.1
      omega
    exact ⟨h0, by rw [wd_first h0 w]; exact hl⟩
theorem sy_2 {N n t : Nat} {c : Nat → Int32} (q : syA N n c t = 2) : t < n ∧ tkL (c (tkP c N t)) = true := by
  unfold syA at q
  by_cases g : t < n
  · rw [if_pos g] at q
    refine ⟨g, ?_⟩
    unfold tkY at q
    by_cases hd : tkD (c (tkP c N t)) = true
    · rw [if_pos hd] at q; exact absurd q (by decide)
    · rw [if_neg hd] at q
      by_cases hl : tkL (c (tkP c N t)) = true
      · exact hl
      · rw [if_neg hl] at q
        have w := sp_is (by decide) _ _ q
        unfold wdE at w
        rw [Bool.and_eq_true] at w
        have := of_decide_eq_true w.1
        have z0 : txN.getD (syT.getD 2 0) 0 = 0 := by decide
        omega
  · rw [if_neg g] at q; exact absurd q (by decide)
theorem ix_some : ∀ r, r < 74 → 0 < txN.getD (syT.getD r 0) 0 → tkL (txC (syT.getD r 0) 0) = true → ix 0 r ≠ -1 ∨ ix 1 r ≠ -1 ∨ ix 2 r ≠ -1 ∨ ix 3 r ≠ -1 := by decide +kernel
theorem ix_name : ix 0 2 = -1 ∧ ix 1 2 = -1 ∧ ix 2 2 = -1 ∧ ix 3 2 = -1 := by decide +kernel
theorem p_isName {N n t : Nat} {c : Nat → Int32} {μ ν : Mem} (h : PG N n c t μ ν) (fu : Nat) : fX13_isName (fu + 50) 0 ν = some (if syA N n c t = 2 then 1 else 0, ν) := by
  have hT := h.1
  have h26 := h.2.2.2.2.1
  obtain ⟨hw1, hw2, hw3⟩ := h.2.2.2.2.2.1
  unfold fX13_isName
  simp only [jn_eq, nm_eq]
  rw [if_neg (fun z => z h26)]
  by_cases k1 : ν.1 26 0 25 = 1
  · have g : t < n := Classical.byContradiction fun g => by rw [if_neg g] at hw3; rw [hw3.2.2] at k1; exact absurd k1 (by decide)
    rw [if_pos g] at hw3
    have hl : tkL (c (tkP c N t)) = true := tkK_1.1 (hw3.2.2.symm.trans k1)
    rw [if_neg (fun z => z k1)]
    simp only [p_index h (show 0 < 4 by decide), p_index h (show 1 < 4 by decide), p_index h (show 2 < 4 by decide), p_index h (show 3 < 4 by decide), bnd_some]
    obtain q | ⟨q0, q1⟩ := sy_word hT g hl
    · rw [q, ix_name.1, ix_name.2.1, ix_name.2.2.1, ix_name.2.2.2, if_neg (fun z => z rfl), if_neg (fun z => z rfl), if_neg (fun z => z rfl), if_neg (fun z => z rfl), ckZ_ok (Or.inr rfl)]
      rfl
    · have qn : ¬ syA N n c t = 2 := fun z => by rw [z] at q0; exact absurd q0 (by decide)
      rw [if_neg qn, ckZ_ok (Or.inl rfl)]
      have a := ix_some _ (syA_lt (N := N) (n := n) (c := c) (t := t)) q0 q1
      by_cases a0 : ix 0 (syA N n c t) = -1
      · rw [if_neg (fun z => z a0)]
        by_cases a1 : ix 1 (syA N n c t) = -1
        · rw [if_neg (fun z => z a1)]
          by_cases a2 : ix 2 (syA N n c t) = -1
          · rw [if_neg (fun z => z a2)]
            have a3 : ¬ ix 3 (syA N n c t) = -1 := fun z => by
              rcases a with q | q | q | q <;> exact q (by assumption)
            rw [if_pos a3]
          · rw [if_pos a2]
        · rw [if_pos a1]
      · rw [if_pos a0]
  · have qn : ¬ syA N n c t = 2 := fun z => by
      obtain ⟨g, hl⟩ := sy_2 z
      rw [if_pos g] at hw3
      exact k1 (hw3.2.2.trans (tkK_1.2 hl))
    rw [if_pos k1, if_neg qn, ckZ_ok (Or.inl rfl)]
theorem b_isName {N n : Nat} {c : Nat → Int32} {μ ν : Mem} (h : PB N n c μ ν) (fu : Nat) : fX13_isName fu 0 ν = some (0, ν) := by
  unfold fX13_isName
  simp only [jn_eq, nm_eq]
  rw [if_pos (b_err h), ckZ_ok (Or.inl rfl)]
