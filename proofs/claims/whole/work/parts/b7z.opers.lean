/-! THE MODEL'S OPERANDS, AND ITS format -/
theorem m_op0 {fu x cnt : Nat} {t : List Int32} {ν : Mem} {a : Nat → Int32} {b : Nat → Nat} {P : Nat → Int32} (C1 : ∀ t, fX13_code 0 (nI x) (1 : Int32) (wM t ν) = some (P 1, wM t ν)) (C2 : ∀ t, fX13_code 0 (nI x) (2 : Int32) (wM t ν) = some (P 2, wM t ν)) (C3 : ∀ t, fX13_code 0 (nI x) (3 : Int32) (wM t ν) = some (P 3, wM t ν)) (h0 : 0 < t.length) (hl : t.length ≤ 8) (hcnt : cnt ≤ 32) (hm : ∃ c b9 : Nat, c ≤ 7 ∧ b9 < cnt ∧ P 1 = nI c ∧ P 2 = nI b9 ∧ a 1 = -1 ∧ b 2 = (if c = 0 then 0 else 42 + c) ∧ b 3 = 0 ∧ b 4 = 0 ∧ a 5 = nI b9) : fX13_writeOperands (fu + 13) 0 (nI x) (nI 0) (wM t ν) = some ((), wM (t ++ opT a b) ν) := by
  obtain ⟨c, b9, hc, hb, e1, e2, a1, b2, b3, b4, a5⟩ := hm
  simp only [fX13_writeOperands, jn_eq]
  rw [C1, bnd_some, C2, bnd_some, if_pos (show nI 0 = (0 : Int32) from rfl)]
  rw [e1, e2]
  by_cases c0 : c = 0
  · subst c0
    rw [if_pos rfl] at b2
    rw [if_pos (show nI 0 ≤ (0 : Int32) by decide), ckI_nI (show 0 < stl.getD 1 0 by decide) (by decide), m_if0, bnd_some, m_num (by omega) h0 (by omega), bnd_some]
    simp only [opT, a1, b2, b3, b4, a5, flt_pNm, flt_pW0, List.nil_append, List.append_nil, List.append_assoc]
  · rw [if_neg c0] at b2
    obtain ⟨g1, g2⟩ := jx_tx c hc c0
    have l1 := len_W t (42 + c)
    rw [if_neg (show ¬ nI c ≤ (0 : Int32) from fun z => absurd ((nI_leI (a := c) (b := 0) (by omega) (by decide)).1 z) (by omega)), ckI_nI (show c < stl.getD 1 0 from Nat.lt_succ_of_le hc) (by decide), nI_clamp (by omega), m_if1 g1 g2 h0 (by omega), bnd_some, m_num (by omega) (by omega) (by omega), bnd_some]
    simp only [opT, a1, b2, b3, b4, a5, flt_pNm, flt_pW0, List.nil_append, List.append_nil, List.append_assoc]
theorem m_op1 {fu x cnt : Nat} {t : List Int32} {ν : Mem} {a : Nat → Int32} {b : Nat → Nat} {P : Nat → Int32} (C1 : ∀ t, fX13_code 0 (nI x) (1 : Int32) (wM t ν) = some (P 1, wM t ν)) (C2 : ∀ t, fX13_code 0 (nI x) (2 : Int32) (wM t ν) = some (P 2, wM t ν)) (C3 : ∀ t, fX13_code 0 (nI x) (3 : Int32) (wM t ν) = some (P 3, wM t ν)) (h0 : 0 < t.length) (hl : t.length ≤ 8) (hcnt : cnt ≤ 32) (hm : ∃ a9 f n : Nat, a9 ≤ 1 ∧ f ≤ 1 ∧ n < (if f = 1 then 8 else 16) ∧ P 1 = nI a9 ∧ P 2 = nI f ∧ P 3 = nI n ∧ a 1 = nI a9 ∧ b 2 = (if f = 1 then 50 else 48) ∧ b 3 = 0 ∧ b 4 = 0 ∧ a 5 = nI n) : fX13_writeOperands (fu + 13) 0 (nI x) (nI 1) (wM t ν) = some ((), wM (t ++ opT a b) ν) := by
  obtain ⟨a9, f, n, ha, hf, hn, e1, e2, e3, a1, b2, b3, b4, a5⟩ := hm
  simp only [fX13_writeOperands, jn_eq]
  rw [C1, bnd_some, C2, bnd_some, if_neg (show ¬ nI 1 = (0 : Int32) by decide), if_pos (show nI 1 = (1 : Int32) from rfl)]
  have hn16 : n < 16 := by split at hn <;> omega
  have l1 := len_N t (m := a9) (by omega)
  rw [e1, e2, m_num (by omega) h0 (by omega), bnd_some]
  rcases (by omega : f = 0 ∨ f = 1) with rfl | rfl
  · rw [if_neg (by decide)] at b2
    have l2 := len_W (t ++ flt (pN (nI a9))) 48
    rw [if_pos (show ¬ nI 0 = (1 : Int32) by decide), m_word (j := 48) (by decide) (by decide) (by omega) (by omega), bnd_some, C3, bnd_some, e3, m_num (by omega) (by omega) (by omega), bnd_some]
    simp only [opT, a1, b2, b3, b4, a5, flt_pNm, flt_pW0, List.nil_append, List.append_nil, List.append_assoc]
  · rw [if_pos rfl] at b2
    have l2 := len_W (t ++ flt (pN (nI a9))) 50
    rw [if_neg (show ¬ ¬ nI 1 = (1 : Int32) from fun z => z rfl), m_word (j := 50) (by decide) (by decide) (by omega) (by omega), bnd_some, C3, bnd_some, e3, m_num (by omega) (by omega) (by omega), bnd_some]
    simp only [opT, a1, b2, b3, b4, a5, flt_pNm, flt_pW0, List.nil_append, List.append_nil, List.append_assoc]
theorem m_op2 {fu x cnt : Nat} {t : List Int32} {ν : Mem} {a : Nat → Int32} {b : Nat → Nat} {P : Nat → Int32} (C1 : ∀ t, fX13_code 0 (nI x) (1 : Int32) (wM t ν) = some (P 1, wM t ν)) (C2 : ∀ t, fX13_code 0 (nI x) (2 : Int32) (wM t ν) = some (P 2, wM t ν)) (C3 : ∀ t, fX13_code 0 (nI x) (3 : Int32) (wM t ν) = some (P 3, wM t ν)) (h0 : 0 < t.length) (hl : t.length ≤ 8) (hcnt : cnt ≤ 32) (hm : ∃ c s n : Nat, isPl c s ∧ c ≤ 5 ∧ 1 ≤ n ∧ n ≤ 32 ∧ P 1 = nI c ∧ P 2 = nI n ∧ a 1 = -1 ∧ b 2 = s ∧ b 3 = 0 ∧ b 4 = 0 ∧ a 5 = nI n) : fX13_writeOperands (fu + 13) 0 (nI x) (nI 2) (wM t ν) = some ((), wM (t ++ opT a b) ν) := by
  obtain ⟨c, s, n, hp, hc5, hn1, hn2, e1, e2, a1, b2, b3, b4, a5⟩ := hm
  simp only [fX13_writeOperands, jn_eq]
  rw [C1, bnd_some, C2, bnd_some, if_neg (show ¬ nI 2 = (0 : Int32) by decide), if_neg (show ¬ nI 2 = (1 : Int32) by decide), if_pos (show nI 2 = (2 : Int32) from rfl)]
  have l1 := len_W t s
  rw [e1, e2, m_pl hp h0 (by omega), m_num (by omega) (by omega) (by omega), bnd_some]
  simp only [opT, a1, b2, b3, b4, a5, flt_pNm, flt_pW0, List.nil_append, List.append_nil, List.append_assoc]
theorem m_op3 {fu x cnt : Nat} {t : List Int32} {ν : Mem} {a : Nat → Int32} {b : Nat → Nat} {P : Nat → Int32} (C1 : ∀ t, fX13_code 0 (nI x) (1 : Int32) (wM t ν) = some (P 1, wM t ν)) (C2 : ∀ t, fX13_code 0 (nI x) (2 : Int32) (wM t ν) = some (P 2, wM t ν)) (C3 : ∀ t, fX13_code 0 (nI x) (3 : Int32) (wM t ν) = some (P 3, wM t ν)) (h0 : 0 < t.length) (hl : t.length ≤ 8) (hcnt : cnt ≤ 32) (hm : ∃ c s n : Nat, isPl c s ∧ c ≠ 5 ∧ c ≠ 6 ∧ 1 ≤ n ∧ n ≤ 32 ∧ P 1 = nI c ∧ P 2 = nI n ∧ a 1 = -1 ∧ b 2 = s ∧ b 3 = 0 ∧ b 4 = 0 ∧ a 5 = nI n) : fX13_writeOperands (fu + 13) 0 (nI x) (nI 3) (wM t ν) = some ((), wM (t ++ opT a b) ν) := by
  obtain ⟨c, s, n, hp, hc5, hc6, hn1, hn2, e1, e2, a1, b2, b3, b4, a5⟩ := hm
  simp only [fX13_writeOperands, jn_eq]
  rw [C1, bnd_some, C2, bnd_some, if_neg (show ¬ nI 3 = (0 : Int32) by decide), if_neg (show ¬ nI 3 = (1 : Int32) by decide), if_neg (show ¬ nI 3 = (2 : Int32) by decide), if_pos (show nI 3 = (3 : Int32) from rfl)]
  have l1 := len_W t s
  rw [e1, e2, m_pl hp h0 (by omega), m_num (by omega) (by omega) (by omega), bnd_some]
  simp only [opT, a1, b2, b3, b4, a5, flt_pNm, flt_pW0, List.nil_append, List.append_nil, List.append_assoc]
theorem m_op4 {fu x cnt : Nat} {t : List Int32} {ν : Mem} {a : Nat → Int32} {b : Nat → Nat} {P : Nat → Int32} (C1 : ∀ t, fX13_code 0 (nI x) (1 : Int32) (wM t ν) = some (P 1, wM t ν)) (C2 : ∀ t, fX13_code 0 (nI x) (2 : Int32) (wM t ν) = some (P 2, wM t ν)) (C3 : ∀ t, fX13_code 0 (nI x) (3 : Int32) (wM t ν) = some (P 3, wM t ν)) (h0 : 0 < t.length) (hl : t.length ≤ 8) (hcnt : cnt ≤ 32) (hm : ∃ a9 b9 : Nat, a9 ≤ 1 ∧ b9 ≤ 1 ∧ P 1 = nI a9 ∧ P 2 = nI b9 ∧ a 1 = -1 ∧ b 2 = (if a9 = 1 then 60 else 0) ∧ b 3 = 0 ∧ b 4 = (if b9 = 1 then 62 else 0) ∧ a 5 = -1) : fX13_writeOperands (fu + 13) 0 (nI x) (nI 4) (wM t ν) = some ((), wM (t ++ opT a b) ν) := by
  obtain ⟨a9, b9, ha, hb, e1, e2, a1, b2, b3, b4, a5⟩ := hm
  simp only [fX13_writeOperands, jn_eq]
  rw [C1, bnd_some, C2, bnd_some, if_neg (show ¬ nI 4 = (0 : Int32) by decide), if_neg (show ¬ nI 4 = (1 : Int32) by decide), if_neg (show ¬ nI 4 = (2 : Int32) by decide), if_neg (show ¬ nI 4 = (3 : Int32) by decide), if_pos (show nI 4 = (4 : Int32) from rfl)]
  rw [e1, e2]
  rcases (by omega : a9 = 0 ∨ a9 = 1) with rfl | rfl
  · rw [if_neg (by decide)] at b2
    rw [if_pos (show ¬ nI 0 = (1 : Int32) by decide), if_neg (show ¬ ¬ nI 4 = (4 : Int32) from fun z => z rfl), m_if0, bnd_some]
    rcases (by omega : b9 = 0 ∨ b9 = 1) with rfl | rfl
    · rw [if_neg (by decide)] at b4
      rw [if_pos (show ¬ nI 0 = (1 : Int32) by decide), m_if0, bnd_some]
      simp only [opT, a1, b2, b3, b4, a5, flt_pNm, flt_pW0, List.nil_append, List.append_nil, List.append_assoc]
    · rw [if_pos rfl] at b4
      rw [if_neg (show ¬ ¬ nI 1 = (1 : Int32) from fun z => z rfl), m_if1 (j := 62) (by decide) (by decide) h0 (by omega), bnd_some]
      simp only [opT, a1, b2, b3, b4, a5, flt_pNm, flt_pW0, List.nil_append, List.append_nil, List.append_assoc]
  · rw [if_pos rfl] at b2
    rw [if_neg (show ¬ ¬ nI 1 = (1 : Int32) from fun z => z rfl), if_neg (show ¬ ¬ nI 4 = (4 : Int32) from fun z => z rfl), m_if1 (j := 60) (by decide) (by decide) h0 (by omega), bnd_some]
    have l1 := len_W t 60
    rcases (by omega : b9 = 0 ∨ b9 = 1) with rfl | rfl
    · rw [if_neg (by decide)] at b4
      rw [if_pos (show ¬ nI 0 = (1 : Int32) by decide), m_if0, bnd_some]
      simp only [opT, a1, b2, b3, b4, a5, flt_pNm, flt_pW0, List.nil_append, List.append_nil, List.append_assoc]
    · rw [if_pos rfl] at b4
      rw [if_neg (show ¬ ¬ nI 1 = (1 : Int32) from fun z => z rfl), m_if1 (j := 62) (by decide) (by decide) (by omega) (by omega), bnd_some]
      simp only [opT, a1, b2, b3, b4, a5, flt_pNm, flt_pW0, List.nil_append, List.append_nil, List.append_assoc]
theorem m_op5 {fu x cnt : Nat} {t : List Int32} {ν : Mem} {a : Nat → Int32} {b : Nat → Nat} {P : Nat → Int32} (C1 : ∀ t, fX13_code 0 (nI x) (1 : Int32) (wM t ν) = some (P 1, wM t ν)) (C2 : ∀ t, fX13_code 0 (nI x) (2 : Int32) (wM t ν) = some (P 2, wM t ν)) (C3 : ∀ t, fX13_code 0 (nI x) (3 : Int32) (wM t ν) = some (P 3, wM t ν)) (h0 : 0 < t.length) (hl : t.length ≤ 8) (hcnt : cnt ≤ 32) (hm : ∃ a9 b9 : Nat, a9 ≤ 1 ∧ b9 ≤ 1 ∧ P 1 = nI a9 ∧ P 2 = nI b9 ∧ a 1 = -1 ∧ b 2 = (if a9 = 1 then 61 else 0) ∧ b 3 = 0 ∧ b 4 = (if b9 = 1 then 62 else 0) ∧ a 5 = -1) : fX13_writeOperands (fu + 13) 0 (nI x) (nI 5) (wM t ν) = some ((), wM (t ++ opT a b) ν) := by
  obtain ⟨a9, b9, ha, hb, e1, e2, a1, b2, b3, b4, a5⟩ := hm
  simp only [fX13_writeOperands, jn_eq]
  rw [C1, bnd_some, C2, bnd_some, if_neg (show ¬ nI 5 = (0 : Int32) by decide), if_neg (show ¬ nI 5 = (1 : Int32) by decide), if_neg (show ¬ nI 5 = (2 : Int32) by decide), if_neg (show ¬ nI 5 = (3 : Int32) by decide), if_neg (show ¬ nI 5 = (4 : Int32) by decide), if_pos (show nI 5 = (5 : Int32) from rfl)]
  rw [e1, e2]
  rcases (by omega : a9 = 0 ∨ a9 = 1) with rfl | rfl
  · rw [if_neg (by decide)] at b2
    rw [if_pos (show ¬ nI 0 = (1 : Int32) by decide), if_pos (show ¬ nI 5 = (4 : Int32) by decide), m_if0, bnd_some]
    rcases (by omega : b9 = 0 ∨ b9 = 1) with rfl | rfl
    · rw [if_neg (by decide)] at b4
      rw [if_pos (show ¬ nI 0 = (1 : Int32) by decide), m_if0, bnd_some]
      simp only [opT, a1, b2, b3, b4, a5, flt_pNm, flt_pW0, List.nil_append, List.append_nil, List.append_assoc]
    · rw [if_pos rfl] at b4
      rw [if_neg (show ¬ ¬ nI 1 = (1 : Int32) from fun z => z rfl), m_if1 (j := 62) (by decide) (by decide) h0 (by omega), bnd_some]
      simp only [opT, a1, b2, b3, b4, a5, flt_pNm, flt_pW0, List.nil_append, List.append_nil, List.append_assoc]
  · rw [if_pos rfl] at b2
    rw [if_neg (show ¬ ¬ nI 1 = (1 : Int32) from fun z => z rfl), if_pos (show ¬ nI 5 = (4 : Int32) by decide), m_if1 (j := 61) (by decide) (by decide) h0 (by omega), bnd_some]
    have l1 := len_W t 61
    rcases (by omega : b9 = 0 ∨ b9 = 1) with rfl | rfl
    · rw [if_neg (by decide)] at b4
      rw [if_pos (show ¬ nI 0 = (1 : Int32) by decide), m_if0, bnd_some]
      simp only [opT, a1, b2, b3, b4, a5, flt_pNm, flt_pW0, List.nil_append, List.append_nil, List.append_assoc]
    · rw [if_pos rfl] at b4
      rw [if_neg (show ¬ ¬ nI 1 = (1 : Int32) from fun z => z rfl), m_if1 (j := 62) (by decide) (by decide) (by omega) (by omega), bnd_some]
      simp only [opT, a1, b2, b3, b4, a5, flt_pNm, flt_pW0, List.nil_append, List.append_nil, List.append_assoc]
theorem m_op6 {fu x cnt : Nat} {t : List Int32} {ν : Mem} {a : Nat → Int32} {b : Nat → Nat} {P : Nat → Int32} (C1 : ∀ t, fX13_code 0 (nI x) (1 : Int32) (wM t ν) = some (P 1, wM t ν)) (C2 : ∀ t, fX13_code 0 (nI x) (2 : Int32) (wM t ν) = some (P 2, wM t ν)) (C3 : ∀ t, fX13_code 0 (nI x) (3 : Int32) (wM t ν) = some (P 3, wM t ν)) (h0 : 0 < t.length) (hl : t.length ≤ 8) (hcnt : cnt ≤ 32) (hm : ∃ c s d c2 s2 : Nat, isPl c s ∧ c ≠ 3 ∧ c ≠ 6 ∧ c ≠ 7 ∧ d ≤ 2 ∧ isPl c2 s2 ∧ c2 ≤ 6 ∧ P 1 = nI c ∧ P 2 = nI d ∧ P 3 = nI c2 ∧ a 1 = -1 ∧ b 2 = s ∧ b 3 = (if d = 0 then 0 else 62 + d) ∧ b 4 = s2 ∧ a 5 = -1) : fX13_writeOperands (fu + 13) 0 (nI x) (nI 6) (wM t ν) = some ((), wM (t ++ opT a b) ν) := by
  obtain ⟨c, s, d, c2, s2, hp, k1, k2, k3, hd, hp2, hc2, e1, e2, e3, a1, b2, b3, b4, a5⟩ := hm
  simp only [fX13_writeOperands, jn_eq]
  rw [C1, bnd_some, C2, bnd_some, if_neg (show ¬ nI 6 = (0 : Int32) by decide), if_neg (show ¬ nI 6 = (1 : Int32) by decide), if_neg (show ¬ nI 6 = (2 : Int32) by decide), if_neg (show ¬ nI 6 = (3 : Int32) by decide), if_neg (show ¬ nI 6 = (4 : Int32) by decide), if_neg (show ¬ nI 6 = (5 : Int32) by decide), if_pos (show nI 6 = (6 : Int32) from rfl)]
  have l1 := len_W t s
  rw [e1, e2, m_pl hp h0 (by omega)]
  rcases (by omega : d = 0 ∨ d = 1 ∨ d = 2) with rfl | rfl | rfl
  · rw [if_pos rfl] at b3
    rw [if_pos (show nI 0 ≤ (0 : Int32) by decide), if_pos (show ¬ nI 0 = (1 : Int32) by decide), m_if0, bnd_some, C3, bnd_some, e3, m_pl hp2 (by omega) (by omega)]
    simp only [opT, a1, b2, b3, b4, a5, flt_pNm, flt_pW0, List.nil_append, List.append_nil, List.append_assoc]
  · rw [if_neg (by decide)] at b3
    have l2 := len_W (t ++ flt (pW s)) 63
    rw [if_neg (show ¬ nI 1 ≤ (0 : Int32) by decide), if_neg (show ¬ ¬ nI 1 = (1 : Int32) from fun z => z rfl), m_if1 (j := 63) (by decide) (by decide) (by omega) (by omega), bnd_some, C3, bnd_some, e3, m_pl hp2 (by omega) (by omega)]
    simp only [opT, a1, b2, b3, b4, a5, flt_pNm, flt_pW0, List.nil_append, List.append_nil, List.append_assoc]
  · rw [if_neg (by decide)] at b3
    have l2 := len_W (t ++ flt (pW s)) 64
    rw [if_neg (show ¬ nI 2 ≤ (0 : Int32) by decide), if_pos (show ¬ nI 2 = (1 : Int32) by decide), m_if1 (j := 64) (by decide) (by decide) (by omega) (by omega), bnd_some, C3, bnd_some, e3, m_pl hp2 (by omega) (by omega)]
    simp only [opT, a1, b2, b3, b4, a5, flt_pNm, flt_pW0, List.nil_append, List.append_nil, List.append_assoc]
theorem m_op7 {fu x cnt : Nat} {t : List Int32} {ν : Mem} {a : Nat → Int32} {b : Nat → Nat} {P : Nat → Int32} (C1 : ∀ t, fX13_code 0 (nI x) (1 : Int32) (wM t ν) = some (P 1, wM t ν)) (C2 : ∀ t, fX13_code 0 (nI x) (2 : Int32) (wM t ν) = some (P 2, wM t ν)) (C3 : ∀ t, fX13_code 0 (nI x) (3 : Int32) (wM t ν) = some (P 3, wM t ν)) (h0 : 0 < t.length) (hl : t.length ≤ 8) (hcnt : cnt ≤ 32) (hm : ∃ a9 : Nat, a9 < 8 ∧ P 1 = nI a9 ∧ a 1 = -1 ∧ b 2 = 0 ∧ b 3 = 0 ∧ b 4 = 0 ∧ a 5 = nI a9) : fX13_writeOperands (fu + 13) 0 (nI x) (nI 7) (wM t ν) = some ((), wM (t ++ opT a b) ν) := by
  obtain ⟨a9, ha, e1, a1, b2, b3, b4, a5⟩ := hm
  simp only [fX13_writeOperands, jn_eq]
  rw [C1, bnd_some, C2, bnd_some, if_neg (show ¬ nI 7 = (0 : Int32) by decide), if_neg (show ¬ nI 7 = (1 : Int32) by decide), if_neg (show ¬ nI 7 = (2 : Int32) by decide), if_neg (show ¬ nI 7 = (3 : Int32) by decide), if_neg (show ¬ nI 7 = (4 : Int32) by decide), if_neg (show ¬ nI 7 = (5 : Int32) by decide), if_neg (show ¬ nI 7 = (6 : Int32) by decide), if_pos (show nI 7 = (7 : Int32) from rfl)]
  rw [e1, m_num (by omega) h0 (by omega), bnd_some]
  simp only [opT, a1, b2, b3, b4, a5, flt_pNm, flt_pW0, List.nil_append, List.append_nil, List.append_assoc]
theorem m_op8 {fu x cnt : Nat} {t : List Int32} {ν : Mem} {a : Nat → Int32} {b : Nat → Nat} {P : Nat → Int32} (C1 : ∀ t, fX13_code 0 (nI x) (1 : Int32) (wM t ν) = some (P 1, wM t ν)) (C2 : ∀ t, fX13_code 0 (nI x) (2 : Int32) (wM t ν) = some (P 2, wM t ν)) (C3 : ∀ t, fX13_code 0 (nI x) (3 : Int32) (wM t ν) = some (P 3, wM t ν)) (h0 : 0 < t.length) (hl : t.length ≤ 8) (hcnt : cnt ≤ 32) (hm : ∃ a9 : Nat, a9 < 8 ∧ P 1 = nI a9 ∧ a 1 = -1 ∧ b 2 = 0 ∧ b 3 = 0 ∧ b 4 = 0 ∧ a 5 = nI a9) : fX13_writeOperands (fu + 13) 0 (nI x) (nI 8) (wM t ν) = some ((), wM (t ++ opT a b) ν) := by
  obtain ⟨a9, ha, e1, a1, b2, b3, b4, a5⟩ := hm
  simp only [fX13_writeOperands, jn_eq]
  rw [C1, bnd_some, C2, bnd_some, if_neg (show ¬ nI 8 = (0 : Int32) by decide), if_neg (show ¬ nI 8 = (1 : Int32) by decide), if_neg (show ¬ nI 8 = (2 : Int32) by decide), if_neg (show ¬ nI 8 = (3 : Int32) by decide), if_neg (show ¬ nI 8 = (4 : Int32) by decide), if_neg (show ¬ nI 8 = (5 : Int32) by decide), if_neg (show ¬ nI 8 = (6 : Int32) by decide), if_neg (show ¬ nI 8 = (7 : Int32) by decide), if_pos (show nI 8 = (8 : Int32) from rfl)]
  rw [e1, m_num (by omega) h0 (by omega), bnd_some]
  simp only [opT, a1, b2, b3, b4, a5, flt_pNm, flt_pW0, List.nil_append, List.append_nil, List.append_assoc]
theorem m_op9 {fu x cnt : Nat} {t : List Int32} {ν : Mem} {a : Nat → Int32} {b : Nat → Nat} {P : Nat → Int32} (C1 : ∀ t, fX13_code 0 (nI x) (1 : Int32) (wM t ν) = some (P 1, wM t ν)) (C2 : ∀ t, fX13_code 0 (nI x) (2 : Int32) (wM t ν) = some (P 2, wM t ν)) (C3 : ∀ t, fX13_code 0 (nI x) (3 : Int32) (wM t ν) = some (P 3, wM t ν)) (h0 : 0 < t.length) (hl : t.length ≤ 8) (hcnt : cnt ≤ 32) (hm : ∃ a9 : Nat, a9 < 8 ∧ P 1 = nI a9 ∧ a 1 = -1 ∧ b 2 = 0 ∧ b 3 = 0 ∧ b 4 = 0 ∧ a 5 = nI a9) : fX13_writeOperands (fu + 13) 0 (nI x) (nI 9) (wM t ν) = some ((), wM (t ++ opT a b) ν) := by
  obtain ⟨a9, ha, e1, a1, b2, b3, b4, a5⟩ := hm
  simp only [fX13_writeOperands, jn_eq]
  rw [C1, bnd_some, C2, bnd_some, if_neg (show ¬ nI 9 = (0 : Int32) by decide), if_neg (show ¬ nI 9 = (1 : Int32) by decide), if_neg (show ¬ nI 9 = (2 : Int32) by decide), if_neg (show ¬ nI 9 = (3 : Int32) by decide), if_neg (show ¬ nI 9 = (4 : Int32) by decide), if_neg (show ¬ nI 9 = (5 : Int32) by decide), if_neg (show ¬ nI 9 = (6 : Int32) by decide), if_neg (show ¬ nI 9 = (7 : Int32) by decide), if_neg (show ¬ nI 9 = (8 : Int32) by decide), if_pos (show nI 9 = (9 : Int32) from rfl)]
  rw [e1, m_num (by omega) h0 (by omega), bnd_some]
  simp only [opT, a1, b2, b3, b4, a5, flt_pNm, flt_pW0, List.nil_append, List.append_nil, List.append_assoc]
theorem m_op10 {fu x cnt : Nat} {t : List Int32} {ν : Mem} {a : Nat → Int32} {b : Nat → Nat} {P : Nat → Int32} (C1 : ∀ t, fX13_code 0 (nI x) (1 : Int32) (wM t ν) = some (P 1, wM t ν)) (C2 : ∀ t, fX13_code 0 (nI x) (2 : Int32) (wM t ν) = some (P 2, wM t ν)) (C3 : ∀ t, fX13_code 0 (nI x) (3 : Int32) (wM t ν) = some (P 3, wM t ν)) (h0 : 0 < t.length) (hl : t.length ≤ 8) (hcnt : cnt ≤ 32) (hm : ∃ c s n : Nat, isPl c s ∧ (c = 0 ∨ c = 1 ∨ c = 2 ∨ c = 7) ∧ n < 32 ∧ P 1 = nI c ∧ P 2 = nI n ∧ a 1 = -1 ∧ b 2 = s ∧ b 3 = 0 ∧ b 4 = 0 ∧ a 5 = nI n) : fX13_writeOperands (fu + 13) 0 (nI x) (nI 10) (wM t ν) = some ((), wM (t ++ opT a b) ν) := by
  obtain ⟨c, s, n, hp, hc, hn, e1, e2, a1, b2, b3, b4, a5⟩ := hm
  simp only [fX13_writeOperands, jn_eq]
  rw [C1, bnd_some, C2, bnd_some, if_neg (show ¬ nI 10 = (0 : Int32) by decide), if_neg (show ¬ nI 10 = (1 : Int32) by decide), if_neg (show ¬ nI 10 = (2 : Int32) by decide), if_neg (show ¬ nI 10 = (3 : Int32) by decide), if_neg (show ¬ nI 10 = (4 : Int32) by decide), if_neg (show ¬ nI 10 = (5 : Int32) by decide), if_neg (show ¬ nI 10 = (6 : Int32) by decide), if_neg (show ¬ nI 10 = (7 : Int32) by decide), if_neg (show ¬ nI 10 = (8 : Int32) by decide), if_neg (show ¬ nI 10 = (9 : Int32) by decide), if_pos (show nI 10 = (10 : Int32) from rfl)]
  have l1 := len_W t s
  rw [e1, e2, m_pl hp h0 (by omega), m_num (by omega) (by omega) (by omega), bnd_some]
  simp only [opT, a1, b2, b3, b4, a5, flt_pNm, flt_pW0, List.nil_append, List.append_nil, List.append_assoc]
theorem m_op11 {fu x cnt : Nat} {t : List Int32} {ν : Mem} {a : Nat → Int32} {b : Nat → Nat} {P : Nat → Int32} (C1 : ∀ t, fX13_code 0 (nI x) (1 : Int32) (wM t ν) = some (P 1, wM t ν)) (C2 : ∀ t, fX13_code 0 (nI x) (2 : Int32) (wM t ν) = some (P 2, wM t ν)) (C3 : ∀ t, fX13_code 0 (nI x) (3 : Int32) (wM t ν) = some (P 3, wM t ν)) (h0 : 0 < t.length) (hl : t.length ≤ 8) (hcnt : cnt ≤ 32) (hm : ∃ c s b9 : Nat, isPl c s ∧ (c = 1 ∨ c = 2 ∨ c = 5) ∧ b9 < 18 ∧ P 1 = nI c ∧ P 2 = nI b9 ∧ a 1 = -1 ∧ b 2 = s ∧ b 3 = 0 ∧ b 4 = (if b9 < 16 then 0 else 36 + b9) ∧ a 5 = (if b9 < 16 then nI b9 else -1)) : fX13_writeOperands (fu + 13) 0 (nI x) (nI 11) (wM t ν) = some ((), wM (t ++ opT a b) ν) := by
  obtain ⟨c, s, b9, hp, hc, hb, e1, e2, a1, b2, b3, b4, a5⟩ := hm
  simp only [fX13_writeOperands, jn_eq]
  rw [C1, bnd_some, C2, bnd_some, if_neg (show ¬ nI 11 = (0 : Int32) by decide), if_neg (show ¬ nI 11 = (1 : Int32) by decide), if_neg (show ¬ nI 11 = (2 : Int32) by decide), if_neg (show ¬ nI 11 = (3 : Int32) by decide), if_neg (show ¬ nI 11 = (4 : Int32) by decide), if_neg (show ¬ nI 11 = (5 : Int32) by decide), if_neg (show ¬ nI 11 = (6 : Int32) by decide), if_neg (show ¬ nI 11 = (7 : Int32) by decide), if_neg (show ¬ nI 11 = (8 : Int32) by decide), if_neg (show ¬ nI 11 = (9 : Int32) by decide), if_neg (show ¬ nI 11 = (10 : Int32) by decide), if_pos (show nI 11 = (11 : Int32) from rfl)]
  have l1 := len_W t s
  simp only [fX13_writeAccess, jn_eq]
  rw [C1, bnd_some, e1, m_pl hp h0 (by omega), C2, bnd_some, e2]
  by_cases h16 : b9 < 16
  · rw [if_pos h16] at b4 a5
    rw [if_neg (show ¬ (16 : Int32) ≤ nI b9 from fun z => absurd ((nI_leI (a := 16) (b := b9) (by decide) (by omega)).1 z) (by omega)), m_num (by omega) (by omega) (by omega), bnd_some, bnd_some]
    simp only [opT, a1, b2, b3, b4, a5, flt_pNm, flt_pW0, List.nil_append, List.append_nil, List.append_assoc]
  · rw [if_neg h16] at b4 a5
    rw [if_pos (show (16 : Int32) ≤ nI b9 from (nI_leI (a := 16) (b := b9) (by decide) (by omega)).2 (by omega))]
    rcases (by omega : b9 = 16 ∨ b9 = 17) with rfl | rfl
    · rw [if_neg (show ¬ ¬ nI 16 = (16 : Int32) from fun z => z rfl), m_word (j := 52) (by decide) (by decide) (by omega) (by omega), bnd_some, bnd_some]
      simp only [opT, a1, b2, b3, b4, a5, flt_pNm, flt_pW0, List.nil_append, List.append_nil, List.append_assoc]
    · rw [if_pos (show ¬ nI 17 = (16 : Int32) by decide), m_word (j := 53) (by decide) (by decide) (by omega) (by omega), bnd_some, bnd_some]
      simp only [opT, a1, b2, b3, b4, a5, flt_pNm, flt_pW0, List.nil_append, List.append_nil, List.append_assoc]
theorem m_op12 {fu x cnt : Nat} {t : List Int32} {ν : Mem} {a : Nat → Int32} {b : Nat → Nat} {P : Nat → Int32} (C1 : ∀ t, fX13_code 0 (nI x) (1 : Int32) (wM t ν) = some (P 1, wM t ν)) (C2 : ∀ t, fX13_code 0 (nI x) (2 : Int32) (wM t ν) = some (P 2, wM t ν)) (C3 : ∀ t, fX13_code 0 (nI x) (3 : Int32) (wM t ν) = some (P 3, wM t ν)) (h0 : 0 < t.length) (hl : t.length ≤ 8) (hcnt : cnt ≤ 32) (hm : ∃ c s b9 : Nat, isPl c s ∧ (c = 1 ∨ c = 2 ∨ c = 4) ∧ b9 < 18 ∧ P 1 = nI c ∧ P 2 = nI b9 ∧ a 1 = -1 ∧ b 2 = s ∧ b 3 = 0 ∧ b 4 = (if b9 < 16 then 0 else 36 + b9) ∧ a 5 = (if b9 < 16 then nI b9 else -1)) : fX13_writeOperands (fu + 13) 0 (nI x) (nI 12) (wM t ν) = some ((), wM (t ++ opT a b) ν) := by
  obtain ⟨c, s, b9, hp, hc, hb, e1, e2, a1, b2, b3, b4, a5⟩ := hm
  simp only [fX13_writeOperands, jn_eq]
  rw [C1, bnd_some, C2, bnd_some, if_neg (show ¬ nI 12 = (0 : Int32) by decide), if_neg (show ¬ nI 12 = (1 : Int32) by decide), if_neg (show ¬ nI 12 = (2 : Int32) by decide), if_neg (show ¬ nI 12 = (3 : Int32) by decide), if_neg (show ¬ nI 12 = (4 : Int32) by decide), if_neg (show ¬ nI 12 = (5 : Int32) by decide), if_neg (show ¬ nI 12 = (6 : Int32) by decide), if_neg (show ¬ nI 12 = (7 : Int32) by decide), if_neg (show ¬ nI 12 = (8 : Int32) by decide), if_neg (show ¬ nI 12 = (9 : Int32) by decide), if_neg (show ¬ nI 12 = (10 : Int32) by decide), if_neg (show ¬ nI 12 = (11 : Int32) by decide), if_pos (show nI 12 = (12 : Int32) from rfl)]
  have l1 := len_W t s
  simp only [fX13_writeAccess, jn_eq]
  rw [C1, bnd_some, e1, m_pl hp h0 (by omega), C2, bnd_some, e2]
  by_cases h16 : b9 < 16
  · rw [if_pos h16] at b4 a5
    rw [if_neg (show ¬ (16 : Int32) ≤ nI b9 from fun z => absurd ((nI_leI (a := 16) (b := b9) (by decide) (by omega)).1 z) (by omega)), m_num (by omega) (by omega) (by omega), bnd_some, bnd_some]
    simp only [opT, a1, b2, b3, b4, a5, flt_pNm, flt_pW0, List.nil_append, List.append_nil, List.append_assoc]
  · rw [if_neg h16] at b4 a5
    rw [if_pos (show (16 : Int32) ≤ nI b9 from (nI_leI (a := 16) (b := b9) (by decide) (by omega)).2 (by omega))]
    rcases (by omega : b9 = 16 ∨ b9 = 17) with rfl | rfl
    · rw [if_neg (show ¬ ¬ nI 16 = (16 : Int32) from fun z => z rfl), m_word (j := 52) (by decide) (by decide) (by omega) (by omega), bnd_some, bnd_some]
      simp only [opT, a1, b2, b3, b4, a5, flt_pNm, flt_pW0, List.nil_append, List.append_nil, List.append_assoc]
    · rw [if_pos (show ¬ nI 17 = (16 : Int32) by decide), m_word (j := 53) (by decide) (by decide) (by omega) (by omega), bnd_some, bnd_some]
      simp only [opT, a1, b2, b3, b4, a5, flt_pNm, flt_pW0, List.nil_append, List.append_nil, List.append_assoc]
theorem m_opers {fu x cnt j : Nat} {t : List Int32} {μ ν : Mem} {P : Nat → Int32} (C1 : ∀ t, fX13_code 0 (nI x) (1 : Int32) (wM t ν) = some (P 1, wM t ν)) (C2 : ∀ t, fX13_code 0 (nI x) (2 : Int32) (wM t ν) = some (P 2, wM t ν)) (C3 : ∀ t, fX13_code 0 (nI x) (3 : Int32) (wM t ν) = some (P 3, wM t ν)) (h0 : 0 < t.length) (hl : t.length ≤ 8) (hcnt : cnt ≤ 32) (hI : relI μ j cnt P) : ∃ o : Nat, o ≤ 12 ∧ P 0 = nI o ∧ μ.2.1 9 j 0 = 30 + o ∧ fX13_writeOperands (fu + 13) 0 (nI x) (nI o) (wM t ν) = some ((), wM (t ++ opT (μ.1 9 j) (μ.2.1 9 j)) ν) := by
  obtain ⟨o, ho, p0, b0, h4, h5, hm⟩ := hI
  refine ⟨o, ho, p0, b0, ?_⟩
  match o, ho, hm with
  | 0, _, hm => exact m_op0 (a := μ.1 9 j) (b := μ.2.1 9 j) (P := P) C1 C2 C3 h0 hl hcnt hm
  | 1, _, hm => exact m_op1 (a := μ.1 9 j) (b := μ.2.1 9 j) (P := P) C1 C2 C3 h0 hl hcnt hm
  | 2, _, hm => exact m_op2 (a := μ.1 9 j) (b := μ.2.1 9 j) (P := P) C1 C2 C3 h0 hl hcnt hm
  | 3, _, hm => exact m_op3 (a := μ.1 9 j) (b := μ.2.1 9 j) (P := P) C1 C2 C3 h0 hl hcnt hm
  | 4, _, hm => exact m_op4 (a := μ.1 9 j) (b := μ.2.1 9 j) (P := P) C1 C2 C3 h0 hl hcnt hm
  | 5, _, hm => exact m_op5 (a := μ.1 9 j) (b := μ.2.1 9 j) (P := P) C1 C2 C3 h0 hl hcnt hm
  | 6, _, hm => exact m_op6 (a := μ.1 9 j) (b := μ.2.1 9 j) (P := P) C1 C2 C3 h0 hl hcnt hm
  | 7, _, hm => exact m_op7 (a := μ.1 9 j) (b := μ.2.1 9 j) (P := P) C1 C2 C3 h0 hl hcnt hm
  | 8, _, hm => exact m_op8 (a := μ.1 9 j) (b := μ.2.1 9 j) (P := P) C1 C2 C3 h0 hl hcnt hm
  | 9, _, hm => exact m_op9 (a := μ.1 9 j) (b := μ.2.1 9 j) (P := P) C1 C2 C3 h0 hl hcnt hm
  | 10, _, hm => exact m_op10 (a := μ.1 9 j) (b := μ.2.1 9 j) (P := P) C1 C2 C3 h0 hl hcnt hm
  | 11, _, hm => exact m_op11 (a := μ.1 9 j) (b := μ.2.1 9 j) (P := P) C1 C2 C3 h0 hl hcnt hm
  | 12, _, hm => exact m_op12 (a := μ.1 9 j) (b := μ.2.1 9 j) (P := P) C1 C2 C3 h0 hl hcnt hm
  | o + 13, ho, _ => exact absurd ho (by omega)
/-- what relI says of the cells is enough for the class's text -/
theorem iok_of {j cnt : Nat} {μ : Mem} {P : Nat → Int32} (hcnt : cnt ≤ 32) (h9 : μ.2.1 9 j 0 < 74 ∧ μ.2.1 9 j 2 < 74 ∧ μ.2.1 9 j 3 < 74 ∧ μ.2.1 9 j 4 < 74) (hI : relI μ j cnt P) : IOK (μ.1 9 j) (μ.2.1 9 j) := by
  obtain ⟨o, ho, p0, b0, h4, ⟨n5, hn5, -, e5⟩, hm⟩ := hI
  have h6 : NOK (μ.1 9 j 6) := by
    rcases h4 with ⟨-, e⟩ | ⟨n, hn, -, e⟩
    · exact Or.inl e
    · exact Or.inr ⟨n, by omega, e⟩
  have h7 : NOK (μ.1 9 j 7) := Or.inr ⟨n5, by omega, e5⟩
  have key : NOK (μ.1 9 j 1) ∧ NOK (μ.1 9 j 5) := by
    match o, ho, hm with
    | 0, _, ⟨c, b9, hc, hb, e1, e2, a1, b2, b3, b4, a5⟩ => exact ⟨Or.inl a1, Or.inr ⟨b9, by omega, a5⟩⟩
    | 1, _, ⟨a9, f, n, ha, hf, hn, e1, e2, e3, a1, b2, b3, b4, a5⟩ => exact ⟨Or.inr ⟨a9, by omega, a1⟩, Or.inr ⟨n, by split at hn <;> omega, a5⟩⟩
    | 2, _, ⟨c, s, n, hp, hc5, hn1, hn2, e1, e2, a1, b2, b3, b4, a5⟩ => exact ⟨Or.inl a1, Or.inr ⟨n, by omega, a5⟩⟩
    | 3, _, ⟨c, s, n, hp, hc5, hc6, hn1, hn2, e1, e2, a1, b2, b3, b4, a5⟩ => exact ⟨Or.inl a1, Or.inr ⟨n, by omega, a5⟩⟩
    | 4, _, ⟨a9, b9, ha, hb, e1, e2, a1, b2, b3, b4, a5⟩ => exact ⟨Or.inl a1, Or.inl a5⟩
    | 5, _, ⟨a9, b9, ha, hb, e1, e2, a1, b2, b3, b4, a5⟩ => exact ⟨Or.inl a1, Or.inl a5⟩
    | 6, _, ⟨c, s, d, c2, s2, hp, k1, k2, k3, hd, hp2, hc2, e1, e2, e3, a1, b2, b3, b4, a5⟩ => exact ⟨Or.inl a1, Or.inl a5⟩
    | 7, _, ⟨a9, ha, e1, a1, b2, b3, b4, a5⟩ => exact ⟨Or.inl a1, Or.inr ⟨a9, by omega, a5⟩⟩
    | 8, _, ⟨a9, ha, e1, a1, b2, b3, b4, a5⟩ => exact ⟨Or.inl a1, Or.inr ⟨a9, by omega, a5⟩⟩
    | 9, _, ⟨a9, ha, e1, a1, b2, b3, b4, a5⟩ => exact ⟨Or.inl a1, Or.inr ⟨a9, by omega, a5⟩⟩
    | 10, _, ⟨c, s, n, hp, hc, hn, e1, e2, a1, b2, b3, b4, a5⟩ => exact ⟨Or.inl a1, Or.inr ⟨n, by omega, a5⟩⟩
    | 11, _, ⟨c, s, b9, hp, hc, hb, e1, e2, a1, b2, b3, b4, a5⟩ =>
      refine ⟨Or.inl a1, ?_⟩
      by_cases h : b9 < 16
      · rw [if_pos h] at a5; exact Or.inr ⟨b9, by omega, a5⟩
      · rw [if_neg h] at a5; exact Or.inl a5
    | 12, _, ⟨c, s, b9, hp, hc, hb, e1, e2, a1, b2, b3, b4, a5⟩ =>
      refine ⟨Or.inl a1, ?_⟩
      by_cases h : b9 < 16
      · rw [if_pos h] at a5; exact Or.inr ⟨b9, by omega, a5⟩
      · rw [if_neg h] at a5; exact Or.inl a5
    | o + 13, ho, _ => exact absurd ho (by omega)
  exact ⟨⟨key.1, key.2, h6, h7⟩, h9⟩
theorem op_tx : ∀ o, o ≤ 12 → strAt 0 o = syT.getD (30 + o) 0 ∧ 0 < txN.getD (strAt 0 o) 0 := by decide
theorem c700 {α : Type} {o : Option α} : ckI (0 : Int32) (if 0 = 4 then 7000 else 700) o = o := if_pos (by decide)
theorem m_fmt_bad {fu : Nat} {x : Int32} {ν : Mem} {cnt : Nat} (hcnt : cnt ≤ 32) (hT : tN ν 0 = nI cnt) (hx : x < 0 ∨ nI cnt ≤ x) : fX13_format fu 0 x ν = some (0, wI ν 26 0 6 1) := by
  have h0 : ¬ ((0 : Int32) ≤ x ∧ x ≤ nI cnt - 1) := by
    rintro ⟨q1, q2⟩
    rcases hx with hx | hx
    · exact absurd hx (Int32.not_lt.mpr q1)
    · match cnt, hcnt, hx, q2 with
      | 0, _, hx, q2 => exact absurd (Int32.le_trans q1 (show x ≤ -1 from q2)) (by decide)
      | d + 1, hcnt, hx, q2 =>
        rw [nI_pred] at q2
        exact absurd ((nI_leI (by omega) (by omega)).1 (Int32.le_trans hx q2)) (by omega)
  unfold fX13_format
  rw [nm_eq, c700, show (wI ν 26 0 6 0).1 27 0 (0 : Int32).toNatClampNeg = nI cnt from hT, r_inRange, bnd_some, if_neg h0, if_neg nn0, m_raise, bnd_some, wI_wI]
/-- the model's format, where the address is good -/
theorem m_format {fu x cnt j : Nat} {μ ν : Mem} (hcnt : cnt ≤ 32) (hx : x < cnt) (hT : tN ν 0 = nI cnt) (h9 : μ.2.1 9 j 0 < 74 ∧ μ.2.1 9 j 2 < 74 ∧ μ.2.1 9 j 3 < 74 ∧ μ.2.1 9 j 4 < 74) (hI : relI μ j cnt (fun k => tN ν (284 + 6 * x + k))) : fX13_format (fu + 13) 0 (nI x) ν = some (nI (flt (rsI (μ.1 9 j) (μ.2.1 9 j))).length, wM (flt (rsI (μ.1 9 j) (μ.2.1 9 j))) (wI ν 26 0 6 0)) := by
  have H := iok_of hcnt h9 hI
  have hc : ∀ t f, f < 6 → fX13_code 0 (nI x) (nI f) (wM t (wI ν 26 0 6 0)) = some (tN ν (284 + 6 * x + f), wM t (wI ν 26 0 6 0)) := by
    intro t f hf
    rw [r_code (by omega), show tN (wM t (wI ν 26 0 6 0)) (284 + 6 * x + f) = tN ν (284 + 6 * x + f) from (wM_o (by omega) (by omega)).trans (wI_o (by omega))]
  have C0 : ∀ t, fX13_code 0 (nI x) (0 : Int32) (wM t (wI ν 26 0 6 0)) = some (tN ν (284 + 6 * x + 0), wM t (wI ν 26 0 6 0)) := fun t => hc t 0 (by decide)
  have C4 : ∀ t, fX13_code 0 (nI x) (4 : Int32) (wM t (wI ν 26 0 6 0)) = some (tN ν (284 + 6 * x + 4), wM t (wI ν 26 0 6 0)) := fun t => hc t 4 (by decide)
  have C5 : ∀ t, fX13_code 0 (nI x) (5 : Int32) (wM t (wI ν 26 0 6 0)) = some (tN ν (284 + 6 * x + 5), wM t (wI ν 26 0 6 0)) := fun t => hc t 5 (by decide)
  obtain ⟨o, ho, p0, b0, -⟩ := id hI
  obtain ⟨g1, g2⟩ := op_tx o ho
  have hlo : 0 < (tXL (strAt 0 o)).length := by rw [txL_len]; exact g2
  have hlo8 := txL_le (strAt 0 o)
  obtain ⟨o', ho', p0', b0', hop⟩ := m_opers (fu := fu) (P := fun k => tN ν (284 + 6 * x + k)) (fun t => hc t 1 (by decide)) (fun t => hc t 2 (by decide)) (fun t => hc t 3 (by decide)) hlo hlo8 hcnt hI
  have eo : o' = o := by omega
  rw [eo] at hop
  obtain ⟨-, -, -, -, h4, ⟨n5, hn5, q5, e5⟩, -⟩ := id hI
  have hO := (opT_ok H).1
  have p0 : tN ν (284 + 6 * x + 0) = nI o := p0
  have h4 : (tN ν (284 + 6 * x + 4) = -1 ∧ μ.1 9 j 6 = -1) ∨ ∃ n : Nat, n < 16 ∧ tN ν (284 + 6 * x + 4) = nI n ∧ μ.1 9 j 6 = nI n := h4
  have q5 : tN ν (284 + 6 * x + 5) = nI n5 := q5
  obtain ⟨d, rfl⟩ : ∃ d, cnt = d + 1 := ⟨cnt - 1, by omega⟩
  -- the tail: the delay
  have tail : ∀ t : List Int32, 0 < t.length → t.length ≤ 53 → (if nI n5 ≤ 0 then some ((wM t (wI ν 26 0 6 0)).1 26 0 41, wM t (wI ν 26 0 6 0)) else bnd (fX13_write_ (fu + 13) 0 34 (wM t (wI ν 26 0 6 0))) fun _ μ10 => bnd (fX13_code 0 (nI x) (5 : Int32) μ10) fun x12 μ11 => bnd (fX13_writeNumber (fu + 13) 0 x12 μ11) fun _ μ13 => some (μ13.1 26 0 41, μ13)) = some (nI (t ++ flt (rs75 (μ.1 9 j))).length, wM (t ++ flt (rs75 (μ.1 9 j))) (wI ν 26 0 6 0)) := by
    intro t t0 tl
    unfold rs75
    rw [e5]
    by_cases z : n5 = 0
    · subst z
      rw [if_pos (show nI 0 ≤ (0 : Int32) by decide), if_pos (show nI 0 = (0 : Int32) from rfl), wM_c, show flt [] = [] from rfl, List.append_nil]
    · rw [if_neg (show ¬ nI n5 ≤ (0 : Int32) from fun q => absurd ((nI_leI (a := n5) (b := 0) (by omega) (by decide)).1 q) (by omega)), if_neg (show ¬ nI n5 = (0 : Int32) from fun q => z (nI_inj (a := n5) (b := 0) (by omega) (by decide) q)), m_word (j := 16) (by decide) (by decide) t0 (by omega), bnd_some, C5, bnd_some, q5]
      have l1 := len_W t 16
      rw [m_num (by omega) (by omega) (by omega), bnd_some, wM_c, flt_app, List.append_assoc]
  unfold fX13_format
  simp only [jn_eq, nm_eq]
  rw [c700, show (wI ν 26 0 6 0).1 27 0 (0 : Int32).toNatClampNeg = nI (d + 1) from hT, nI_pred, r_ok (by omega) (by omega), bnd_some, if_pos ne10, wM_nil, C0, bnd_some, p0, ckI_nI (show o < stl.getD 0 0 from Nat.lt_succ_of_le ho) (by decide), nI_clamp (by omega), m_write0, bnd_some, hop, bnd_some, C4, bnd_some]
  have eT : flt (rsI (μ.1 9 j) (μ.2.1 9 j)) = tXL (strAt 0 o) ++ opT (μ.1 9 j) (μ.2.1 9 j) ++ flt (rs52 (μ.1 9 j)) := by rw [flt_rsI, b0, ← g1, List.append_assoc]
  rw [eT]
  have l0 : 0 < (tXL (strAt 0 o) ++ opT (μ.1 9 j) (μ.2.1 9 j)).length ∧ (tXL (strAt 0 o) ++ opT (μ.1 9 j) (μ.2.1 9 j)).length ≤ 41 := by
    rw [List.length_append]; omega
  generalize tXL (strAt 0 o) ++ opT (μ.1 9 j) (μ.2.1 9 j) = t at l0 ⊢
  rcases h4 with ⟨p4, e6⟩ | ⟨n4, hn4, p4, e6⟩
  · unfold rs52
    rw [p4, if_pos rfl, e6, if_pos rfl, C5, bnd_some, q5]
    exact tail t l0.1 (by omega)
  · unfold rs52 rs67
    have l1 := len_W t 15
    have l2 := len_N (t ++ flt (pW 15)) (m := n4) (by omega)
    rw [p4, if_neg (nI_n1 (by omega)), e6, if_neg (nI_n1 (by omega)), m_word (j := 15) (by decide) (by decide) l0.1 (by omega), bnd_some, C4, bnd_some, p4, m_num (by omega) (by omega) (by omega), bnd_some, C5, bnd_some, q5, tail _ (by omega) (by omega), flt_app, flt_app, List.append_assoc, List.append_assoc]
