/-! TOKENS: blanks, letters, digits; the first place that isn't one; the model's scan -/
def tkB (c : Int32) : Bool := decide (c = 32 ∨ c = 10)
def tkL (c : Int32) : Bool := decide (97 ≤ c ∧ c ≤ 122)
def tkD (c : Int32) : Bool := decide (48 ≤ c ∧ c ≤ 57)
/-- the first place from x on, but at most d on, where P fails -/
def tkF (P : Int32 → Bool) (b : Nat → Int32) : Nat → Nat → Nat
  | 0, x => x
  | d + 1, x => if P (b x) then tkF P b d (x + 1) else x
theorem tk_unf {P : Int32 → Bool} {b : Nat → Int32} {N x : Nat} : tkF P b (N - x) x = if x < N ∧ P (b x) = true then tkF P b (N - (x + 1)) (x + 1) else x := by
  by_cases h : x < N
  · rw [show N - x = (N - (x + 1)) + 1 by omega]
    show (if P (b x) = true then _ else _) = _
    by_cases g : P (b x) = true
    · rw [if_pos g, if_pos ⟨h, g⟩]
    · rw [if_neg g, if_neg (fun z => g z.2)]
  · rw [show N - x = 0 by omega, if_neg (fun z => h z.1)]; rfl
theorem tk_ge {P : Int32 → Bool} {b : Nat → Int32} : ∀ d x, x ≤ tkF P b d x := by
  intro d
  induction d with
  | zero => intro x; exact Nat.le_refl _
  | succ d ih =>
    intro x
    show x ≤ if P (b x) = true then tkF P b d (x + 1) else x
    split
    · exact Nat.le_trans (by omega) (ih (x + 1))
    · exact Nat.le_refl _
theorem tk_le {P : Int32 → Bool} {b : Nat → Int32} : ∀ d x, tkF P b d x ≤ x + d := by
  intro d
  induction d with
  | zero => intro x; exact Nat.le_refl _
  | succ d ih =>
    intro x
    show (if P (b x) = true then tkF P b d (x + 1) else x) ≤ x + (d + 1)
    split
    · exact Nat.le_trans (ih (x + 1)) (by omega)
    · omega
/-- the next token's begin, a token's end, a token's kind -/
def tkS (b : Nat → Int32) (N x : Nat) : Nat := tkF tkB b (N - x) x
def tkE (b : Nat → Int32) (N x : Nat) : Nat := if tkL (b x) then tkF tkL b (N - x) x else if tkD (b x) then tkF tkD b (N - x) x else x + 1
def tkK (b : Nat → Int32) (x : Nat) : Nat := if tkL (b x) then 1 else if tkD (b x) then 2 else 3
theorem m_byteAt {ν : Mem} {N x : Nat} (hN : N ≤ 1000) (hx : x ≤ N) (h : ν.1 26 0 22 = nI N) : fX13_byteAt 0 (nI x) ν = some (if x < N then ν.1 28 7 x else -1, ν) := by
  unfold fX13_byteAt
  simp only [jn_eq]
  rw [h]
  by_cases g : x < N
  · rw [if_pos g, if_neg (show ¬ nI N ≤ nI x from fun z => absurd ((nI_leI (by omega) (by omega)).1 z) (by omega)), ckI_nI (show x < mil.getD 7 0 from (show x < 1000 by omega)) (by decide), nI_clamp (by omega)]
  · rw [if_neg g, if_pos (show nI N ≤ nI x from (nI_leI (by omega) (by omega)).2 (by omega))]
theorem m_isLetter {ν : Mem} {N x : Nat} (hN : N ≤ 1000) (hx : x ≤ N) (h : ν.1 26 0 22 = nI N) : fX13_isLetter 0 (nI x) ν = some (if x < N ∧ tkL (ν.1 28 7 x) = true then 1 else 0, ν) := by
  have e := m_byteAt hN hx h
  unfold fX13_isLetter
  simp only [jn_eq]
  by_cases g : x < N
  · rw [if_pos g] at e
    simp only [e, bnd_some]
    by_cases h1 : ν.1 28 7 x < 97
    · rw [if_pos h1, if_neg (fun z => absurd (of_decide_eq_true z.2).1 (Int32.not_le.2 h1)), ckZ_ok (Or.inl rfl)]
    · rw [if_neg h1]
      by_cases h2 : (122 : Int32) < ν.1 28 7 x
      · rw [if_pos h2, if_neg (fun z => absurd (of_decide_eq_true z.2).2 (Int32.not_le.2 h2)), ckZ_ok (Or.inl rfl)]
      · rw [if_neg h2, if_pos ⟨g, decide_eq_true ⟨Int32.not_lt.1 h1, Int32.not_lt.1 h2⟩⟩, ckZ_ok (Or.inr rfl)]
  · rw [if_neg g] at e
    simp only [e, bnd_some]
    rw [if_pos (show (-1 : Int32) < 97 by decide), if_neg (fun z => g z.1), ckZ_ok (Or.inl rfl)]
theorem m_isDigit {ν : Mem} {N x : Nat} (hN : N ≤ 1000) (hx : x ≤ N) (h : ν.1 26 0 22 = nI N) : fX13_isDigit 0 (nI x) ν = some (if x < N ∧ tkD (ν.1 28 7 x) = true then 1 else 0, ν) := by
  have e := m_byteAt hN hx h
  unfold fX13_isDigit
  simp only [jn_eq]
  by_cases g : x < N
  · rw [if_pos g] at e
    simp only [e, bnd_some]
    by_cases h1 : ν.1 28 7 x < 48
    · rw [if_pos h1, if_neg (fun z => absurd (of_decide_eq_true z.2).1 (Int32.not_le.2 h1)), ckZ_ok (Or.inl rfl)]
    · rw [if_neg h1]
      by_cases h2 : (57 : Int32) < ν.1 28 7 x
      · rw [if_pos h2, if_neg (fun z => absurd (of_decide_eq_true z.2).2 (Int32.not_le.2 h2)), ckZ_ok (Or.inl rfl)]
      · rw [if_neg h2, if_pos ⟨g, decide_eq_true ⟨Int32.not_lt.1 h1, Int32.not_lt.1 h2⟩⟩, ckZ_ok (Or.inr rfl)]
  · rw [if_neg g] at e
    simp only [e, bnd_some]
    rw [if_pos (show (-1 : Int32) < 48 by decide), if_neg (fun z => g z.1), ckZ_ok (Or.inl rfl)]
/-- the model, standing at the token from s to e of kind k -/
def scM (ν : Mem) (s e k : Nat) : Mem := wI (wI (wI ν 26 0 24 (nI s)) 26 0 23 (nI e)) 26 0 25 (nI k)
theorem m_scan {ν : Mem} {N x : Nat} (hN : N ≤ 1000) (hx : x ≤ N) (h22 : ν.1 26 0 22 = nI N) (h23 : ν.1 26 0 23 = nI x) (fu : Nat) :
    fX13_scan (fu + 1001) 0 ν = some ((), if tkS (ν.1 28 7) N x < N then scM ν (tkS (ν.1 28 7) N x) (tkE (ν.1 28 7) N (tkS (ν.1 28 7) N x)) (tkK (ν.1 28 7) (tkS (ν.1 28 7) N x)) else scM ν N N 0) := by
  unfold fX13_scan
  simp only [jn_eq, nm_eq]
  generalize hb : ν.1 28 7 = b
  -- where a token begins
  have tok : ∀ y, y ≤ N → (y = N ∨ tkB (b y) = false) → (if nI y < nI N then
      (bnd (fX13_isLetter 0 ((wI (wI ν 26 0 23 (nI y)) 26 0 24 (nI y)).1 26 0 23) (wI (wI ν 26 0 23 (nI y)) 26 0 24 (nI y))) fun x20 μ19 =>
          if x20 = 0 then (
            bnd (fX13_isDigit 0 (μ19.1 26 0 23) μ19) fun x29 μ28 =>
            if x29 = 0 then some ((), wI (wI μ28 26 0 23 ((μ28.1 26 0 23) + (1 : Int32))) 26 0 25 3)
            else lp (fun _ => none) (fu + 1001) (fun j120 μ22 => bnd (fX13_isDigit 0 (μ22.1 26 0 23) μ22) fun x24 μ23 => if x24 = 0 then some ((), wI μ23 26 0 25 2) else j120 (wI μ23 26 0 23 ((μ23.1 26 0 23) + (1 : Int32)))) μ28)
          else lp (fun _ => none) (fu + 1001) (fun j77 μ13 => bnd (fX13_isLetter 0 (μ13.1 26 0 23) μ13) fun x15 μ14 => if x15 = 0 then some ((), wI μ14 26 0 25 1) else j77 (wI μ14 26 0 23 ((μ14.1 26 0 23) + (1 : Int32)))) μ19)
      else some ((), wI (wI (wI ν 26 0 23 (nI y)) 26 0 24 (nI y)) 26 0 25 0)) = some ((), if y < N then scM ν y (tkE b N y) (tkK b y) else scM ν N N 0) := fun y hy hb2 => by
    have w : ∀ z, wI (wI ν 26 0 23 (nI z)) 26 0 24 (nI y) = wI (wI ν 26 0 24 (nI y)) 26 0 23 (nI z) := fun z => wI_comm (by omega)
    have c22 : ∀ z, (wI (wI ν 26 0 24 (nI y)) 26 0 23 (nI z)).1 26 0 22 = nI N := fun z => (wI_o (by omega)).trans ((wI_o (by omega)).trans h22)
    have c23 : ∀ z, (wI (wI ν 26 0 24 (nI y)) 26 0 23 (nI z)).1 26 0 23 = nI z := fun z => wI_same
    have cb : ∀ z k, (wI (wI ν 26 0 24 (nI y)) 26 0 23 (nI z)).1 28 7 k = b k := fun z k => (wI_o (by omega)).trans ((wI_o (by omega)).trans (by rw [hb]))
    rw [w]
    by_cases g : y < N
    · rw [if_pos (nI_lt g (by omega)), if_pos g, c23, m_isLetter hN hy (c22 y), bnd_some, cb]
      by_cases gl : tkL (b y) = true
      · have v1 : (if y < N ∧ tkL (b y) = true then (1 : Int32) else 0) = 1 := if_pos ⟨g, gl⟩
        rw [v1, if_neg (show ¬ (1 : Int32) = 0 by decide)]
        unfold tkE tkK
        rw [if_pos gl, if_pos gl]
        refine lp_ind (P := fun d (f : Mem → Option (Unit × Mem)) => ∀ z, z ≤ N → N - z ≤ d → f (wI (wI ν 26 0 24 (nI y)) 26 0 23 (nI z)) = some ((), scM ν y (tkF tkL b (N - z) z) 1)) (fun f z hz hd => ?_) (fun d f ih z hz hd => ?_) 1000 fu y hy (by omega)
        · have v3 : ¬ (z < N ∧ tkL (b z) = true) := fun q => absurd q.1 (by omega)
          rw [c23, m_isLetter hN hz (c22 z), bnd_some, cb, if_neg v3, if_pos (show (0 : Int32) = 0 from rfl), tk_unf, if_neg v3]; rfl
        · rw [c23, m_isLetter hN hz (c22 z), bnd_some, cb, tk_unf]
          by_cases q : z < N ∧ tkL (b z) = true
          · rw [if_pos q, if_pos q, if_neg (show ¬ (1 : Int32) = 0 by decide), c23, nI_1, wI_wI]
            exact ih (z + 1) (by omega) (by omega)
          · rw [if_neg q, if_neg q, if_pos (show (0 : Int32) = 0 from rfl)]; rfl
      · have v1 : (if y < N ∧ tkL (b y) = true then (1 : Int32) else 0) = 0 := if_neg (fun q => gl q.2)
        rw [v1, if_pos (show (0 : Int32) = 0 from rfl), c23, m_isDigit hN hy (c22 y), bnd_some, cb]
        unfold tkE tkK
        rw [if_neg gl, if_neg gl]
        by_cases gd : tkD (b y) = true
        · have v2 : (if y < N ∧ tkD (b y) = true then (1 : Int32) else 0) = 1 := if_pos ⟨g, gd⟩
          rw [v2, if_neg (show ¬ (1 : Int32) = 0 by decide), if_pos gd, if_pos gd]
          refine lp_ind (P := fun d (f : Mem → Option (Unit × Mem)) => ∀ z, z ≤ N → N - z ≤ d → f (wI (wI ν 26 0 24 (nI y)) 26 0 23 (nI z)) = some ((), scM ν y (tkF tkD b (N - z) z) 2)) (fun f z hz hd => ?_) (fun d f ih z hz hd => ?_) 1000 fu y hy (by omega)
          · have v3 : ¬ (z < N ∧ tkD (b z) = true) := fun q => absurd q.1 (by omega)
            rw [c23, m_isDigit hN hz (c22 z), bnd_some, cb, if_neg v3, if_pos (show (0 : Int32) = 0 from rfl), tk_unf, if_neg v3]; rfl
          · rw [c23, m_isDigit hN hz (c22 z), bnd_some, cb, tk_unf]
            by_cases q : z < N ∧ tkD (b z) = true
            · rw [if_pos q, if_pos q, if_neg (show ¬ (1 : Int32) = 0 by decide), c23, nI_1, wI_wI]
              exact ih (z + 1) (by omega) (by omega)
            · rw [if_neg q, if_neg q, if_pos (show (0 : Int32) = 0 from rfl)]; rfl
        · have v2 : (if y < N ∧ tkD (b y) = true then (1 : Int32) else 0) = 0 := if_neg (fun q => gd q.2)
          rw [v2, if_pos (show (0 : Int32) = 0 from rfl), if_neg gd, if_neg gd, c23, nI_1, wI_wI]; rfl
    · have e : y = N := by omega
      subst e
      rw [if_neg (fun z => absurd ((nI_ltI (by omega) (by omega)).1 z) (by omega)), if_neg g]; rfl
  have k22 : ∀ z, (wI ν 26 0 23 (nI z)).1 26 0 22 = nI N := fun z => (wI_o (by omega)).trans h22
  have k23 : ∀ z, (wI ν 26 0 23 (nI z)).1 26 0 23 = nI z := fun z => wI_same
  have kb : ∀ z k, (wI ν 26 0 23 (nI z)).1 28 7 k = b k := fun z k => (wI_o (by omega)).trans (by rw [hb])
  have e0 : ν = wI ν 26 0 23 (nI x) := by rw [← h23]; exact wI_id.symm
  have l22 : ∀ z, (wI (wI ν 26 0 23 (nI z)) 26 0 24 (nI z)).1 26 0 22 = nI N := fun z => (wI_o (by omega)).trans (k22 z)
  have l23 : ∀ z, (wI (wI ν 26 0 23 (nI z)) 26 0 24 (nI z)).1 26 0 23 = nI z := fun z => (wI_o (by omega)).trans (k23 z)
  have eT : ∀ y, (y = N ∨ tkB (b y) = false) → y ≤ N → tkS b N y = y := fun y h1 h2 => by
    unfold tkS
    rw [tk_unf, if_neg]
    rintro ⟨q1, q2⟩
    exact h1.elim (by omega) (fun z => by rw [q2] at z; exact absurd z (by decide))
  conv => lhs; rw [e0]
  refine lp_ind (P := fun d (f : Mem → Option (Unit × Mem)) => ∀ y, y ≤ N → N - y ≤ d → f (wI ν 26 0 23 (nI y)) = some ((), if tkS b N y < N then scM ν (tkS b N y) (tkE b N (tkS b N y)) (tkK b (tkS b N y)) else scM ν N N 0)) (fun f y hy hd => ?_) (fun d f ih y hy hd => ?_) 1000 fu x hx (by omega)
  · have hyN : y = N := by omega
    have ev : (if y < N then b y else -1) = -1 := if_neg (by omega)
    rw [k23, m_byteAt hN hy (k22 y), bnd_some, kb, ev, if_neg (show ¬ (-1 : Int32) = 32 by decide), k23, m_byteAt hN hy (k22 y), bnd_some, kb, ev, if_pos (show ¬ (-1 : Int32) = 10 by decide), k23, l23, l22, eT y (Or.inl hyN) hy]
    exact tok y hy (Or.inl hyN)
  · rw [k23, m_byteAt hN hy (k22 y), bnd_some, kb]
    by_cases q : y < N ∧ tkB (b y) = true
    · have es : tkS b N y = tkS b N (y + 1) := by unfold tkS; rw [tk_unf, if_pos q]
      have en : wI (wI ν 26 0 23 (nI y)) 26 0 23 (nI y + 1) = wI ν 26 0 23 (nI (y + 1)) := by rw [nI_1, wI_wI]
      rw [if_pos q.1, es]
      by_cases h3 : b y = 32
      · rw [if_pos h3, k23, en]; exact ih (y + 1) (by omega) (by omega)
      · have h4 : b y = 10 := (of_decide_eq_true q.2).resolve_left h3
        rw [if_neg h3, k23, m_byteAt hN hy (k22 y), bnd_some, kb, if_pos q.1, if_neg (fun z => z h4), k23, en]; exact ih (y + 1) (by omega) (by omega)
    · have hs : y = N ∨ tkB (b y) = false := by
        by_cases g : y < N
        · exact Or.inr (Bool.eq_false_iff.2 fun z => q ⟨g, z⟩)
        · exact Or.inl (by omega)
      have n1 : ¬ (if y < N then b y else -1) = (32 : Int32) := fun z => by
        by_cases g : y < N
        · rw [if_pos g] at z; exact q ⟨g, decide_eq_true (Or.inl z)⟩
        · rw [if_neg g] at z; exact absurd z (by decide)
      have n2 : ¬ (if y < N then b y else -1) = (10 : Int32) := fun z => by
        by_cases g : y < N
        · rw [if_pos g] at z; exact q ⟨g, decide_eq_true (Or.inr z)⟩
        · rw [if_neg g] at z; exact absurd z (by decide)
      rw [if_neg n1, k23, m_byteAt hN hy (k22 y), bnd_some, kb, if_pos n2, k23, l23, l22, eT y hs hy]
      exact tok y hy hs
