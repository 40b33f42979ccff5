/-! TOKENS, the class's side: letters, digits, words -/
theorem c_isLetter {c : Int32} {μ : Mem} : fX11_isLetter c μ = some (if tkL c = true then 1 else 0, μ) := by
  unfold fX11_isLetter
  simp only [jn_eq]
  by_cases h1 : c < 97
  · rw [if_pos h1, if_neg (fun z => absurd (of_decide_eq_true z).1 (Int32.not_le.2 h1)), ckZ_ok (Or.inl rfl)]
  · rw [if_neg h1]
    by_cases h2 : (122 : Int32) < c
    · rw [if_pos h2, if_neg (fun z => absurd (of_decide_eq_true z).2 (Int32.not_le.2 h2)), ckZ_ok (Or.inl rfl)]
    · rw [if_neg h2, if_pos (show tkL c = true from decide_eq_true ⟨Int32.not_lt.1 h1, Int32.not_lt.1 h2⟩), ckZ_ok (Or.inr rfl)]
theorem c_isDigit {c : Int32} {μ : Mem} : fX11_isDigit c μ = some (if tkD c = true then 1 else 0, μ) := by
  unfold fX11_isDigit
  simp only [jn_eq]
  by_cases h1 : c < 48
  · rw [if_pos h1, if_neg (fun z => absurd (of_decide_eq_true z).1 (Int32.not_le.2 h1)), ckZ_ok (Or.inl rfl)]
  · rw [if_neg h1]
    by_cases h2 : (57 : Int32) < c
    · rw [if_pos h2, if_neg (fun z => absurd (of_decide_eq_true z).2 (Int32.not_le.2 h2)), ckZ_ok (Or.inl rfl)]
    · rw [if_neg h2, if_pos (show tkD c = true from decide_eq_true ⟨Int32.not_lt.1 h1, Int32.not_lt.1 h2⟩), ckZ_ok (Or.inr rfl)]
/-- the j-th letter of the text i -/
def txC (i j : Nat) : Int32 := (((txI.getD i []).getD j 0 &&& 255).toUInt32 % 65536).toInt32
theorem f_charAt {i j : Nat} {μ : Mem} (h : j < txN.getD i 0) (hl : txN.getD i 0 < 2 ^ 31) : fJ0_charAt_5068e i (nI j) μ = some (txC i j, μ) := by
  unfold fJ0_charAt_5068e fJ1_charAt_3b067 fJ0_checkIndex_df160
  have e : (Int32.ofNat (txN.getD i 0)) = nI (txN.getD i 0) := rfl
  rw [e, if_neg (nI_pos (by omega)), if_pos (nI_lt h hl), bnd_some, ckI_nI h hl, nI_clamp (by omega)]
  rfl
theorem tx_len : ∀ i, txN.getD i 0 ≤ 12 := fun i => by
  by_cases h : i < 70
  · revert i; decide
  · rw [List.getD_eq_getElem?_getD, List.getElem?_eq_none (by show 70 ≤ i; omega)]; decide
/-- the bytes from x on spell the text i from its j-th letter on, d letters -/
def wdG (c : Nat → Int32) (x i : Nat) : Nat → Nat → Bool
  | 0, _ => true
  | d + 1, j => decide (txC i j = c (x + j)) && wdG c x i d (j + 1)
/-- the bytes from x to e spell the text i -/
def wdE (c : Nat → Int32) (x e i : Nat) : Bool := decide (x + txN.getD i 0 = e) && wdG c x i (txN.getD i 0) 0
theorem c_isSpelled {μ : Mem} {s x e : Nat} (hx : x ≤ e) (he : e ≤ 1000) (fu : Nat) : fX10_isSpelled (fu + 13) s 0 (nI x) (nI e) μ = some (if wdE (μ.1 1 0) x e (syT.getD s 0) = true then 1 else 0, μ) := by
  unfold fX10_isSpelled
  simp only [jn_eq, nm_eq]
  generalize syT.getD s 0 = i
  have hl := tx_len i
  have eL : ∀ μ, fJ0_length_8abf5 i μ = some (nI (txN.getD i 0), μ) := fun _ => rfl
  rw [if_neg (nI_pos (by omega)), if_neg (show ¬ Int32.ofNat 1000 < nI e from fun z => absurd ((nI_ltI (a := 1000) (by decide) (by omega)).1 z) (by omega)), eL, bnd_some, show nI e - nI x = nI (e - x) from pk_sub hx]
  by_cases h : x + txN.getD i 0 = e
  · rw [if_pos (show nI (txN.getD i 0) = nI (e - x) by congr 1; omega)]
    have ew : wdE (μ.1 1 0) x e i = wdG (μ.1 1 0) x i (txN.getD i 0) 0 := by unfold wdE; rw [decide_eq_true h, Bool.true_and]
    rw [ew]
    refine lp_ind (P := fun d (f : Mem → Int32 → Option (Int32 × Mem)) => ∀ j q, j + q = txN.getD i 0 → q ≤ d → f μ (nI j) = some (if wdG (μ.1 1 0) x i q j = true then 1 else 0, μ)) (fun f j q hq hd => ?_) (fun d f ih j q hq hd => ?_) 12 fu 0 _ (by omega) hl
    · have q0 : q = 0 := by omega
      subst q0
      rw [eL, bnd_some, if_pos (show nI (txN.getD i 0) ≤ nI j from (nI_leI (by omega) (by omega)).2 (by omega)), ckZ_ok (Or.inr rfl)]
      rfl
    · rw [eL, bnd_some]
      obtain _ | q := q
      · rw [if_pos (show nI (txN.getD i 0) ≤ nI j from (nI_leI (by omega) (by omega)).2 (by omega)), ckZ_ok (Or.inr rfl)]
        rfl
      · rw [if_neg (show ¬ nI (txN.getD i 0) ≤ nI j from fun z => absurd ((nI_leI (by omega) (by omega)).1 z) (by omega)), f_charAt (by omega) (by omega), bnd_some, nI_add, ckI_nI (show x + j < 1000 by omega) (by decide), nI_clamp (n := x + j) (by omega), nI_1]
        show _ = some (if (decide (txC i j = μ.1 1 0 (x + j)) && wdG (μ.1 1 0) x i q (j + 1)) = true then 1 else 0, μ)
        by_cases g : txC i j = μ.1 1 0 (x + j)
        · rw [if_pos g, decide_eq_true g, Bool.true_and]
          exact ih (j + 1) q (by omega) (by omega)
        · rw [if_neg g, decide_eq_false g, Bool.false_and, ckZ_ok (Or.inl rfl)]
          rfl
  · rw [if_neg (show ¬ nI (txN.getD i 0) = nI (e - x) from fun z => h (by have := nI_inj (a := txN.getD i 0) (b := e - x) (by omega) (by omega) z; omega)), ckZ_ok (Or.inl rfl)]
    unfold wdE
    rw [decide_eq_false h, Bool.false_and]
    rfl
/-- the first symbol from s on, among d, that the bytes from x to e spell -/
def spG (c : Nat → Int32) (x e n : Nat) : Nat → Nat → Nat
  | 0, _ => n
  | d + 1, s => if wdE c x e (syT.getD s 0) then s else spG c x e n d (s + 1)
theorem c_spelled {μ : Mem} {x e n : Nat} (hx : x ≤ e) (he : e ≤ 1000) (fu : Nat) : fX10_spelled (fu + 75) 0 (nI x) (nI e) n μ = some (spG (μ.1 1 0) x e n 74 0, μ) := by
  unfold fX10_spelled
  simp only [jn_eq, nm_eq]
  have eS : ∀ s, fX10_isSpelled (fu + 75) s 0 (nI x) (nI e) μ = some (if wdE (μ.1 1 0) x e (syT.getD s 0) = true then 1 else 0, μ) := fun s => c_isSpelled hx he (fu + 62)
  refine lp_ind (P := fun d (f : Mem → Int32 → Option (Nat × Mem)) => ∀ s, s + d = 74 → f μ (nI s) = some (spG (μ.1 1 0) x e n d s, μ)) (fun f s hs => ?_) (fun d f ih s hs => ?_) 74 fu 0 rfl
  · have : s = 74 := by omega
    subst this
    exact if_pos (by decide)
  · rw [if_neg (show ¬ (74 : Int32) ≤ nI s from fun z => absurd ((nI_leI (a := 74) (by decide) (by omega)).1 z) (by omega)), ckI_nI (show s < 74 by omega) (by decide), nI_clamp (n := s) (by omega), eS, bnd_some]
    show _ = some (if wdE (μ.1 1 0) x e (syT.getD s 0) = true then s else spG (μ.1 1 0) x e n d (s + 1), μ)
    by_cases g : wdE (μ.1 1 0) x e (syT.getD s 0) = true
    · rw [if_pos g, if_pos g, if_neg (show ¬ (1 : Int32) = 0 by decide), ckI_nI (show s < 74 by omega) (by decide)]
    · rw [if_neg g, if_neg g, if_pos (show (0 : Int32) = 0 from rfl), nI_1]
      exact ih (s + 1) (by omega)
