/-! PARSING in pairs: the values of numbers -/
/-- the model's value of the digits from x on, d of them, v before -/
def vaM (b : Nat → Int32) : Nat → Nat → Int32 → Int32
  | 0, _, v => v
  | d + 1, x, v => vaM b d (x + 1) (if (10 * v + b x) - 48 < (1000000 : Int32) then (10 * v + b x) - 48 else 1000000)
theorem tk_all {P : Int32 → Bool} {c : Nat → Int32} : ∀ d x k, x ≤ k → k < tkF P c d x → P (c k) = true := by
  intro d
  induction d with
  | zero => intro x k h1 h2; exact absurd (show k < x from h2) (by omega)
  | succ d ih =>
    intro x k h1 h2
    have h2' : k < (if P (c x) = true then tkF P c d (x + 1) else x) := h2
    by_cases g : P (c x) = true
    · rw [if_pos g] at h2'
      by_cases e : k = x
      · rw [e]; exact g
      · exact ih (x + 1) k (by omega) h2'
    · rw [if_neg g] at h2'; omega
def VR (a m : Int32) : Prop := ∃ k : Nat, k ≤ 1000000 ∧ m = nI k ∧ a = nI (min k 100000)
theorem dg_of {c : Int32} (h : tkD c = true) : ∃ d : Nat, d ≤ 9 ∧ c = nI (d + 48) := by
  have z := of_decide_eq_true h
  obtain ⟨j, hj, rfl⟩ := nI_of2 (x := c) (M := 57) (n := 57) (by decide) (fun w => absurd (Int32.lt_of_le_of_lt z.1 w) (by decide)) z.2
  have := (nI_leI (a := 48) (by decide) (by omega)).1 z.1
  exact ⟨j - 48, by omega, by congr 1; omega⟩
theorem vr_step {a m c : Int32} (h : VR a m) (hc : tkD c = true) : VR (if (100000 : Int32) < (a * 10 + c) - 48 then 100000 else (a * 10 + c) - 48) (if (10 * m + c) - 48 < (1000000 : Int32) then (10 * m + c) - 48 else 1000000) := by
  obtain ⟨k, hk, rfl, rfl⟩ := h
  obtain ⟨d, hd, rfl⟩ := dg_of hc
  have e1 : (nI (min k 100000) * 10 + nI (d + 48)) - 48 = nI (min k 100000 * 10 + d) := by
    rw [show nI (min k 100000) * 10 = nI (min k 100000 * 10) from pk_mul _ 10, nI_add, show nI (min k 100000 * 10 + (d + 48)) - 48 = nI (min k 100000 * 10 + (d + 48) - 48) from pk_sub (b := 48) (by omega)]
    congr 1
  have e2 : (10 * nI k + nI (d + 48)) - 48 = nI (10 * k + d) := by
    rw [show (10 : Int32) * nI k = nI (10 * k) from pk_mul 10 k, nI_add, show nI (10 * k + (d + 48)) - 48 = nI (10 * k + (d + 48) - 48) from pk_sub (b := 48) (by omega)]
    congr 1
  rw [e1, e2]
  refine ⟨if 10 * k + d < 1000000 then 10 * k + d else 1000000, by split <;> omega, ?_, ?_⟩
  · by_cases g : 10 * k + d < 1000000
    · rw [if_pos g, if_pos (show nI (10 * k + d) < (1000000 : Int32) from (nI_ltI (b := 1000000) (by omega) (by decide)).2 g)]
    · rw [if_neg g, if_neg (show ¬ nI (10 * k + d) < (1000000 : Int32) from fun z => g ((nI_ltI (b := 1000000) (by omega) (by decide)).1 z))]; rfl
  · by_cases g : 100000 < min k 100000 * 10 + d
    · rw [if_pos (show (100000 : Int32) < nI (min k 100000 * 10 + d) from (nI_ltI (a := 100000) (by decide) (by omega)).2 g)]
      show nI 100000 = _
      congr 1
      split <;> omega
    · rw [if_neg (show ¬ (100000 : Int32) < nI (min k 100000 * 10 + d) from fun z => g ((nI_ltI (a := 100000) (by decide) (by omega)).1 z))]
      congr 1
      split <;> omega
theorem dg_same {N k : Nat} {b c : Nat → Int32} (h : BY N b c) (hk : k < N) (hd : tkD (c k) = true) : b k = c k := by
  obtain ⟨d, hd9, e⟩ := dg_of hd
  have q := h k hk
  rw [q.1]
  exact ((byte_eq q.2 (v := c k) (by rw [e]; exact (nI_leI (a := 0) (by decide) (by omega)).2 (by omega)) (by rw [e]; exact (nI_ltI (b := 128) (by omega) (by decide)).2 (by omega))).2 rfl).symm
theorem va_rel {N : Nat} {b c : Nat → Int32} (hB : BY N b c) : ∀ d x a m, x + d ≤ N → (∀ k, x ≤ k → k < x + d → tkD (c k) = true) → VR a m → VR (vaC c d x a) (vaM b d x m) := by
  intro d
  induction d with
  | zero => intro x a m _ _ h; exact h
  | succ d ih =>
    intro x a m hx hD h
    have dx := hD x (Nat.le_refl _) (by omega)
    show VR (vaC c d (x + 1) _) (vaM b d (x + 1) _)
    rw [dg_same hB (by omega) dx]
    exact ih (x + 1) _ _ (by omega) (fun k h1 h2 => hD k (by omega) (by omega)) (vr_step h dx)
/-- a number's value, both ways -/
theorem va_tok {N s : Nat} {b c : Nat → Int32} (hB : BY N b c) (hs : s < N) (hd : tkD (c s) = true) : VR (tkV c N s) (vaM b (tkE c N s - s) s 0) := by
  have gt := tk_gt (c := c) hs
  have eE : tkE c N s = tkF tkD c (N - (s + 1)) (s + 1) := by unfold tkE; rw [if_neg (tk_LD hd), if_pos hd, tk_unf, if_pos ⟨hs, hd⟩]
  have al : ∀ k, s + 1 ≤ k → k < s + 1 + (tkE c N s - (s + 1)) → tkD (c k) = true := fun k h1 h2 => tk_all (P := tkD) (c := c) (N - (s + 1)) (s + 1) k h1 (by rw [← eE]; omega)
  obtain ⟨d, hd9, ed⟩ := dg_of hd
  unfold tkV
  rw [if_pos hd, show tkE c N s - s = (tkE c N s - (s + 1)) + 1 by omega]
  show VR _ (vaM b (tkE c N s - (s + 1)) (s + 1) _)
  refine va_rel hB _ _ _ _ (by omega) al ?_
  rw [dg_same hB hs hd, ed]
  have e1 : nI (d + 48) - 48 = nI d := by rw [show nI (d + 48) - 48 = nI (d + 48 - 48) from pk_sub (b := 48) (by omega)]; congr 1
  have e2 : ((10 : Int32) * 0 + nI (d + 48)) - 48 = nI d := by rw [show (10 : Int32) * 0 = nI 0 from rfl, nI_add, Nat.zero_add]; exact e1
  rw [e1, e2, if_pos (show nI d < (1000000 : Int32) from (nI_ltI (b := 1000000) (by omega) (by decide)).2 (by omega))]
  exact ⟨d, by omega, rfl, by congr 1; omega⟩
